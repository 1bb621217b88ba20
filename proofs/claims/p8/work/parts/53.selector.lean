theorem w_1111 : (.fieldLink "QueryBenchModel" 56 "QueryBenchModel" "said" "LQueryBenchModel$Tree;" : Cond) ∈ gtbl := gt_in 1111 (by decide +kernel) (by decide +kernel)
theorem w_1407 : (.methodLink "QueryBenchModel" 269 ⟨"QueryBenchModel", "row", "(I)I"⟩ : Cond) ∈ gtbl := gt_in 1407 (by decide +kernel) (by decide +kernel)
theorem w_1409 : (.instanceMethod ⟨"QueryBenchModel", "row", "(I)I"⟩ : Cond) ∈ gtbl := gt_in 1409 (by decide +kernel) (by decide +kernel)
theorem w_1435 : (.methodLink "QueryBenchModel" 300 ⟨"QueryBenchModel", "or", "()I"⟩ : Cond) ∈ gtbl := gt_in 1435 (by decide +kernel) (by decide +kernel)
theorem w_1437 : (.instanceMethod ⟨"QueryBenchModel", "or", "()I"⟩ : Cond) ∈ gtbl := gt_in 1437 (by decide +kernel) (by decide +kernel)
theorem w_1465 : (.methodLink "QueryBenchModel" 303 ⟨"QueryBenchModel", "whole", "(II)Z"⟩ : Cond) ∈ gtbl := gt_in 1465 (by decide +kernel) (by decide +kernel)
theorem w_1467 : (.instanceMethod ⟨"QueryBenchModel", "whole", "(II)Z"⟩ : Cond) ∈ gtbl := gt_in 1467 (by decide +kernel) (by decide +kernel)
theorem dgN_nat {f : Nat → Int32} {n i : Nat} : ∃ B, (dgN f n i).1 = Int64.ofNat B ∧ B < 10 ^ 17 := by
  unfold dgN
  split
  · exact ⟨0, rfl, by decide⟩
  · obtain ⟨B, b1, b2, b3, b4⟩ := dgM_ok (f := f) (n := n) (n + 1) i 0 0 (by decide) (by decide)
    rw [show Int64.ofNat 0 = 0 from rfl] at b1
    exact ⟨B, b1, b2⟩
theorem whB_gL {f : Nat → Int32} {n i : Nat} {mi : Bool} {p : Int64 × Nat} (h : whB f n i mi = some p) : gL p.1 := by
  unfold whB at h
  split at h
  · cases h
  · split at h
    · cases h
    · next h1 h2 =>
      cases h
      obtain ⟨B, b1, b2⟩ := dgN_nat (f := f) (n := n) (i := i)
      have hG : B ≤ 9007199254740991 := Nat.not_lt.mp (fun q => h2 (by rw [b1]; exact (G_nat (by omega)).mpr q))
      have e0 : (Int64.ofNat B).toInt = (B : Int) := toI_ofN (by omega)
      have e1 : (-Int64.ofNat B).toInt = -(B : Int) := by rw [Int64.toInt_neg, e0]; apply Int.bmod_eq_of_le <;> omega
      show gL (if mi = true then -(dgN f n i).1 else (dgN f n i).1)
      rw [b1]
      unfold gL
      split
      · rw [e1]; omega
      · rw [e0]; omega
theorem whM_gL {f : Nat → Int32} {n i j : Nat} {x : Int64} (h : whM f n i = some (x, j)) : gL x := by
  unfold whM at h
  split at h
  · exact whB_gL h
  · exact whB_gL h
theorem QOK_upd {g : Nat → Int64} (h : ∀ j, gL (g j)) {k : Nat} {x : Int64} (hx : gL x) : ∀ j, gL (vp_updL g k x j) := fun j => by
  unfold vp_updL
  split
  · exact hx
  · exact h j
/-- ways that meet: the rest is shown once -/
theorem w_join {p : Program} {l : Launch} {e : Env} {R : Room} {s : State} {m : MethodId} {args : Array Value} {below : List Frame} {meth : Method} {c : Code} {Q : State → Prop} {cells slots nL : Nat} {A : Nat → Prop} {H0 Hh : Heap} {lh : List Loc} {D : va_G} {cl : List vw_C} {g : JFrame} (pc : Nat) {σ : Type} (Inv : σ → Prop) (k n : σ → Nat) (ws : σ → va_W) (lv : σ → List (Nat × Value))
    (main : (∀ (y : σ) (H : Heap) (locs : List Loc) (ls : Array Slot), Inv y → va_P D cl (ws y) H → va_D A (ws y) → va_S A H0 H locs → lv_has ls nL (lv y) → W p l e R s m args below meth c H locs (k y) (n y) Q (F0 m pc ls [])) → W p l e R s m args below meth c Hh lh cells slots Q g)
    (rest : ∀ (y : σ) (H : Heap) (locs : List Loc) (ls : Array Slot), Inv y → va_P D cl (ws y) H → va_D A (ws y) → va_S A H0 H locs → lv_has ls nL (lv y) → W p l e R s m args below meth c H locs (k y) (n y) Q (F0 m pc ls [])) : W p l e R s m args below meth c Hh lh cells slots Q g := main rest
theorem slP_n {f : Nat → Int32} {n j : Nat} (h : ¬ numC (hereV f n (skipH f n (j + 1)))) : slP f n j = slT f n none (skipH f n (j + 1)) := by unfold slP; rw [if_neg h]
theorem slP_y {f : Nat → Int32} {n j j2 : Nat} {x : Int64} (h : numC (hereV f n (skipH f n (j + 1)))) (hw : whM f n (skipH f n (j + 1)) = some (x, j2)) : slP f n j = slT f n (some x) j2 := by unfold slP; rw [if_pos h, hw]; rfl
theorem slP_f {f : Nat → Int32} {n j : Nat} (h : numC (hereV f n (skipH f n (j + 1)))) (hw : whM f n (skipH f n (j + 1)) = none) : slP f n j = none := by unfold slP; rw [if_pos h, hw]; rfl
def selT (f : Nat → Int32) (n : Nat) (sg : Bool) (i : Nat) : Option (Nat × Bool × QT) := if hereV f n i = 58 then (slP f n i).map (fun j => (j.1, false, slcS none j.2.1 j.2.2)) else match whM f n i with
    | none => none
    | some p => if ¬ hereV f n (skipH f n p.2) = 58 ∨ sg = true then some (p.2, true, idxS p.1) else (slP f n (skipH f n p.2)).map (fun j => (j.1, false, slcS (some p.1) j.2.1 j.2.2))
/-- what row r says of a slice: its begin, its end -/
def slA (Q : QS) (r : Nat) (a : Option Int64) : Prop := (Q.qf (8 * r + 2) = 0 ∨ Q.qf (8 * r + 2) = 1) ∧ a = (if Q.qf (8 * r + 2) &&& 1 = 0 then none else some (Q.ef (3 * r + 0)))
def slB (Q : QS) (r : Nat) (a b : Option Int64) : Prop := (Q.qf (8 * r + 2) = 0 ∨ Q.qf (8 * r + 2) = 1 ∨ Q.qf (8 * r + 2) = 2 ∨ Q.qf (8 * r + 2) = 3) ∧ a = (if Q.qf (8 * r + 2) &&& 1 = 0 then none else some (Q.ef (3 * r + 0))) ∧ b = (if Q.qf (8 * r + 2) &&& 2 = 0 then none else some (Q.ef (3 * r + 1)))
theorem slA.st {Q : QS} {r : Nat} (h : Q.qf (8 * r + 2) = 0) : slA Q r none := ⟨Or.inl h, by rw [h]; rfl⟩
theorem slA.v {Q Q2 : QS} {r : Nat} {v : Int64} (h : Q.qf (8 * r + 2) = 0) (hq : Q2.qf (8 * r + 2) = Q.qf (8 * r + 2) ||| 1 <<< (nI 0 &&& 31)) (hv : Q2.ef (3 * r + 0) = v) : slA Q2 r (some v) := by
  rw [h, show (0 : Int32) ||| 1 <<< (nI 0 &&& 31) = 1 from by decide] at hq
  exact ⟨Or.inr hq, by rw [hq, hv]; rfl⟩
theorem slA.set {Q Q2 : QS} {r : Nat} {a : Option Int64} {y : Int32} (h : slA Q r a) (hu : Q2.qf = upd Q.qf (8 * r + 0) y) (he : Q2.ef = Q.ef) : slA Q2 r a := by
  unfold slA
  rw [hu, he, pk_un (by omega)]
  exact h
theorem slA.b0 {Q : QS} {r : Nat} {a : Option Int64} (h : slA Q r a) : slB Q r a none := by
  obtain ⟨h1, h2⟩ := h
  refine ⟨h1.elim Or.inl (fun e => Or.inr (Or.inl e)), h2, ?_⟩
  rcases h1 with e | e <;> rw [e] <;> rfl
theorem slA.b1 {Q Q2 : QS} {r : Nat} {a : Option Int64} {v : Int64} (h : slA Q r a) (hq : Q2.qf (8 * r + 2) = Q.qf (8 * r + 2) ||| 1 <<< (nI 1 &&& 31)) (h0 : Q2.ef (3 * r + 0) = Q.ef (3 * r + 0)) (hv : Q2.ef (3 * r + 1) = v) : slB Q2 r a (some v) := by
  obtain ⟨h1, h2⟩ := h
  rcases h1 with e | e
  · rw [e] at hq h2
    rw [show (0 : Int32) ||| 1 <<< (nI 1 &&& 31) = 2 from by decide] at hq
    exact ⟨Or.inr (Or.inr (Or.inl hq)), by rw [hq, h2]; rfl, by rw [hq, hv]; rfl⟩
  · rw [e] at hq h2
    rw [show (1 : Int32) ||| 1 <<< (nI 1 &&& 31) = 3 from by decide] at hq
    exact ⟨Or.inr (Or.inr (Or.inr hq)), by rw [hq, h2, h0]; rfl, by rw [hq, hv]; rfl⟩
theorem slB.c0 {Q : QS} {r : Nat} {a b : Option Int64} (h : slB Q r a b) : slcS a b 1 = slq (Q.qf (8 * r + 2)) (Q.ef (3 * r + 0)) (Q.ef (3 * r + 1)) (Q.ef (3 * r + 2)) := by
  obtain ⟨h1, h2, h3⟩ := h
  unfold slq
  rw [← h2, ← h3]
  rcases h1 with e | e | e | e <;> rw [e] <;> rfl
theorem slB.c1 {Q Q2 : QS} {r : Nat} {a b : Option Int64} {v : Int64} (h : slB Q r a b) (hq : Q2.qf (8 * r + 2) = Q.qf (8 * r + 2) ||| 1 <<< (nI 2 &&& 31)) (h0 : Q2.ef (3 * r + 0) = Q.ef (3 * r + 0)) (h9 : Q2.ef (3 * r + 1) = Q.ef (3 * r + 1)) (hv : Q2.ef (3 * r + 2) = v) : slcS a b v = slq (Q2.qf (8 * r + 2)) (Q2.ef (3 * r + 0)) (Q2.ef (3 * r + 1)) (Q2.ef (3 * r + 2)) := by
  obtain ⟨h1, h2, h3⟩ := h
  unfold slq
  rw [h0, h9, hv, hq]
  rcases h1 with e | e | e | e <;> rw [e] at h2 h3 ⊢ <;> rw [h2, h3] <;> rfl
theorem TX.alr {V V2 : TS} {us : List Int32} (h : TX V V2 us) {Q : QS} {lo hi : Nat} : alr Q V Q V2 lo hi := ⟨fun _ _ _ _ _ => rfl, ⟨fun _ _ _ _ _ => rfl, h.un.1.1, h.un.1.2⟩⟩
/-- a number is put into row s -/
theorem alr_who {Q Q2 : QS} {V : TS} {lo hi s wh : Nat} {y : Int32} {v : Int64} (h1 : Q2.qf = upd Q.qf (8 * s + 2) y) (h2 : Q2.ef = vp_updL Q.ef (3 * s + wh) v) (hw : wh < 3) (h : ¬ (lo ≤ s ∧ s < hi)) : alr Q V Q2 V lo hi := ⟨fun r k r1 r2 hk => by rw [h1]; exact pk_un (by omega), ⟨fun r k r1 r2 hk => by rw [h2]; unfold vp_updL; split; (· exfalso; omega); (· rfl), Nat.le_refl _, fun _ _ => rfl⟩⟩
theorem updL_s {g : Nat → Int64} {k : Nat} {v : Int64} : vp_updL g k v k = v := by unfold vp_updL; split; (· rfl); (· exfalso; omega)
theorem updL_n {g : Nat → Int64} {k j : Nat} {v : Int64} (h : ¬ j = k) : vp_updL g k v j = g j := by unfold vp_updL; split; (· exfalso; omega); (· rfl)
abbrev b_Mo_selector : ByteArray := prog_14_method_42_code
def y_Mo_selector : MethodName := ⟨"QueryBenchModel", "selector", "(Z)I"⟩
abbrev k_Mo_selector : Cond := .code y_Mo_selector b_Mo_selector 5 (some .int)
theorem i_Mo_selector : k_Mo_selector ∈ gtbl := gt_in 1430 (by decide +kernel) (by decide +kernel)
theorem d_Mo_selector_0 : decode b_Mo_selector 0 = .ok (.aload_n 0, 1) := by decide +kernel
theorem d_Mo_selector_1 : decode b_Mo_selector 1 = .ok (.invokevirtual 147, 3) := by decide +kernel
theorem d_Mo_selector_4 : decode b_Mo_selector 4 = .ok (.istore_n 2, 1) := by decide +kernel
theorem d_Mo_selector_5 : decode b_Mo_selector 5 = .ok (.iload_n 2, 1) := by decide +kernel
theorem d_Mo_selector_6 : decode b_Mo_selector 6 = .ok (.bipush 39, 2) := by decide +kernel
theorem d_Mo_selector_8 : decode b_Mo_selector 8 = .ok (.if_icmp .eq 9, 3) := by decide +kernel
theorem d_Mo_selector_11 : decode b_Mo_selector 11 = .ok (.iload_n 2, 1) := by decide +kernel
theorem d_Mo_selector_12 : decode b_Mo_selector 12 = .ok (.bipush 34, 2) := by decide +kernel
theorem d_Mo_selector_14 : decode b_Mo_selector 14 = .ok (.if_icmp .ne 58, 3) := by decide +kernel
theorem d_Mo_selector_17 : decode b_Mo_selector 17 = .ok (.aload_n 0, 1) := by decide +kernel
theorem d_Mo_selector_18 : decode b_Mo_selector 18 = .ok (.iconst 1, 1) := by decide +kernel
theorem d_Mo_selector_19 : decode b_Mo_selector 19 = .ok (.invokevirtual 269, 3) := by decide +kernel
theorem d_Mo_selector_22 : decode b_Mo_selector 22 = .ok (.istore_n 3, 1) := by decide +kernel
theorem d_Mo_selector_23 : decode b_Mo_selector 23 = .ok (.aload_n 0, 1) := by decide +kernel
theorem d_Mo_selector_24 : decode b_Mo_selector 24 = .ok (.iload_n 3, 1) := by decide +kernel
theorem d_Mo_selector_25 : decode b_Mo_selector 25 = .ok (.iconst 2, 1) := by decide +kernel
theorem d_Mo_selector_26 : decode b_Mo_selector 26 = .ok (.aload_n 0, 1) := by decide +kernel
theorem d_Mo_selector_27 : decode b_Mo_selector 27 = .ok (.getfield 56, 3) := by decide +kernel
theorem d_Mo_selector_30 : decode b_Mo_selector 30 = .ok (.getfield 204, 3) := by decide +kernel
theorem d_Mo_selector_33 : decode b_Mo_selector 33 = .ok (.invokevirtual 272, 3) := by decide +kernel
theorem d_Mo_selector_36 : decode b_Mo_selector 36 = .ok (.aload_n 0, 1) := by decide +kernel
theorem d_Mo_selector_37 : decode b_Mo_selector 37 = .ok (.iload_n 2, 1) := by decide +kernel
theorem d_Mo_selector_38 : decode b_Mo_selector 38 = .ok (.aload_n 0, 1) := by decide +kernel
theorem d_Mo_selector_39 : decode b_Mo_selector 39 = .ok (.getfield 56, 3) := by decide +kernel
theorem d_Mo_selector_42 : decode b_Mo_selector 42 = .ok (.invokevirtual 200, 3) := by decide +kernel
theorem d_Mo_selector_45 : decode b_Mo_selector 45 = .ok (.ifCond .ne 5, 3) := by decide +kernel
theorem d_Mo_selector_48 : decode b_Mo_selector 48 = .ok (.iconst (-1), 1) := by decide +kernel
theorem d_Mo_selector_49 : decode b_Mo_selector 49 = .ok (.ireturn, 1) := by decide +kernel
theorem d_Mo_selector_50 : decode b_Mo_selector 50 = .ok (.aload_n 0, 1) := by decide +kernel
theorem d_Mo_selector_51 : decode b_Mo_selector 51 = .ok (.iload_n 3, 1) := by decide +kernel
theorem d_Mo_selector_52 : decode b_Mo_selector 52 = .ok (.iconst 3, 1) := by decide +kernel
theorem d_Mo_selector_53 : decode b_Mo_selector 53 = .ok (.aload_n 0, 1) := by decide +kernel
theorem d_Mo_selector_54 : decode b_Mo_selector 54 = .ok (.getfield 56, 3) := by decide +kernel
theorem d_Mo_selector_57 : decode b_Mo_selector 57 = .ok (.getfield 204, 3) := by decide +kernel
theorem d_Mo_selector_60 : decode b_Mo_selector 60 = .ok (.aload_n 0, 1) := by decide +kernel
theorem d_Mo_selector_61 : decode b_Mo_selector 61 = .ok (.iload_n 3, 1) := by decide +kernel
theorem d_Mo_selector_62 : decode b_Mo_selector 62 = .ok (.iconst 2, 1) := by decide +kernel
theorem d_Mo_selector_63 : decode b_Mo_selector 63 = .ok (.invokevirtual 286, 3) := by decide +kernel
theorem d_Mo_selector_66 : decode b_Mo_selector 66 = .ok (.isub, 1) := by decide +kernel
theorem d_Mo_selector_67 : decode b_Mo_selector 67 = .ok (.invokevirtual 272, 3) := by decide +kernel
theorem d_Mo_selector_70 : decode b_Mo_selector 70 = .ok (.iload_n 3, 1) := by decide +kernel
theorem d_Mo_selector_71 : decode b_Mo_selector 71 = .ok (.ireturn, 1) := by decide +kernel
theorem d_Mo_selector_72 : decode b_Mo_selector 72 = .ok (.iload_n 2, 1) := by decide +kernel
theorem d_Mo_selector_73 : decode b_Mo_selector 73 = .ok (.bipush 42, 2) := by decide +kernel
theorem d_Mo_selector_75 : decode b_Mo_selector 75 = .ok (.if_icmp .ne 23, 3) := by decide +kernel
theorem d_Mo_selector_78 : decode b_Mo_selector 78 = .ok (.iload_n 1, 1) := by decide +kernel
theorem d_Mo_selector_79 : decode b_Mo_selector 79 = .ok (.ifCond .ne 19, 3) := by decide +kernel
theorem d_Mo_selector_82 : decode b_Mo_selector 82 = .ok (.aload_n 0, 1) := by decide +kernel
theorem d_Mo_selector_83 : decode b_Mo_selector 83 = .ok (.dup, 1) := by decide +kernel
theorem d_Mo_selector_84 : decode b_Mo_selector 84 = .ok (.getfield 135, 3) := by decide +kernel
theorem d_Mo_selector_87 : decode b_Mo_selector 87 = .ok (.iconst 1, 1) := by decide +kernel
theorem d_Mo_selector_88 : decode b_Mo_selector 88 = .ok (.iadd, 1) := by decide +kernel
theorem d_Mo_selector_89 : decode b_Mo_selector 89 = .ok (.putfield 135, 3) := by decide +kernel
theorem d_Mo_selector_92 : decode b_Mo_selector 92 = .ok (.aload_n 0, 1) := by decide +kernel
theorem d_Mo_selector_93 : decode b_Mo_selector 93 = .ok (.iconst 2, 1) := by decide +kernel
theorem d_Mo_selector_94 : decode b_Mo_selector 94 = .ok (.invokevirtual 269, 3) := by decide +kernel
theorem d_Mo_selector_97 : decode b_Mo_selector 97 = .ok (.ireturn, 1) := by decide +kernel
theorem d_Mo_selector_98 : decode b_Mo_selector 98 = .ok (.iload_n 2, 1) := by decide +kernel
theorem d_Mo_selector_99 : decode b_Mo_selector 99 = .ok (.bipush 63, 2) := by decide +kernel
theorem d_Mo_selector_101 : decode b_Mo_selector 101 = .ok (.if_icmp .ne 50, 3) := by decide +kernel
theorem d_Mo_selector_104 : decode b_Mo_selector 104 = .ok (.iload_n 1, 1) := by decide +kernel
theorem d_Mo_selector_105 : decode b_Mo_selector 105 = .ok (.ifCond .ne 46, 3) := by decide +kernel
theorem d_Mo_selector_108 : decode b_Mo_selector 108 = .ok (.aload_n 0, 1) := by decide +kernel
theorem d_Mo_selector_109 : decode b_Mo_selector 109 = .ok (.dup, 1) := by decide +kernel
theorem d_Mo_selector_110 : decode b_Mo_selector 110 = .ok (.getfield 135, 3) := by decide +kernel
theorem d_Mo_selector_113 : decode b_Mo_selector 113 = .ok (.iconst 1, 1) := by decide +kernel
theorem d_Mo_selector_114 : decode b_Mo_selector 114 = .ok (.iadd, 1) := by decide +kernel
theorem d_Mo_selector_115 : decode b_Mo_selector 115 = .ok (.putfield 135, 3) := by decide +kernel
theorem d_Mo_selector_118 : decode b_Mo_selector 118 = .ok (.aload_n 0, 1) := by decide +kernel
theorem d_Mo_selector_119 : decode b_Mo_selector 119 = .ok (.iconst 5, 1) := by decide +kernel
theorem d_Mo_selector_120 : decode b_Mo_selector 120 = .ok (.invokevirtual 269, 3) := by decide +kernel
theorem d_Mo_selector_123 : decode b_Mo_selector 123 = .ok (.istore_n 3, 1) := by decide +kernel
theorem d_Mo_selector_124 : decode b_Mo_selector 124 = .ok (.aload_n 0, 1) := by decide +kernel
theorem d_Mo_selector_125 : decode b_Mo_selector 125 = .ok (.invokevirtual 184, 3) := by decide +kernel
theorem d_Mo_selector_128 : decode b_Mo_selector 128 = .ok (.aload_n 0, 1) := by decide +kernel
theorem d_Mo_selector_129 : decode b_Mo_selector 129 = .ok (.invokevirtual 300, 3) := by decide +kernel
theorem d_Mo_selector_132 : decode b_Mo_selector 132 = .ok (.istore 4, 2) := by decide +kernel
theorem d_Mo_selector_134 : decode b_Mo_selector 134 = .ok (.iload 4, 2) := by decide +kernel
theorem d_Mo_selector_136 : decode b_Mo_selector 136 = .ok (.ifCond .ge 5, 3) := by decide +kernel
theorem d_Mo_selector_139 : decode b_Mo_selector 139 = .ok (.iconst (-1), 1) := by decide +kernel
theorem d_Mo_selector_140 : decode b_Mo_selector 140 = .ok (.ireturn, 1) := by decide +kernel
theorem d_Mo_selector_141 : decode b_Mo_selector 141 = .ok (.aload_n 0, 1) := by decide +kernel
theorem d_Mo_selector_142 : decode b_Mo_selector 142 = .ok (.iload_n 3, 1) := by decide +kernel
theorem d_Mo_selector_143 : decode b_Mo_selector 143 = .ok (.iconst 2, 1) := by decide +kernel
theorem d_Mo_selector_144 : decode b_Mo_selector 144 = .ok (.iload 4, 2) := by decide +kernel
theorem d_Mo_selector_146 : decode b_Mo_selector 146 = .ok (.invokevirtual 272, 3) := by decide +kernel
theorem d_Mo_selector_149 : decode b_Mo_selector 149 = .ok (.iload_n 3, 1) := by decide +kernel
theorem d_Mo_selector_150 : decode b_Mo_selector 150 = .ok (.ireturn, 1) := by decide +kernel
theorem d_Mo_selector_151 : decode b_Mo_selector 151 = .ok (.iload_n 2, 1) := by decide +kernel
theorem d_Mo_selector_152 : decode b_Mo_selector 152 = .ok (.bipush 45, 2) := by decide +kernel
theorem d_Mo_selector_154 : decode b_Mo_selector 154 = .ok (.if_icmp .eq 31, 3) := by decide +kernel
theorem d_Mo_selector_157 : decode b_Mo_selector 157 = .ok (.iload_n 2, 1) := by decide +kernel
theorem d_Mo_selector_158 : decode b_Mo_selector 158 = .ok (.invokestatic 166, 3) := by decide +kernel
theorem d_Mo_selector_161 : decode b_Mo_selector 161 = .ok (.ifCond .ne 24, 3) := by decide +kernel
theorem d_Mo_selector_164 : decode b_Mo_selector 164 = .ok (.iload_n 2, 1) := by decide +kernel
theorem d_Mo_selector_165 : decode b_Mo_selector 165 = .ok (.bipush 58, 2) := by decide +kernel
theorem d_Mo_selector_167 : decode b_Mo_selector 167 = .ok (.if_icmp .ne 7, 3) := by decide +kernel
theorem d_Mo_selector_170 : decode b_Mo_selector 170 = .ok (.iload_n 1, 1) := by decide +kernel
theorem d_Mo_selector_171 : decode b_Mo_selector 171 = .ok (.ifCond .eq 14, 3) := by decide +kernel
theorem d_Mo_selector_174 : decode b_Mo_selector 174 = .ok (.aload_n 0, 1) := by decide +kernel
theorem d_Mo_selector_175 : decode b_Mo_selector 175 = .ok (.aload_n 0, 1) := by decide +kernel
theorem d_Mo_selector_176 : decode b_Mo_selector 176 = .ok (.getfield 135, 3) := by decide +kernel
theorem d_Mo_selector_179 : decode b_Mo_selector 179 = .ok (.invokevirtual 151, 3) := by decide +kernel
theorem d_Mo_selector_182 : decode b_Mo_selector 182 = .ok (.pop, 1) := by decide +kernel
theorem d_Mo_selector_183 : decode b_Mo_selector 183 = .ok (.iconst (-1), 1) := by decide +kernel
theorem d_Mo_selector_184 : decode b_Mo_selector 184 = .ok (.ireturn, 1) := by decide +kernel
theorem d_Mo_selector_185 : decode b_Mo_selector 185 = .ok (.aload_n 0, 1) := by decide +kernel
theorem d_Mo_selector_186 : decode b_Mo_selector 186 = .ok (.iconst 3, 1) := by decide +kernel
theorem d_Mo_selector_187 : decode b_Mo_selector 187 = .ok (.invokevirtual 269, 3) := by decide +kernel
theorem d_Mo_selector_190 : decode b_Mo_selector 190 = .ok (.istore_n 3, 1) := by decide +kernel
theorem d_Mo_selector_191 : decode b_Mo_selector 191 = .ok (.aload_n 0, 1) := by decide +kernel
theorem d_Mo_selector_192 : decode b_Mo_selector 192 = .ok (.iload_n 3, 1) := by decide +kernel
theorem d_Mo_selector_193 : decode b_Mo_selector 193 = .ok (.iconst 2, 1) := by decide +kernel
theorem d_Mo_selector_194 : decode b_Mo_selector 194 = .ok (.iconst 0, 1) := by decide +kernel
theorem d_Mo_selector_195 : decode b_Mo_selector 195 = .ok (.invokevirtual 272, 3) := by decide +kernel
theorem d_Mo_selector_198 : decode b_Mo_selector 198 = .ok (.iload_n 2, 1) := by decide +kernel
theorem d_Mo_selector_199 : decode b_Mo_selector 199 = .ok (.bipush 58, 2) := by decide +kernel
theorem d_Mo_selector_201 : decode b_Mo_selector 201 = .ok (.if_icmp .eq 45, 3) := by decide +kernel
theorem d_Mo_selector_204 : decode b_Mo_selector 204 = .ok (.aload_n 0, 1) := by decide +kernel
theorem d_Mo_selector_205 : decode b_Mo_selector 205 = .ok (.iload_n 3, 1) := by decide +kernel
theorem d_Mo_selector_206 : decode b_Mo_selector 206 = .ok (.iconst 0, 1) := by decide +kernel
theorem d_Mo_selector_207 : decode b_Mo_selector 207 = .ok (.invokevirtual 303, 3) := by decide +kernel
theorem d_Mo_selector_210 : decode b_Mo_selector 210 = .ok (.ifCond .ne 5, 3) := by decide +kernel
theorem d_Mo_selector_213 : decode b_Mo_selector 213 = .ok (.iconst (-1), 1) := by decide +kernel
theorem d_Mo_selector_214 : decode b_Mo_selector 214 = .ok (.ireturn, 1) := by decide +kernel
theorem d_Mo_selector_215 : decode b_Mo_selector 215 = .ok (.aload_n 0, 1) := by decide +kernel
theorem d_Mo_selector_216 : decode b_Mo_selector 216 = .ok (.getfield 135, 3) := by decide +kernel
theorem d_Mo_selector_219 : decode b_Mo_selector 219 = .ok (.istore 4, 2) := by decide +kernel
theorem d_Mo_selector_221 : decode b_Mo_selector 221 = .ok (.aload_n 0, 1) := by decide +kernel
theorem d_Mo_selector_222 : decode b_Mo_selector 222 = .ok (.invokevirtual 184, 3) := by decide +kernel
theorem d_Mo_selector_225 : decode b_Mo_selector 225 = .ok (.aload_n 0, 1) := by decide +kernel
theorem d_Mo_selector_226 : decode b_Mo_selector 226 = .ok (.invokevirtual 147, 3) := by decide +kernel
theorem d_Mo_selector_229 : decode b_Mo_selector 229 = .ok (.bipush 58, 2) := by decide +kernel
theorem d_Mo_selector_231 : decode b_Mo_selector 231 = .ok (.if_icmp .ne 7, 3) := by decide +kernel
theorem d_Mo_selector_234 : decode b_Mo_selector 234 = .ok (.iload_n 1, 1) := by decide +kernel
theorem d_Mo_selector_235 : decode b_Mo_selector 235 = .ok (.ifCond .eq 11, 3) := by decide +kernel
theorem d_Mo_selector_238 : decode b_Mo_selector 238 = .ok (.aload_n 0, 1) := by decide +kernel
theorem d_Mo_selector_239 : decode b_Mo_selector 239 = .ok (.iload 4, 2) := by decide +kernel
theorem d_Mo_selector_241 : decode b_Mo_selector 241 = .ok (.putfield 135, 3) := by decide +kernel
theorem d_Mo_selector_244 : decode b_Mo_selector 244 = .ok (.iload_n 3, 1) := by decide +kernel
theorem d_Mo_selector_245 : decode b_Mo_selector 245 = .ok (.ireturn, 1) := by decide +kernel
theorem d_Mo_selector_246 : decode b_Mo_selector 246 = .ok (.aload_n 0, 1) := by decide +kernel
theorem d_Mo_selector_247 : decode b_Mo_selector 247 = .ok (.iload_n 3, 1) := by decide +kernel
theorem d_Mo_selector_248 : decode b_Mo_selector 248 = .ok (.iconst 0, 1) := by decide +kernel
theorem d_Mo_selector_249 : decode b_Mo_selector 249 = .ok (.iconst 4, 1) := by decide +kernel
theorem d_Mo_selector_250 : decode b_Mo_selector 250 = .ok (.invokevirtual 272, 3) := by decide +kernel
theorem d_Mo_selector_253 : decode b_Mo_selector 253 = .ok (.aload_n 0, 1) := by decide +kernel
theorem d_Mo_selector_254 : decode b_Mo_selector 254 = .ok (.dup, 1) := by decide +kernel
theorem d_Mo_selector_255 : decode b_Mo_selector 255 = .ok (.getfield 135, 3) := by decide +kernel
theorem d_Mo_selector_258 : decode b_Mo_selector 258 = .ok (.iconst 1, 1) := by decide +kernel
theorem d_Mo_selector_259 : decode b_Mo_selector 259 = .ok (.iadd, 1) := by decide +kernel
theorem d_Mo_selector_260 : decode b_Mo_selector 260 = .ok (.putfield 135, 3) := by decide +kernel
theorem d_Mo_selector_263 : decode b_Mo_selector 263 = .ok (.aload_n 0, 1) := by decide +kernel
theorem d_Mo_selector_264 : decode b_Mo_selector 264 = .ok (.invokevirtual 184, 3) := by decide +kernel
theorem d_Mo_selector_267 : decode b_Mo_selector 267 = .ok (.aload_n 0, 1) := by decide +kernel
theorem d_Mo_selector_268 : decode b_Mo_selector 268 = .ok (.invokevirtual 147, 3) := by decide +kernel
theorem d_Mo_selector_271 : decode b_Mo_selector 271 = .ok (.bipush 45, 2) := by decide +kernel
theorem d_Mo_selector_273 : decode b_Mo_selector 273 = .ok (.if_icmp .eq 13, 3) := by decide +kernel
theorem d_Mo_selector_276 : decode b_Mo_selector 276 = .ok (.aload_n 0, 1) := by decide +kernel
theorem d_Mo_selector_277 : decode b_Mo_selector 277 = .ok (.invokevirtual 147, 3) := by decide +kernel
theorem d_Mo_selector_280 : decode b_Mo_selector 280 = .ok (.invokestatic 166, 3) := by decide +kernel
theorem d_Mo_selector_283 : decode b_Mo_selector 283 = .ok (.ifCond .eq 14, 3) := by decide +kernel
theorem d_Mo_selector_286 : decode b_Mo_selector 286 = .ok (.aload_n 0, 1) := by decide +kernel
theorem d_Mo_selector_287 : decode b_Mo_selector 287 = .ok (.iload_n 3, 1) := by decide +kernel
theorem d_Mo_selector_288 : decode b_Mo_selector 288 = .ok (.iconst 1, 1) := by decide +kernel
theorem d_Mo_selector_289 : decode b_Mo_selector 289 = .ok (.invokevirtual 303, 3) := by decide +kernel
theorem d_Mo_selector_292 : decode b_Mo_selector 292 = .ok (.ifCond .ne 5, 3) := by decide +kernel
theorem d_Mo_selector_295 : decode b_Mo_selector 295 = .ok (.iconst (-1), 1) := by decide +kernel
theorem d_Mo_selector_296 : decode b_Mo_selector 296 = .ok (.ireturn, 1) := by decide +kernel
theorem d_Mo_selector_297 : decode b_Mo_selector 297 = .ok (.aload_n 0, 1) := by decide +kernel
theorem d_Mo_selector_298 : decode b_Mo_selector 298 = .ok (.getfield 135, 3) := by decide +kernel
theorem d_Mo_selector_301 : decode b_Mo_selector 301 = .ok (.istore 4, 2) := by decide +kernel
theorem d_Mo_selector_303 : decode b_Mo_selector 303 = .ok (.aload_n 0, 1) := by decide +kernel
theorem d_Mo_selector_304 : decode b_Mo_selector 304 = .ok (.invokevirtual 184, 3) := by decide +kernel
theorem d_Mo_selector_307 : decode b_Mo_selector 307 = .ok (.aload_n 0, 1) := by decide +kernel
theorem d_Mo_selector_308 : decode b_Mo_selector 308 = .ok (.invokevirtual 147, 3) := by decide +kernel
theorem d_Mo_selector_311 : decode b_Mo_selector 311 = .ok (.bipush 58, 2) := by decide +kernel
theorem d_Mo_selector_313 : decode b_Mo_selector 313 = .ok (.if_icmp .eq 11, 3) := by decide +kernel
theorem d_Mo_selector_316 : decode b_Mo_selector 316 = .ok (.aload_n 0, 1) := by decide +kernel
theorem d_Mo_selector_317 : decode b_Mo_selector 317 = .ok (.iload 4, 2) := by decide +kernel
theorem d_Mo_selector_319 : decode b_Mo_selector 319 = .ok (.putfield 135, 3) := by decide +kernel
theorem d_Mo_selector_322 : decode b_Mo_selector 322 = .ok (.iload_n 3, 1) := by decide +kernel
theorem d_Mo_selector_323 : decode b_Mo_selector 323 = .ok (.ireturn, 1) := by decide +kernel
theorem d_Mo_selector_324 : decode b_Mo_selector 324 = .ok (.aload_n 0, 1) := by decide +kernel
theorem d_Mo_selector_325 : decode b_Mo_selector 325 = .ok (.dup, 1) := by decide +kernel
theorem d_Mo_selector_326 : decode b_Mo_selector 326 = .ok (.getfield 135, 3) := by decide +kernel
theorem d_Mo_selector_329 : decode b_Mo_selector 329 = .ok (.iconst 1, 1) := by decide +kernel
theorem d_Mo_selector_330 : decode b_Mo_selector 330 = .ok (.iadd, 1) := by decide +kernel
theorem d_Mo_selector_331 : decode b_Mo_selector 331 = .ok (.putfield 135, 3) := by decide +kernel
theorem d_Mo_selector_334 : decode b_Mo_selector 334 = .ok (.aload_n 0, 1) := by decide +kernel
theorem d_Mo_selector_335 : decode b_Mo_selector 335 = .ok (.getfield 135, 3) := by decide +kernel
theorem d_Mo_selector_338 : decode b_Mo_selector 338 = .ok (.istore 4, 2) := by decide +kernel
theorem d_Mo_selector_340 : decode b_Mo_selector 340 = .ok (.aload_n 0, 1) := by decide +kernel
theorem d_Mo_selector_341 : decode b_Mo_selector 341 = .ok (.invokevirtual 184, 3) := by decide +kernel
theorem d_Mo_selector_344 : decode b_Mo_selector 344 = .ok (.aload_n 0, 1) := by decide +kernel
theorem d_Mo_selector_345 : decode b_Mo_selector 345 = .ok (.invokevirtual 147, 3) := by decide +kernel
theorem d_Mo_selector_348 : decode b_Mo_selector 348 = .ok (.bipush 45, 2) := by decide +kernel
theorem d_Mo_selector_350 : decode b_Mo_selector 350 = .ok (.if_icmp .eq 13, 3) := by decide +kernel
theorem d_Mo_selector_353 : decode b_Mo_selector 353 = .ok (.aload_n 0, 1) := by decide +kernel
theorem d_Mo_selector_354 : decode b_Mo_selector 354 = .ok (.invokevirtual 147, 3) := by decide +kernel
theorem d_Mo_selector_357 : decode b_Mo_selector 357 = .ok (.invokestatic 166, 3) := by decide +kernel
theorem d_Mo_selector_360 : decode b_Mo_selector 360 = .ok (.ifCond .eq 18, 3) := by decide +kernel
theorem d_Mo_selector_363 : decode b_Mo_selector 363 = .ok (.aload_n 0, 1) := by decide +kernel
theorem d_Mo_selector_364 : decode b_Mo_selector 364 = .ok (.iload_n 3, 1) := by decide +kernel
theorem d_Mo_selector_365 : decode b_Mo_selector 365 = .ok (.iconst 2, 1) := by decide +kernel
theorem d_Mo_selector_366 : decode b_Mo_selector 366 = .ok (.invokevirtual 303, 3) := by decide +kernel
theorem d_Mo_selector_369 : decode b_Mo_selector 369 = .ok (.ifCond .eq 7, 3) := by decide +kernel
theorem d_Mo_selector_372 : decode b_Mo_selector 372 = .ok (.iload_n 3, 1) := by decide +kernel
theorem d_Mo_selector_373 : decode b_Mo_selector 373 = .ok (.goto 4, 3) := by decide +kernel
theorem d_Mo_selector_376 : decode b_Mo_selector 376 = .ok (.iconst (-1), 1) := by decide +kernel
theorem d_Mo_selector_377 : decode b_Mo_selector 377 = .ok (.ireturn, 1) := by decide +kernel
theorem d_Mo_selector_378 : decode b_Mo_selector 378 = .ok (.aload_n 0, 1) := by decide +kernel
theorem d_Mo_selector_379 : decode b_Mo_selector 379 = .ok (.iload 4, 2) := by decide +kernel
theorem d_Mo_selector_381 : decode b_Mo_selector 381 = .ok (.putfield 135, 3) := by decide +kernel
theorem d_Mo_selector_384 : decode b_Mo_selector 384 = .ok (.iload_n 3, 1) := by decide +kernel
theorem d_Mo_selector_385 : decode b_Mo_selector 385 = .ok (.ireturn, 1) := by decide +kernel
theorem whB_lt {f : Nat → Int32} {n i : Nat} {mi : Bool} {p : Int64 × Nat} (h : whB f n i mi = some p) : i < p.2 := by
  unfold whB at h
  by_cases h1 : ¬ digH (hereV f n i) ∨ (mi = true ∧ hereV f n i = 48)
  · rw [if_pos h1] at h; cases h
  · rw [if_neg h1] at h
    split at h
    · cases h
    · cases h; exact dgN_lt (Classical.not_not.mp (fun q => h1 (Or.inl q)))
theorem whM_lt {f : Nat → Int32} {n i j : Nat} {x : Int64} (h : whM f n i = some (x, j)) : i < j := by
  unfold whM at h
  split at h
  · have := whB_lt h; show i < j; simp only at this; omega
  · exact whB_lt h
set_option maxHeartbeats 4000000 in
set_option maxRecDepth 100000 in
/-- the reference: selector -/
theorem c_sel0 (orL : (Nat → Int32) → Nat → Nat → Option (Nat × CT)) (O : QP CT) (F L : Nat) (hOf : Frm 8 O) (l : Launch) (dC : Nat → ClassId) (dI : Nat → Nat → Nat) (mo : Nat) (sz : Heap) (v : Nat → Value) (cB cI cL cC : ClassId) (qx NN : Nat) (f : Nat → Int32) (n : Nat) (K : Nat → Nat × Nat) (tv : Nat) (Q : QS) (V : TS) (o i : Nat) (br : Int32) (hOR : ORC orL O o F L) (hnN : n ≤ NN) (hNN : NN ≤ 4096) (hi0 : i ≤ n) (h6 : v 6 = .ref qx) (h8 : v 8 = .int (nI n)) (h22 : v 22 = .ref tv) (hQ : QOK Q) (hV : TOK V) (hcu : V.us + (n + 12 - i) ≤ 400000) (hcr : Q.R + 8 * (n - i) + 4 ≤ 40000) : Met l y_Mo_selector (k_Mo_selector :: gtbl) ({ frames := 7 + F, cells := kcap Q (Q.R + 8 * (n - i) + 4) + qcap V (V.us + (n + 12 - i)), slots := 22 * kcap Q (Q.R + 8 * (n - i) + 4) + 2 * qcap V (V.us + (n + 12 - i)), locals := 200 + L }) (va_Pc [.ref mo, .int 0] (me K dC dI [(mo, .inr (13, MF 30 (rf (rs v Q o) i br))), (qx, .inl (cB, NN, .inl f)), (Q.qq, .inl (cI, (8 * Q.C), .inl Q.qf)), (Q.qe, .inl (cL, (3 * Q.C), .inr (.inl Q.ef))), (tv, .inr (12, MF 13 (tw V))), (V.au, .inl (cC, V.U, .inl V.un))] [(cB, .byte), (cI, .int), (cL, .long), (cC, .char)] sz)) (va_Qi (fun (res : Int32) (u : QS × TS × Nat × Int32 × Nat) => SELo f (orL f n) O false n i o Q V res u) (fun u t9 => mz dC dI [(mo, .inr (13, MF 30 (rf (rs v u.1 u.2.2.2.2) u.2.2.1 u.2.2.2.1))), (qx, .inl (cB, NN, .inl f)), (u.1.qq, .inl (cI, (8 * u.1.C), .inl u.1.qf)), (u.1.qe, .inl (cL, (3 * u.1.C), .inr (.inl u.1.ef))), (tv, .inr (12, MF 13 (tw u.2.1))), (u.2.1.au, .inl (cC, u.2.1.U, .inl u.2.1.un))] [(cB, .byte), (cI, .int), (cL, .long), (cC, .char)] (va_A [(mo, .inr (13, MF 30 (rf (rs v Q o) i br))), (qx, .inl (cB, NN, .inl f)), (Q.qq, .inl (cI, (8 * Q.C), .inl Q.qf)), (Q.qe, .inl (cL, (3 * Q.C), .inr (.inl Q.ef))), (tv, .inr (12, MF 13 (tw V))), (V.au, .inl (cC, V.U, .inl V.un))] sz.size) t9 ∧ szk sz t9.heap (cQ Q V u.1 u.2.1) (sQ Q V u.1 u.2.1)) (va_A [(mo, .inr (13, MF 30 (rf (rs v Q o) i br))), (qx, .inl (cB, NN, .inl f)), (Q.qq, .inl (cI, (8 * Q.C), .inl Q.qf)), (Q.qe, .inl (cL, (3 * Q.C), .inr (.inl Q.ef))), (tv, .inr (12, MF 13 (tw V))), (V.au, .inl (cC, V.U, .inl V.un))] sz.size)) (kcap Q (Q.R + 8 * (n - i) + 4) + qcap V (V.us + (n + 12 - i))) (22 * kcap Q (Q.R + 8 * (n - i) + 4) + 2 * qcap V (V.us + (n + 12 - i))) (va_A [(mo, .inr (13, MF 30 (rf (rs v Q o) i br))), (qx, .inl (cB, NN, .inl f)), (Q.qq, .inl (cI, (8 * Q.C), .inl Q.qf)), (Q.qe, .inl (cL, (3 * Q.C), .inr (.inl Q.ef))), (tv, .inr (12, MF 13 (tw V))), (V.au, .inl (cC, V.U, .inl V.un))] sz.size) := by
  refine Met.ofW (cc := b_Mo_selector) (maxL := 5) (ret := (some .int)) (by decide) rfl ?_
  intro p e s m args below meth c s₁ B hml hv
  obtain ⟨rfl, ⟨hsz, hP, hK, hD0⟩, hM⟩ := hv
  have hx := B.exec
  have hb := B.bytes
  have hr := B.returns
  have hts0 := atoms_spec (ws := k_Mo_selector :: gtbl) B.pre
  have hts := fun w h => hts0 w (List.mem_cons_of_mem _ h)
  have hown : s.vm.findClass R_Mo = some m.cls := findClass_of_methodNamed B.named
  have hlocks := B.notSynchronized
  subst hsz
  have hD := hD0.self (sz := s.heap.size)
  generalize hAe : va_A [(mo, .inr (13, MF 30 (rf (rs v Q o) i br))), (qx, .inl (cB, NN, .inl f)), (Q.qq, .inl (cI, (8 * Q.C), .inl Q.qf)), (Q.qe, .inl (cL, (3 * Q.C), .inr (.inl Q.ef))), (tv, .inr (12, MF 13 (tw V))), (V.au, .inl (cC, V.U, .inl V.un))] s.heap.size = A at hD hM ⊢
  have hA : ∀ q : Nat, s.heap.size ≤ q → A q := fun q h => by rw [← hAe]; exact Or.inr h
  have hS : va_S A s.heap s.heap [] := va_S.rf
  have hP : va_P (dC, dI) classes [(mo, .inr (13, MF 30 (rf (rs v Q o) i br))), (qx, .inl (cB, NN, .inl f)), (Q.qq, .inl (cI, (8 * Q.C), .inl Q.qf)), (Q.qe, .inl (cL, (3 * Q.C), .inr (.inl Q.ef))), (tv, .inr (12, MF 13 (tw V))), (V.au, .inl (cC, V.U, .inl V.un))] s.heap := hP
  have hl := lv_entry ([.ref mo, .int 0]) (n := 5) (Nat.le_of_ble_eq_true rfl)
  rw [lg_entry_eq]
  generalize (lg_sl ([.ref mo, .int 0]) ++ List.replicate (5 - (lg_sl ([.ref mo, .int 0])).length) Slot.unset).toArray = ls at hl ⊢
  have hl : lv_has ls 5 [(0, .ref mo), (1, .int 0)] := hl
  have hQk_Q := hQ
  have hTk_V := hV
  have hCo := hQ.2.2.1
  have hCo2 := hQ.2.1
  clear hQ hV
  have hG_QV : GQ (Q.R + 8 * (n - i) + 4) (V.us + (n + 12 - i)) Q V Q V := GQ.rf
  refine w_same (fun hq => ?_)
  refine w_tight (k := cQ Q V Q V) (n := sQ Q V Q V) (by rw [cQ_rf.1, cQ_rf.2]; exact hq) ?_
  have hqb_QV : Q.R ≤ Q.C ∧ Q.C ≤ 100000 := ⟨hQk_Q.2.2.1, hQk_Q.2.1⟩
  have hfit_QV := hG_QV.fits
  refine lv_aload_n hx hb d_Mo_selector_0 rfl (lv_at hl 0 rfl) ?_
  have hPc := hP.sub (ws' := [(mo, .inr (13, MF 30 (rf (rs v Q o) i br))), (qx, .inl (cB, NN, .inl f))]) [0, 1] rfl
  have hDc := hD.sub (ws' := [(mo, .inr (13, MF 30 (rf (rs v Q o) i br))), (qx, .inl (cB, NN, .inl f))]) [0, 1] (by decide) rfl
  have hKc := hK.sub (tys' := [(cB, .byte)]) [0] rfl
  have hFc := va_free (wc := [(mo, .inr (13, MF 30 (rf (rs v Q o) i br))), (qx, .inl (cB, NN, .inl f))]) hD hS hA [0, 1] rfl
  refine va_calli (va_runV (As := []) (rest := []) ⟨hx, hb, hml, hown, hts⟩ (c_Mo_c l dC dI mo s.heap (rf (rs v Q o) i br) cB qx NN f n i (by omega) (by omega) (by omega) ((rf_ne (by decide) (by decide)).trans ((rs_ne (by decide) (by decide) (by decide) (by decide)).trans h6)) rf_7 ((rf_ne (by decide) (by decide)).trans ((rs_ne (by decide) (by decide) (by decide) (by decide)).trans h8))) (cwV 0 hts (gt_V (own := R_Mo) (C := R_Mo) (i := 147) (y := y_Mo_c) i_Mo_c w_1233 w_1235 (gt_sel (y := y_Mo_c) (n := 30) (by decide +kernel)) w_7) rfl rfl rfl (by decide +kernel) ⟨Nat.le_trans (m := 7) (Nat.le_of_ble_eq_true rfl) (Nat.le_add_right 7 F), Nat.le_trans (m := 200) (Nat.le_of_ble_eq_true rfl) (Nat.le_add_right 200 L)⟩) ⟨mp_blind, va_recv hKc hPc (ci := 13) (q0 := 0) rfl rfl, fun U hU hW => ⟨rfl, hU, by rw [hU]; exact hPc, va_K.moved hW.alike hKc, hDc.weaken (fun _ _ _ _ => trivial)⟩⟩ rfl rfl hl.1 rfl (lv_room (Nat.le_of_ble_eq_true rfl)) d_Mo_selector_1 ⟨hfit_QV.1, hfit_QV.2⟩) hS (fun q _ h => hFc q h) hFc (fun r1 _u t9 H1 locs ht hvm hw hB hz1 hk1 hS => ?_)
  obtain ⟨hP1, hK1, hD1⟩ := hB
  rw [ht] at hP1
  obtain ⟨hP, hD⟩ := va_join (wr := [(Q.qq, .inl (cI, (8 * Q.C), .inl Q.qf)), (Q.qe, .inl (cL, (3 * Q.C), .inr (.inl Q.ef))), (tv, .inr (12, MF 13 (tw V))), (V.au, .inl (cC, V.U, .inl V.un))]) (w1 := [(mo, .inr (13, MF 30 (rf (rs v Q o) i br))), (qx, .inl (cB, NN, .inl f))]) hP hD [0, 1] [2, 3, 4, 5] rfl rfl (by decide) (by decide) hk1 hFc hP1 hD1
  generalize H1 = H at hP hS ⊢
  have hP : va_P (dC, dI) classes [(Q.qq, .inl (cI, (8 * Q.C), .inl Q.qf)), (Q.qe, .inl (cL, (3 * Q.C), .inr (.inl Q.ef))), (tv, .inr (12, MF 13 (tw V))), (V.au, .inl (cC, V.U, .inl V.un)), (mo, .inr (13, MF 30 (rf (rs v Q o) i br))), (qx, .inl (cB, NN, .inl f))] H := hP
  have hD : va_D A [(Q.qq, .inl (cI, (8 * Q.C), .inl Q.qf)), (Q.qe, .inl (cL, (3 * Q.C), .inr (.inl Q.ef))), (tv, .inr (12, MF 13 (tw V))), (V.au, .inl (cC, V.U, .inl V.un)), (mo, .inr (13, MF 30 (rf (rs v Q o) i br))), (qx, .inl (cB, NN, .inl f))] := hD
  have hP := hP.sub (ws' := [(mo, .inr (13, MF 30 (rf (rs v Q o) i br))), (qx, .inl (cB, NN, .inl f)), (Q.qq, .inl (cI, (8 * Q.C), .inl Q.qf)), (Q.qe, .inl (cL, (3 * Q.C), .inr (.inl Q.ef))), (tv, .inr (12, MF 13 (tw V))), (V.au, .inl (cC, V.U, .inl V.un))]) [4, 5, 0, 1, 2, 3] rfl
  have hD := hD.sub (ws' := [(mo, .inr (13, MF 30 (rf (rs v Q o) i br))), (qx, .inl (cB, NN, .inl f)), (Q.qq, .inl (cI, (8 * Q.C), .inl Q.qf)), (Q.qe, .inl (cL, (3 * Q.C), .inr (.inl Q.ef))), (tv, .inr (12, MF 13 (tw V))), (V.au, .inl (cC, V.U, .inl V.un))]) [4, 5, 0, 1, 2, 3] (by decide) rfl
  have h_r1 : r1 = hereV f n i := hw
  refine lv_istore_n (lv' := [(2, .int r1), (0, .ref mo), (1, .int 0)]) hx hb d_Mo_selector_4 rfl hl (by decide) rfl (fun ls hl => ?_)
  refine w_join (D := (dC, dI)) (cl := classes) (A := A) (H0 := s.heap) (nL := 5) 185 (σ := Unit) (fun _ => selP f n (orL f n) false i = selT f n false i ∧ (r1 = 45 ∨ digH r1 ∨ r1 = 58)) (fun _ => cQ Q V Q V) (fun _ => sQ Q V Q V) (fun _ => [(mo, .inr (13, MF 30 (rf (rs v Q o) i br))), (qx, .inl (cB, NN, .inl f)), (Q.qq, .inl (cI, (8 * Q.C), .inl Q.qf)), (Q.qe, .inl (cL, (3 * Q.C), .inr (.inl Q.ef))), (tv, .inr (12, MF 13 (tw V))), (V.au, .inl (cC, V.U, .inl V.un))]) (fun _ => [(0, .ref mo), (1, .int 0), (2, .int r1)]) (fun jn185 => ?_) ?_
  · refine lv_iload_n hx hb d_Mo_selector_5 rfl (lv_at hl 0 rfl) ?_
    refine lv_bipush (v := 39) hx hb d_Mo_selector_6 (by decide) ?_
    refine lv_icmp_eq (tgt := 17) hx hb d_Mo_selector_8 (by decide) (fun c8 => ?_) (fun c8 => ?_)
    · refine lv_aload_n hx hb d_Mo_selector_17 rfl (lv_at hl 1 rfl) ?_
      refine lv_iconst (v := 1) hx hb d_Mo_selector_18 (by decide) ?_
      have hPc := hP.sub (ws' := [(mo, .inr (13, MF 30 (rf (rs v Q o) i br))), (Q.qq, .inl (cI, (8 * Q.C), .inl Q.qf)), (Q.qe, .inl (cL, (3 * Q.C), .inr (.inl Q.ef)))]) [0, 2, 3] rfl
      have hDc := hD.sub (ws' := [(mo, .inr (13, MF 30 (rf (rs v Q o) i br))), (Q.qq, .inl (cI, (8 * Q.C), .inl Q.qf)), (Q.qe, .inl (cL, (3 * Q.C), .inr (.inl Q.ef)))]) [0, 2, 3] (by decide) rfl
      have hKc := hK.sub (tys' := [(cI, .int), (cL, .long)]) [1, 2] rfl
      have hFc := va_free (wc := [(mo, .inr (13, MF 30 (rf (rs v Q o) i br))), (Q.qq, .inl (cI, (8 * Q.C), .inl Q.qf)), (Q.qe, .inl (cL, (3 * Q.C), .inr (.inl Q.ef)))]) hD hS hA [0, 2, 3] rfl
      refine w_same (fun hq0 => ?_)
      refine va_calli (va_runV (As := [.int 1]) (rest := []) ⟨hx, hb, hml, hown, hts⟩ (c_Mo_row l dC dI mo H v cI cL Q o i br 1 hQk_Q) (cwV 1 hts (gt_V (own := R_Mo) (C := R_Mo) (i := 269) (y := y_Mo_row) i_Mo_row w_1407 w_1409 (gt_sel (y := y_Mo_row) (n := 30) (by decide +kernel)) w_7) rfl rfl rfl (by decide +kernel) ⟨Nat.le_trans (m := 7) (Nat.le_of_ble_eq_true rfl) (Nat.le_add_right 7 F), Nat.le_trans (m := 200) (Nat.le_of_ble_eq_true rfl) (Nat.le_add_right 200 L)⟩) ⟨mp_blind, va_recv hKc hPc (ci := 13) (q0 := 0) rfl rfl, fun U hU hW => ⟨rfl, hU, by rw [hU]; exact hPc, va_K.moved hW.alike hKc, hDc.weaken (fun _ _ _ _ => trivial)⟩⟩ rfl rfl hl.1 rfl (lv_room (Nat.le_of_ble_eq_true rfl)) d_Mo_selector_19 ⟨(QAd.fit hG_QV hQk_Q (by omega)).1, (QAd.fit hG_QV hQk_Q (by omega)).2⟩) hS (fun q _ h => hFc q h) hFc (fun r0 Q1 t9 H1 locs ht hvm hw hB hz1 hk1 hS => ?_)
      obtain ⟨⟨hP1, hK1, hD1⟩, hz9⟩ := hB
      rw [ht] at hP1
      rw [ht] at hz9
      obtain ⟨hr0, hA_Q1⟩ := hw
      have hA_Q1 : QAd Q Q1 1 := hA_Q1
      obtain ⟨hQk_Q1, hGa, hGb, hGd, hR_Q1⟩ := hA_Q1.gq hQk_Q (by omega) V
      obtain ⟨hG_Q1V, hGc, hGs⟩ := hG_QV.tr hGa (show Q.R + 1 ≤ Q.R + 8 * (n - i) + 4 by omega) (Nat.zero_le _)
      have hGc := Nat.le_trans (Nat.add_le_add_left hGb _) hGc
      have hGs := Nat.le_trans (Nat.add_le_add_left hGd _) hGs
      have hq1 : szk s.heap H1 (cQ Q V Q1 V) (sQ Q V Q1 V) := (hq0.trans hz9).mono hGc hGs
      refine w_tight hq1 ?_
      obtain ⟨hP, hD⟩ := va_join (wr := [(qx, .inl (cB, NN, .inl f)), (tv, .inr (12, MF 13 (tw V))), (V.au, .inl (cC, V.U, .inl V.un))]) (w1 := [(mo, .inr (13, MF 30 (rf (rs v Q1 o) i br))), (Q1.qq, .inl (cI, (8 * Q1.C), .inl Q1.qf)), (Q1.qe, .inl (cL, (3 * Q1.C), .inr (.inl Q1.ef)))]) hP hD [0, 2, 3] [1, 4, 5] rfl rfl (by decide) (by decide) hk1 hFc hP1 hD1
      generalize H1 = H at hP hS ⊢
      have hP : va_P (dC, dI) classes [(qx, .inl (cB, NN, .inl f)), (tv, .inr (12, MF 13 (tw V))), (V.au, .inl (cC, V.U, .inl V.un)), (mo, .inr (13, MF 30 (rf (rs v Q1 o) i br))), (Q1.qq, .inl (cI, (8 * Q1.C), .inl Q1.qf)), (Q1.qe, .inl (cL, (3 * Q1.C), .inr (.inl Q1.ef)))] H := hP
      have hD : va_D A [(qx, .inl (cB, NN, .inl f)), (tv, .inr (12, MF 13 (tw V))), (V.au, .inl (cC, V.U, .inl V.un)), (mo, .inr (13, MF 30 (rf (rs v Q1 o) i br))), (Q1.qq, .inl (cI, (8 * Q1.C), .inl Q1.qf)), (Q1.qe, .inl (cL, (3 * Q1.C), .inr (.inl Q1.ef)))] := hD
      have hP := hP.sub (ws' := [(mo, .inr (13, MF 30 (rf (rs v Q1 o) i br))), (qx, .inl (cB, NN, .inl f)), (tv, .inr (12, MF 13 (tw V))), (V.au, .inl (cC, V.U, .inl V.un)), (Q1.qq, .inl (cI, (8 * Q1.C), .inl Q1.qf)), (Q1.qe, .inl (cL, (3 * Q1.C), .inr (.inl Q1.ef)))]) [3, 0, 1, 2, 4, 5] rfl
      have hD := hD.sub (ws' := [(mo, .inr (13, MF 30 (rf (rs v Q1 o) i br))), (qx, .inl (cB, NN, .inl f)), (tv, .inr (12, MF 13 (tw V))), (V.au, .inl (cC, V.U, .inl V.un)), (Q1.qq, .inl (cI, (8 * Q1.C), .inl Q1.qf)), (Q1.qe, .inl (cL, (3 * Q1.C), .inr (.inl Q1.ef)))]) [3, 0, 1, 2, 4, 5] (by decide) rfl
      have hP := hP.sub (ws' := [(mo, .inr (13, MF 30 (rf (rs v Q1 o) i br))), (qx, .inl (cB, NN, .inl f)), (Q1.qq, .inl (cI, (8 * Q1.C), .inl Q1.qf)), (Q1.qe, .inl (cL, (3 * Q1.C), .inr (.inl Q1.ef))), (tv, .inr (12, MF 13 (tw V))), (V.au, .inl (cC, V.U, .inl V.un))]) [0, 1, 4, 5, 2, 3] rfl
      have hD := hD.sub (ws' := [(mo, .inr (13, MF 30 (rf (rs v Q1 o) i br))), (qx, .inl (cB, NN, .inl f)), (Q1.qq, .inl (cI, (8 * Q1.C), .inl Q1.qf)), (Q1.qe, .inl (cL, (3 * Q1.C), .inr (.inl Q1.ef))), (tv, .inr (12, MF 13 (tw V))), (V.au, .inl (cC, V.U, .inl V.un))]) [0, 1, 4, 5, 2, 3] (by decide) rfl
      have hr0 : r0 = nI Q.R := hr0
      subst hr0
      have hqb_Q1V : Q1.R ≤ Q1.C ∧ Q1.C ≤ 100000 := ⟨hQk_Q1.2.2.1, hQk_Q1.2.1⟩
      have hfit_Q1V := hG_Q1V.fits
      have hE_Q1 : alr Q V Q1 V 0 Q.R := ⟨fun r9 k9 _ h1 h2 => hA_Q1.2.2.1 _ (by omega), ⟨fun r9 k9 _ h1 h2 => hA_Q1.2.2.2.1.2 _ (by omega), Nat.le_refl _, fun _ _ => rfl⟩⟩
      have hk0_Q1 : Q1.qf (8 * Q.R + 0) = 1 := hA_Q1.2.2.2.2.1
      have hl1_Q1 : Q1.qf (8 * Q.R + 1) = -1 := hA_Q1.2.2.2.2.2 1 (by decide) (by decide)
      have hEx_Q1V : alr Q V Q1 V 0 Q.R := hE_Q1
      refine lv_istore_n (lv' := [(3, .int (nI Q.R)), (2, .int r1), (0, .ref mo), (1, .int 0)]) hx hb d_Mo_selector_22 rfl hl (by decide) rfl (fun ls hl => ?_)
      refine lv_aload_n hx hb d_Mo_selector_23 rfl (lv_at hl 2 rfl) ?_
      refine lv_iload_n hx hb d_Mo_selector_24 rfl (lv_at hl 0 rfl) ?_
      refine lv_iconst (v := 2) hx hb d_Mo_selector_25 (by decide) ?_
      refine lv_aload_n hx hb d_Mo_selector_26 rfl (lv_at hl 2 rfl) ?_
      refine va_get (D := (dC, dI)) (ci := 13) (v := .ref tv) (C := R_Mo) (T := F_Mo) (N := 30) hx hb hts in_Mo hown hK hP 0 rfl rfl 22 (by decide) (hts _ w_1111) (fun _ h9 => h9) (MFg (by decide) ((rf_ne (by decide) (by decide)).trans ((rs_ne (by decide) (by decide) (by decide) (by decide)).trans h22))) d_Mo_selector_27 ?_
      refine va_get (D := (dC, dI)) (ci := 12) (v := .int (nI V.us)) (C := R_Tree) (T := F_Tree) (N := 13) hx hb hts in_Tree hown hK hP 4 rfl rfl 12 (by decide) (hts _ w_1058) (fun _ h9 => h9) (MFg (by decide) rfl) d_Mo_selector_30 ?_
      refine W.eq (g2 := F0 m 33 ls [.int (nI V.us), .int (nI 2), .int (nI Q.R), .ref mo]) rfl ?_
      have hPc := hP.sub (ws' := [(mo, .inr (13, MF 30 (rf (rs v Q1 o) i br))), (Q1.qq, .inl (cI, (8 * Q1.C), .inl Q1.qf))]) [0, 2] rfl
      have hDc := hD.sub (ws' := [(mo, .inr (13, MF 30 (rf (rs v Q1 o) i br))), (Q1.qq, .inl (cI, (8 * Q1.C), .inl Q1.qf))]) [0, 2] (by decide) rfl
      have hKc := hK.sub (tys' := [(cI, .int)]) [1] rfl
      have hFc := va_free (wc := [(mo, .inr (13, MF 30 (rf (rs v Q1 o) i br))), (Q1.qq, .inl (cI, (8 * Q1.C), .inl Q1.qf))]) hD hS hA [0, 2] rfl
      refine va_callv (va_runV (As := [.int (nI Q.R), .int (nI 2), .int (nI V.us)]) (rest := []) ⟨hx, hb, hml, hown, hts⟩ (c_Mo_set l dC dI mo H (rf (rs v Q1 o) i br) cI Q1.qq (8 * Q1.C) Q1.qf Q.R 2 ((nI V.us)) (by omega) (by omega) ((rf_ne (by decide) (by decide)).trans rs_19)) (cwV 3 hts (gt_V (own := R_Mo) (C := R_Mo) (i := 272) (y := y_Mo_set) i_Mo_set w_1411 w_1413 (gt_sel (y := y_Mo_set) (n := 30) (by decide +kernel)) w_7) rfl rfl rfl (by decide +kernel) ⟨Nat.le_trans (m := 7) (Nat.le_of_ble_eq_true rfl) (Nat.le_add_right 7 F), Nat.le_trans (m := 200) (Nat.le_of_ble_eq_true rfl) (Nat.le_add_right 200 L)⟩) ⟨mp_blind, va_recv hKc hPc (ci := 13) (q0 := 0) rfl rfl, fun U hU hW => ⟨rfl, hU, by rw [hU]; exact hPc, va_K.moved hW.alike hKc, hDc.weaken (fun _ _ _ _ => trivial)⟩⟩ rfl rfl hl.1 rfl (lv_room (Nat.le_of_ble_eq_true rfl)) d_Mo_selector_33 ⟨hfit_Q1V.1, hfit_Q1V.2⟩) hS (fun q _ h => hFc q h) hFc (fun _u t9 H1 locs ht hvm hw hB hz1 hk1 hS => ?_)
      obtain ⟨hP1, hK1, hD1⟩ := hB
      rw [ht] at hP1
      obtain ⟨hP, hD⟩ := va_join (wr := [(qx, .inl (cB, NN, .inl f)), (Q1.qe, .inl (cL, (3 * Q1.C), .inr (.inl Q1.ef))), (tv, .inr (12, MF 13 (tw V))), (V.au, .inl (cC, V.U, .inl V.un))]) (w1 := [(mo, .inr (13, MF 30 (rf (rs v Q1 o) i br))), (Q1.qq, .inl (cI, (8 * Q1.C), .inl (upd Q1.qf (8 * Q.R + 2) ((nI V.us)))))]) hP hD [0, 2] [1, 3, 4, 5] rfl rfl (by decide) (by decide) hk1 hFc hP1 hD1
      generalize H1 = H at hP hS ⊢
      have hP : va_P (dC, dI) classes [(qx, .inl (cB, NN, .inl f)), (Q1.qe, .inl (cL, (3 * Q1.C), .inr (.inl Q1.ef))), (tv, .inr (12, MF 13 (tw V))), (V.au, .inl (cC, V.U, .inl V.un)), (mo, .inr (13, MF 30 (rf (rs v Q1 o) i br))), (Q1.qq, .inl (cI, (8 * Q1.C), .inl (upd Q1.qf (8 * Q.R + 2) ((nI V.us)))))] H := hP
      have hD : va_D A [(qx, .inl (cB, NN, .inl f)), (Q1.qe, .inl (cL, (3 * Q1.C), .inr (.inl Q1.ef))), (tv, .inr (12, MF 13 (tw V))), (V.au, .inl (cC, V.U, .inl V.un)), (mo, .inr (13, MF 30 (rf (rs v Q1 o) i br))), (Q1.qq, .inl (cI, (8 * Q1.C), .inl (upd Q1.qf (8 * Q.R + 2) ((nI V.us)))))] := hD
      have hP := hP.sub (ws' := [(mo, .inr (13, MF 30 (rf (rs v Q1 o) i br))), (qx, .inl (cB, NN, .inl f)), (Q1.qq, .inl (cI, (8 * Q1.C), .inl (upd Q1.qf (8 * Q.R + 2) ((nI V.us))))), (Q1.qe, .inl (cL, (3 * Q1.C), .inr (.inl Q1.ef))), (tv, .inr (12, MF 13 (tw V))), (V.au, .inl (cC, V.U, .inl V.un))]) [4, 0, 5, 1, 2, 3] rfl
      have hD := hD.sub (ws' := [(mo, .inr (13, MF 30 (rf (rs v Q1 o) i br))), (qx, .inl (cB, NN, .inl f)), (Q1.qq, .inl (cI, (8 * Q1.C), .inl (upd Q1.qf (8 * Q.R + 2) ((nI V.us))))), (Q1.qe, .inl (cL, (3 * Q1.C), .inr (.inl Q1.ef))), (tv, .inr (12, MF 13 (tw V))), (V.au, .inl (cC, V.U, .inl V.un))]) [4, 0, 5, 1, 2, 3] (by decide) rfl
      obtain ⟨Q2, e_Q2⟩ : ∃ z : QS, z = QS.wf Q1 (upd Q1.qf (8 * Q.R + 2) ((nI V.us))) := ⟨_, rfl⟩
      have hP : va_P (dC, dI) classes [(mo, .inr (13, MF 30 (rf (rs v Q2 o) i br))), (qx, .inl (cB, NN, .inl f)), (Q2.qq, .inl (cI, (8 * Q2.C), .inl Q2.qf)), (Q2.qe, .inl (cL, (3 * Q2.C), .inr (.inl Q2.ef))), (tv, .inr (12, MF 13 (tw V))), (V.au, .inl (cC, V.U, .inl V.un))] H := by subst e_Q2; exact hP
      have hD : va_D A [(mo, .inr (13, MF 30 (rf (rs v Q2 o) i br))), (qx, .inl (cB, NN, .inl f)), (Q2.qq, .inl (cI, (8 * Q2.C), .inl Q2.qf)), (Q2.qe, .inl (cL, (3 * Q2.C), .inr (.inl Q2.ef))), (tv, .inr (12, MF 13 (tw V))), (V.au, .inl (cC, V.U, .inl V.un))] := by subst e_Q2; exact hD
      have hf_Q2 : Q2.C = Q1.C ∧ Q2.R = Q1.R ∧ Q2.qf = upd Q1.qf (8 * Q.R + 2) ((nI V.us)) := by rw [e_Q2]; exact ⟨rfl, rfl, rfl⟩
      have he_Q2 : Q2.ef = Q1.ef := by rw [e_Q2]; rfl
      have hQk_Q2 : QOK Q2 := by rw [e_Q2]; exact hQk_Q1
      have hG_Q2V : GQ (Q.R + 8 * (n - i) + 4) (V.us + (n + 12 - i)) Q V Q2 V := by unfold GQ at hG_Q1V ⊢; rw [hf_Q2.1]; exact hG_Q1V
      refine w_same (fun hq => ?_)
      refine w_tight (k := cQ Q V Q2 V) (n := sQ Q V Q2 V) (by unfold cQ sQ at hq ⊢; rw [hf_Q2.1]; exact hq) ?_
      have hR_Q2 := hf_Q2.2.1
      have hqb_Q2V : Q2.R ≤ Q2.C ∧ Q2.C ≤ 100000 := ⟨hQk_Q2.2.2.1, hQk_Q2.2.1⟩
      have hfit_Q2V := hG_Q2V.fits
      have hk0_Q2 : Q2.qf (8 * Q.R + 0) = 1 := by rw [hf_Q2.2.2, pk_un (by omega)]; exact hk0_Q1
      have hl1_Q2 : Q2.qf (8 * Q.R + 1) = -1 := by rw [hf_Q2.2.2, pk_un (by omega)]; exact hl1_Q1
      have hEx_Q2V : alr Q V Q2 V 0 Q.R := hEx_Q1V.tr (alr.upd hf_Q2.2.2 he_Q2 (by decide) (by omega))
      refine lv_aload_n hx hb d_Mo_selector_36 rfl (lv_at hl 2 rfl) ?_
      refine lv_iload_n hx hb d_Mo_selector_37 rfl (lv_at hl 1 rfl) ?_
      refine lv_aload_n hx hb d_Mo_selector_38 rfl (lv_at hl 2 rfl) ?_
      refine va_get (D := (dC, dI)) (ci := 13) (v := .ref tv) (C := R_Mo) (T := F_Mo) (N := 30) hx hb hts in_Mo hown hK hP 0 rfl rfl 22 (by decide) (hts _ w_1111) (fun _ h9 => h9) (MFg (by decide) ((rf_ne (by decide) (by decide)).trans ((rs_ne (by decide) (by decide) (by decide) (by decide)).trans h22))) d_Mo_selector_39 ?_
      have hqr : 0 ≤ r1 := by rw [c8]; decide
      have hlt0 := here_in h_r1.symm hqr
      have hPc := hP.sub (ws' := [(mo, .inr (13, MF 30 (rf (rs v Q2 o) i br))), (qx, .inl (cB, NN, .inl f)), (tv, .inr (12, MF 13 (tw V))), (V.au, .inl (cC, V.U, .inl V.un))]) [0, 1, 4, 5] rfl
      have hDc := hD.sub (ws' := [(mo, .inr (13, MF 30 (rf (rs v Q2 o) i br))), (qx, .inl (cB, NN, .inl f)), (tv, .inr (12, MF 13 (tw V))), (V.au, .inl (cC, V.U, .inl V.un))]) [0, 1, 4, 5] (by decide) rfl
      have hKc := hK.sub (tys' := [(cB, .byte), (cC, .char)]) [0, 3] rfl
      have hFc := va_free (wc := [(mo, .inr (13, MF 30 (rf (rs v Q2 o) i br))), (qx, .inl (cB, NN, .inl f)), (tv, .inr (12, MF 13 (tw V))), (V.au, .inl (cC, V.U, .inl V.un))]) hD hS hA [0, 1, 4, 5] rfl
      refine w_same (fun hq0 => ?_)
      refine va_calli (va_runV (As := [.int r1, .ref tv]) (rest := []) ⟨hx, hb, hml, hown, hts⟩ (c_Mo_quoted l dC dI mo H (rs v Q2 o) cB cC qx NN f n K tv V i br r1 hnN (by omega) (by omega) ((rs_ne (by decide) (by decide) (by decide) (by decide)).trans h6) ((rs_ne (by decide) (by decide) (by decide) (by decide)).trans h8) hqr hTk_V (by omega)) (cwV 2 hts (gt_V (own := R_Mo) (C := R_Mo) (i := 200) (y := y_Mo_quoted) i_Mo_quoted w_1261 w_1263 (gt_sel (y := y_Mo_quoted) (n := 30) (by decide +kernel)) w_7) rfl rfl rfl (by decide +kernel) ⟨Nat.le_trans (m := 7) (Nat.le_of_ble_eq_true rfl) (Nat.le_add_right 7 F), Nat.le_trans (m := 200) (Nat.le_of_ble_eq_true rfl) (Nat.le_add_right 200 L)⟩) ⟨me_blind, va_recv hKc hPc (ci := 13) (q0 := 0) rfl rfl, fun U hU hW => ⟨rfl, ⟨hU, by rw [hU]; exact hPc, va_K.moved hW.alike hKc, hDc.weaken (fun _ _ _ _ => trivial)⟩, by rw [hU]; exact ME.call hM hS.2.1 hFc hW⟩⟩ rfl rfl hl.1 rfl (lv_room (Nat.le_of_ble_eq_true rfl)) d_Mo_selector_42 ⟨(hG_Q2V.stepQ (C2 := V.us + (n + 12 - i)) (by omega)).1, (hG_Q2V.stepQ (C2 := V.us + (n + 12 - i)) (by omega)).2⟩) hS (fun q _ h => hFc q h) hFc (fun r0 ⟨V1, us9, j_V1, b_V1⟩ t9 H1 locs ht hvm hw hB hz1 hk1 hS => ?_)
      obtain ⟨⟨hP1, hK1, hD1⟩, hz9⟩ := hB
      rw [ht] at hP1
      rw [ht] at hz9
      obtain ⟨hX_V1, hw⟩ := hw
      have hX_V1 : TX V V1 us9 := hX_V1
      have hXs_V1 := hX_V1.us
      have hln_V1 : us9.length ≤ n + 12 - i := by rcases hw with ⟨_, _, h9, h8⟩ | ⟨_, _, h9, _⟩; exact Nat.le_sub_of_add_le (show us9.length + i ≤ n + 12 by have h8 : us9.length + i + 2 ≤ j_V1 := h8; have h9 : j_V1 ≤ n := h9; omega); exact h9
      obtain ⟨hG_Q2V1, hGc, hGs⟩ := hG_Q2V.tr (hX_V1.gq Q2).1 (Nat.zero_le _) (show V.us + us9.length ≤ V.us + (n + 12 - i) by omega)
      rw [← (hX_V1.gq Q2).2.1] at hGc
      rw [← (hX_V1.gq Q2).2.2] at hGs
      have hz9 : szk H H1 (V1.U - V.U) (2 * (V1.U - V.U)) := hz9
      have hq1 : szk s.heap H1 (cQ Q V Q2 V1) (sQ Q V Q2 V1) := (hq0.trans hz9).mono hGc hGs
      refine w_tight hq1 ?_
      obtain ⟨hP, hD⟩ := va_join (wr := [(Q2.qq, .inl (cI, (8 * Q2.C), .inl Q2.qf)), (Q2.qe, .inl (cL, (3 * Q2.C), .inr (.inl Q2.ef)))]) (w1 := [(mo, .inr (13, MF 30 (rf (rs v Q2 o) j_V1 b_V1))), (qx, .inl (cB, NN, .inl f)), (tv, .inr (12, MF 13 (tw V1))), (V1.au, .inl (cC, V1.U, .inl V1.un))]) hP hD [0, 1, 4, 5] [2, 3] rfl rfl (by decide) (by decide) hk1 hFc hP1 hD1
      generalize H1 = H at hP hS ⊢
      have hP : va_P (dC, dI) classes [(Q2.qq, .inl (cI, (8 * Q2.C), .inl Q2.qf)), (Q2.qe, .inl (cL, (3 * Q2.C), .inr (.inl Q2.ef))), (mo, .inr (13, MF 30 (rf (rs v Q2 o) j_V1 b_V1))), (qx, .inl (cB, NN, .inl f)), (tv, .inr (12, MF 13 (tw V1))), (V1.au, .inl (cC, V1.U, .inl V1.un))] H := hP
      have hD : va_D A [(Q2.qq, .inl (cI, (8 * Q2.C), .inl Q2.qf)), (Q2.qe, .inl (cL, (3 * Q2.C), .inr (.inl Q2.ef))), (mo, .inr (13, MF 30 (rf (rs v Q2 o) j_V1 b_V1))), (qx, .inl (cB, NN, .inl f)), (tv, .inr (12, MF 13 (tw V1))), (V1.au, .inl (cC, V1.U, .inl V1.un))] := hD
      have hP := hP.sub (ws' := [(mo, .inr (13, MF 30 (rf (rs v Q2 o) j_V1 b_V1))), (qx, .inl (cB, NN, .inl f)), (Q2.qq, .inl (cI, (8 * Q2.C), .inl Q2.qf)), (Q2.qe, .inl (cL, (3 * Q2.C), .inr (.inl Q2.ef))), (tv, .inr (12, MF 13 (tw V1))), (V1.au, .inl (cC, V1.U, .inl V1.un))]) [2, 3, 0, 1, 4, 5] rfl
      have hD := hD.sub (ws' := [(mo, .inr (13, MF 30 (rf (rs v Q2 o) j_V1 b_V1))), (qx, .inl (cB, NN, .inl f)), (Q2.qq, .inl (cI, (8 * Q2.C), .inl Q2.qf)), (Q2.qe, .inl (cL, (3 * Q2.C), .inr (.inl Q2.ef))), (tv, .inr (12, MF 13 (tw V1))), (V1.au, .inl (cC, V1.U, .inl V1.un))]) [2, 3, 0, 1, 4, 5] (by decide) rfl
      have hP := hP.sub (ws' := [(mo, .inr (13, MF 30 (rf (rs v Q2 o) j_V1 b_V1))), (qx, .inl (cB, NN, .inl f)), (Q2.qq, .inl (cI, (8 * Q2.C), .inl Q2.qf)), (Q2.qe, .inl (cL, (3 * Q2.C), .inr (.inl Q2.ef))), (tv, .inr (12, MF 13 (tw V1))), (V1.au, .inl (cC, V1.U, .inl V1.un))]) [0, 1, 2, 3, 4, 5] rfl
      have hD := hD.sub (ws' := [(mo, .inr (13, MF 30 (rf (rs v Q2 o) j_V1 b_V1))), (qx, .inl (cB, NN, .inl f)), (Q2.qq, .inl (cI, (8 * Q2.C), .inl Q2.qf)), (Q2.qe, .inl (cL, (3 * Q2.C), .inr (.inl Q2.ef))), (tv, .inr (12, MF 13 (tw V1))), (V1.au, .inl (cC, V1.U, .inl V1.un))]) [0, 1, 2, 3, 4, 5] (by decide) rfl
      rcases hw with ⟨ho_1, ho_2, ho_3, ho_4⟩ | ⟨ho_1, ho_2, ho_3, ho_4⟩
      · have hqt_V1 : qtQ f n r1 i = some (us9, j_V1) := ho_2
        have ho_3 : j_V1 ≤ n := ho_3
        have ho_4 : us9.length + i + 2 ≤ j_V1 := ho_4
        have hTk_V1 := hX_V1.ok hTk_V (by omega)
        subst ho_1
        have hEx_Q2V1 : alr Q V Q2 V1 0 Q.R := hEx_Q2V.tr hX_V1.alr
        have hqb_Q2V1 : Q2.R ≤ Q2.C ∧ Q2.C ≤ 100000 := ⟨hQk_Q2.2.2.1, hQk_Q2.2.1⟩
        have hfit_Q2V1 := hG_Q2V1.fits
        refine lv_if_ne (tgt := 50) hx hb d_Mo_selector_45 (by decide) (fun _ => ?_) (fun h => absurd h (by decide))
        refine lv_aload_n hx hb d_Mo_selector_50 rfl (lv_at hl 2 rfl) ?_
        refine lv_iload_n hx hb d_Mo_selector_51 rfl (lv_at hl 0 rfl) ?_
        refine lv_iconst (v := 3) hx hb d_Mo_selector_52 (by decide) ?_
        refine lv_aload_n hx hb d_Mo_selector_53 rfl (lv_at hl 2 rfl) ?_
        refine va_get (D := (dC, dI)) (ci := 13) (v := .ref tv) (C := R_Mo) (T := F_Mo) (N := 30) hx hb hts in_Mo hown hK hP 0 rfl rfl 22 (by decide) (hts _ w_1111) (fun _ h9 => h9) (MFg (by decide) ((rf_ne (by decide) (by decide)).trans ((rs_ne (by decide) (by decide) (by decide) (by decide)).trans h22))) d_Mo_selector_54 ?_
        refine va_get (D := (dC, dI)) (ci := 12) (v := .int (nI V1.us)) (C := R_Tree) (T := F_Tree) (N := 13) hx hb hts in_Tree hown hK hP 4 rfl rfl 12 (by decide) (hts _ w_1058) (fun _ h9 => h9) (MFg (by decide) rfl) d_Mo_selector_57 ?_
        refine lv_aload_n hx hb d_Mo_selector_60 rfl (lv_at hl 2 rfl) ?_
        refine lv_iload_n hx hb d_Mo_selector_61 rfl (lv_at hl 0 rfl) ?_
        refine lv_iconst (v := 2) hx hb d_Mo_selector_62 (by decide) ?_
        refine W.eq (g2 := F0 m 63 ls [.int (nI 2), .int (nI Q.R), .ref mo, .int (nI V1.us), .int 3, .int (nI Q.R), .ref mo]) rfl ?_
        have hPc := hP.sub (ws' := [(mo, .inr (13, MF 30 (rf (rs v Q2 o) j_V1 b_V1))), (Q2.qq, .inl (cI, (8 * Q2.C), .inl Q2.qf))]) [0, 2] rfl
        have hDc := hD.sub (ws' := [(mo, .inr (13, MF 30 (rf (rs v Q2 o) j_V1 b_V1))), (Q2.qq, .inl (cI, (8 * Q2.C), .inl Q2.qf))]) [0, 2] (by decide) rfl
        have hKc := hK.sub (tys' := [(cI, .int)]) [1] rfl
        have hFc := va_free (wc := [(mo, .inr (13, MF 30 (rf (rs v Q2 o) j_V1 b_V1))), (Q2.qq, .inl (cI, (8 * Q2.C), .inl Q2.qf))]) hD hS hA [0, 2] rfl
        refine va_calli (va_runV (As := [.int (nI Q.R), .int (nI 2)]) (rest := [.int (nI V1.us), .int 3, .int (nI Q.R), .ref mo]) ⟨hx, hb, hml, hown, hts⟩ (c_Mo_field l dC dI mo H (rf (rs v Q2 o) j_V1 b_V1) cI Q2.qq (8 * Q2.C) Q2.qf Q.R 2 (by omega) (by omega) ((rf_ne (by decide) (by decide)).trans rs_19)) (cwV 2 hts (gt_V (own := R_Mo) (C := R_Mo) (i := 286) (y := y_Mo_field) i_Mo_field w_1431 w_1433 (gt_sel (y := y_Mo_field) (n := 30) (by decide +kernel)) w_7) rfl rfl rfl (by decide +kernel) ⟨Nat.le_trans (m := 7) (Nat.le_of_ble_eq_true rfl) (Nat.le_add_right 7 F), Nat.le_trans (m := 200) (Nat.le_of_ble_eq_true rfl) (Nat.le_add_right 200 L)⟩) ⟨mp_blind, va_recv hKc hPc (ci := 13) (q0 := 0) rfl rfl, fun U hU hW => ⟨rfl, hU, by rw [hU]; exact hPc, va_K.moved hW.alike hKc, hDc.weaken (fun _ _ _ _ => trivial)⟩⟩ rfl rfl hl.1 rfl (lv_room (Nat.le_of_ble_eq_true rfl)) d_Mo_selector_63 ⟨hfit_Q2V1.1, hfit_Q2V1.2⟩) hS (fun q _ h => hFc q h) hFc (fun r7 _u t9 H1 locs ht hvm hw hB hz1 hk1 hS => ?_)
        obtain ⟨hP1, hK1, hD1⟩ := hB
        rw [ht] at hP1
        obtain ⟨hP, hD⟩ := va_join (wr := [(qx, .inl (cB, NN, .inl f)), (Q2.qe, .inl (cL, (3 * Q2.C), .inr (.inl Q2.ef))), (tv, .inr (12, MF 13 (tw V1))), (V1.au, .inl (cC, V1.U, .inl V1.un))]) (w1 := [(mo, .inr (13, MF 30 (rf (rs v Q2 o) j_V1 b_V1))), (Q2.qq, .inl (cI, (8 * Q2.C), .inl Q2.qf))]) hP hD [0, 2] [1, 3, 4, 5] rfl rfl (by decide) (by decide) hk1 hFc hP1 hD1
        generalize H1 = H at hP hS ⊢
        have hP : va_P (dC, dI) classes [(qx, .inl (cB, NN, .inl f)), (Q2.qe, .inl (cL, (3 * Q2.C), .inr (.inl Q2.ef))), (tv, .inr (12, MF 13 (tw V1))), (V1.au, .inl (cC, V1.U, .inl V1.un)), (mo, .inr (13, MF 30 (rf (rs v Q2 o) j_V1 b_V1))), (Q2.qq, .inl (cI, (8 * Q2.C), .inl Q2.qf))] H := hP
        have hD : va_D A [(qx, .inl (cB, NN, .inl f)), (Q2.qe, .inl (cL, (3 * Q2.C), .inr (.inl Q2.ef))), (tv, .inr (12, MF 13 (tw V1))), (V1.au, .inl (cC, V1.U, .inl V1.un)), (mo, .inr (13, MF 30 (rf (rs v Q2 o) j_V1 b_V1))), (Q2.qq, .inl (cI, (8 * Q2.C), .inl Q2.qf))] := hD
        have hP := hP.sub (ws' := [(mo, .inr (13, MF 30 (rf (rs v Q2 o) j_V1 b_V1))), (qx, .inl (cB, NN, .inl f)), (Q2.qq, .inl (cI, (8 * Q2.C), .inl Q2.qf)), (Q2.qe, .inl (cL, (3 * Q2.C), .inr (.inl Q2.ef))), (tv, .inr (12, MF 13 (tw V1))), (V1.au, .inl (cC, V1.U, .inl V1.un))]) [4, 0, 5, 1, 2, 3] rfl
        have hD := hD.sub (ws' := [(mo, .inr (13, MF 30 (rf (rs v Q2 o) j_V1 b_V1))), (qx, .inl (cB, NN, .inl f)), (Q2.qq, .inl (cI, (8 * Q2.C), .inl Q2.qf)), (Q2.qe, .inl (cL, (3 * Q2.C), .inr (.inl Q2.ef))), (tv, .inr (12, MF 13 (tw V1))), (V1.au, .inl (cC, V1.U, .inl V1.un))]) [4, 0, 5, 1, 2, 3] (by decide) rfl
        have h_r7 : r7 = Q2.qf (8 * Q.R + 2) := hw
        have h7 : r7 = nI V.us := by rw [h_r7, hf_Q2.2.2]; exact pk_us
        subst h7
        refine lv_isub hx hb d_Mo_selector_66 ?_
        refine W.eq (g2 := F0 m 67 ls [.int (nI us9.length), .int 3, .int (nI Q.R), .ref mo]) (by rw [show ((nI V1.us) - (nI V.us)) = (nI us9.length) from (by rw [hXs_V1]; exact nI_asub _ _)]) ?_
        refine W.eq (g2 := F0 m 67 ls [.int (nI us9.length), .int (nI 3), .int (nI Q.R), .ref mo]) rfl ?_
        have hPc := hP.sub (ws' := [(mo, .inr (13, MF 30 (rf (rs v Q2 o) j_V1 b_V1))), (Q2.qq, .inl (cI, (8 * Q2.C), .inl Q2.qf))]) [0, 2] rfl
        have hDc := hD.sub (ws' := [(mo, .inr (13, MF 30 (rf (rs v Q2 o) j_V1 b_V1))), (Q2.qq, .inl (cI, (8 * Q2.C), .inl Q2.qf))]) [0, 2] (by decide) rfl
        have hKc := hK.sub (tys' := [(cI, .int)]) [1] rfl
        have hFc := va_free (wc := [(mo, .inr (13, MF 30 (rf (rs v Q2 o) j_V1 b_V1))), (Q2.qq, .inl (cI, (8 * Q2.C), .inl Q2.qf))]) hD hS hA [0, 2] rfl
        refine va_callv (va_runV (As := [.int (nI Q.R), .int (nI 3), .int (nI us9.length)]) (rest := []) ⟨hx, hb, hml, hown, hts⟩ (c_Mo_set l dC dI mo H (rf (rs v Q2 o) j_V1 b_V1) cI Q2.qq (8 * Q2.C) Q2.qf Q.R 3 ((nI us9.length)) (by omega) (by omega) ((rf_ne (by decide) (by decide)).trans rs_19)) (cwV 3 hts (gt_V (own := R_Mo) (C := R_Mo) (i := 272) (y := y_Mo_set) i_Mo_set w_1411 w_1413 (gt_sel (y := y_Mo_set) (n := 30) (by decide +kernel)) w_7) rfl rfl rfl (by decide +kernel) ⟨Nat.le_trans (m := 7) (Nat.le_of_ble_eq_true rfl) (Nat.le_add_right 7 F), Nat.le_trans (m := 200) (Nat.le_of_ble_eq_true rfl) (Nat.le_add_right 200 L)⟩) ⟨mp_blind, va_recv hKc hPc (ci := 13) (q0 := 0) rfl rfl, fun U hU hW => ⟨rfl, hU, by rw [hU]; exact hPc, va_K.moved hW.alike hKc, hDc.weaken (fun _ _ _ _ => trivial)⟩⟩ rfl rfl hl.1 rfl (lv_room (Nat.le_of_ble_eq_true rfl)) d_Mo_selector_67 ⟨hfit_Q2V1.1, hfit_Q2V1.2⟩) hS (fun q _ h => hFc q h) hFc (fun _u t9 H1 locs ht hvm hw hB hz1 hk1 hS => ?_)
        obtain ⟨hP1, hK1, hD1⟩ := hB
        rw [ht] at hP1
        obtain ⟨hP, hD⟩ := va_join (wr := [(qx, .inl (cB, NN, .inl f)), (Q2.qe, .inl (cL, (3 * Q2.C), .inr (.inl Q2.ef))), (tv, .inr (12, MF 13 (tw V1))), (V1.au, .inl (cC, V1.U, .inl V1.un))]) (w1 := [(mo, .inr (13, MF 30 (rf (rs v Q2 o) j_V1 b_V1))), (Q2.qq, .inl (cI, (8 * Q2.C), .inl (upd Q2.qf (8 * Q.R + 3) ((nI us9.length)))))]) hP hD [0, 2] [1, 3, 4, 5] rfl rfl (by decide) (by decide) hk1 hFc hP1 hD1
        generalize H1 = H at hP hS ⊢
        have hP : va_P (dC, dI) classes [(qx, .inl (cB, NN, .inl f)), (Q2.qe, .inl (cL, (3 * Q2.C), .inr (.inl Q2.ef))), (tv, .inr (12, MF 13 (tw V1))), (V1.au, .inl (cC, V1.U, .inl V1.un)), (mo, .inr (13, MF 30 (rf (rs v Q2 o) j_V1 b_V1))), (Q2.qq, .inl (cI, (8 * Q2.C), .inl (upd Q2.qf (8 * Q.R + 3) ((nI us9.length)))))] H := hP
        have hD : va_D A [(qx, .inl (cB, NN, .inl f)), (Q2.qe, .inl (cL, (3 * Q2.C), .inr (.inl Q2.ef))), (tv, .inr (12, MF 13 (tw V1))), (V1.au, .inl (cC, V1.U, .inl V1.un)), (mo, .inr (13, MF 30 (rf (rs v Q2 o) j_V1 b_V1))), (Q2.qq, .inl (cI, (8 * Q2.C), .inl (upd Q2.qf (8 * Q.R + 3) ((nI us9.length)))))] := hD
        have hP := hP.sub (ws' := [(mo, .inr (13, MF 30 (rf (rs v Q2 o) j_V1 b_V1))), (qx, .inl (cB, NN, .inl f)), (Q2.qq, .inl (cI, (8 * Q2.C), .inl (upd Q2.qf (8 * Q.R + 3) ((nI us9.length))))), (Q2.qe, .inl (cL, (3 * Q2.C), .inr (.inl Q2.ef))), (tv, .inr (12, MF 13 (tw V1))), (V1.au, .inl (cC, V1.U, .inl V1.un))]) [4, 0, 5, 1, 2, 3] rfl
        have hD := hD.sub (ws' := [(mo, .inr (13, MF 30 (rf (rs v Q2 o) j_V1 b_V1))), (qx, .inl (cB, NN, .inl f)), (Q2.qq, .inl (cI, (8 * Q2.C), .inl (upd Q2.qf (8 * Q.R + 3) ((nI us9.length))))), (Q2.qe, .inl (cL, (3 * Q2.C), .inr (.inl Q2.ef))), (tv, .inr (12, MF 13 (tw V1))), (V1.au, .inl (cC, V1.U, .inl V1.un))]) [4, 0, 5, 1, 2, 3] (by decide) rfl
        obtain ⟨Q3, e_Q3⟩ : ∃ z : QS, z = QS.wf Q2 (upd Q2.qf (8 * Q.R + 3) ((nI us9.length))) := ⟨_, rfl⟩
        have hP : va_P (dC, dI) classes [(mo, .inr (13, MF 30 (rf (rs v Q3 o) j_V1 b_V1))), (qx, .inl (cB, NN, .inl f)), (Q3.qq, .inl (cI, (8 * Q3.C), .inl Q3.qf)), (Q3.qe, .inl (cL, (3 * Q3.C), .inr (.inl Q3.ef))), (tv, .inr (12, MF 13 (tw V1))), (V1.au, .inl (cC, V1.U, .inl V1.un))] H := by subst e_Q3; exact hP
        have hD : va_D A [(mo, .inr (13, MF 30 (rf (rs v Q3 o) j_V1 b_V1))), (qx, .inl (cB, NN, .inl f)), (Q3.qq, .inl (cI, (8 * Q3.C), .inl Q3.qf)), (Q3.qe, .inl (cL, (3 * Q3.C), .inr (.inl Q3.ef))), (tv, .inr (12, MF 13 (tw V1))), (V1.au, .inl (cC, V1.U, .inl V1.un))] := by subst e_Q3; exact hD
        have hf_Q3 : Q3.C = Q2.C ∧ Q3.R = Q2.R ∧ Q3.qf = upd Q2.qf (8 * Q.R + 3) ((nI us9.length)) := by rw [e_Q3]; exact ⟨rfl, rfl, rfl⟩
        have he_Q3 : Q3.ef = Q2.ef := by rw [e_Q3]; rfl
        have hQk_Q3 : QOK Q3 := by rw [e_Q3]; exact hQk_Q2
        have hG_Q3V1 : GQ (Q.R + 8 * (n - i) + 4) (V.us + (n + 12 - i)) Q V Q3 V1 := by unfold GQ at hG_Q2V1 ⊢; rw [hf_Q3.1]; exact hG_Q2V1
        refine w_same (fun hq => ?_)
        refine w_tight (k := cQ Q V Q3 V1) (n := sQ Q V Q3 V1) (by unfold cQ sQ at hq ⊢; rw [hf_Q3.1]; exact hq) ?_
        have hR_Q3 := hf_Q3.2.1
        have hqb_Q3V1 : Q3.R ≤ Q3.C ∧ Q3.C ≤ 100000 := ⟨hQk_Q3.2.2.1, hQk_Q3.2.1⟩
        have hfit_Q3V1 := hG_Q3V1.fits
        have hk0_Q3 : Q3.qf (8 * Q.R + 0) = 1 := by rw [hf_Q3.2.2, pk_un (by omega)]; exact hk0_Q2
        have hl1_Q3 : Q3.qf (8 * Q.R + 1) = -1 := by rw [hf_Q3.2.2, pk_un (by omega)]; exact hl1_Q2
        have hEx_Q3V1 : alr Q V Q3 V1 0 Q.R := hEx_Q2V1.tr (alr.upd hf_Q3.2.2 he_Q3 (by decide) (by omega))
        refine lv_iload_n hx hb d_Mo_selector_70 rfl (lv_at hl 0 rfl) ?_
        have hfin : selP f n (orL f n) false i = some (j_V1, true, namS us9) := by
          unfold selP
          rw [if_pos (Or.inl (h_r1.symm.trans c8))]
          rw [← h_r1, hqt_V1]; rfl
        have hu9 := qtQ_uok (Or.inl c8) hqt_V1
        have hNM : NMq Q3 V1 Q.R us9 := ⟨V.us, us9.length, by rw [hf_Q3.2.2, pk_un (by omega), hf_Q2.2.2]; exact pk_us, by rw [hf_Q3.2.2]; exact pk_us, by omega, by rw [hX_V1.un.2]; exact hu9.2⟩
        have hSE : SELp O Q3 V1 Q.R Q3.R Q.R (namS us9) := ⟨Nat.le_refl _, by omega, Or.inl ⟨hk0_Q3, us9, hNM, rfl⟩⟩
        refine w_same (fun hq => ?_)
        refine W.widen (k := kcap Q (Q.R + 8 * (n - i) + 4) + qcap V (V.us + (n + 12 - i))) (n := 22 * kcap Q (Q.R + 8 * (n - i) + 4) + 2 * qcap V (V.us + (n + 12 - i))) hfit_Q3V1.1 hfit_Q3V1.2 ?_
        have hPo : QPo n i 4 Q V (Q3, V1, j_V1, b_V1, o) := ⟨hQk_Q3, hG_Q3V1, ⟨us9, hX_V1, by omega⟩, by show Q.R ≤ Q3.R; omega, by show Q3.R ≤ Q.R + 8 * (n - i) + 4; omega⟩
        exact W.iret (v := nI Q.R) hx hb hr (fun t9 ht hW => ⟨⟨nI Q.R, (Q3, V1, j_V1, b_V1, o), rfl, ⟨hPo, Or.inl ⟨true, namS us9, rfl, hfin, hSE, ⟨fun _ => by rw [hk0_Q3]; decide, fun _ => rfl⟩, hl1_Q3, hEx_Q3V1, by show Q3.R + 8 * i + 7 ≤ Q.R + 8 * j_V1; omega, by show V1.us + i ≤ V.us + j_V1; omega, by show j_V1 ≤ n; omega, by show Q.R < Q3.R; omega, rfl⟩⟩, ⟨by rw [ht]; exact hP, va_K.moved hW.alike hK, hD⟩, by rw [ht]; exact hq⟩, hS.F ht⟩) hS.2.2 d_Mo_selector_71
      · have hqt_V1 : qtQ f n r1 i = none := ho_2
        clear ho_3 ho_4
        have hTk_V1 := hX_V1.ok hTk_V (by omega)
        subst ho_1
        have hEx_Q2V1 : alr Q V Q2 V1 0 Q.R := hEx_Q2V.tr hX_V1.alr
        have hqb_Q2V1 : Q2.R ≤ Q2.C ∧ Q2.C ≤ 100000 := ⟨hQk_Q2.2.2.1, hQk_Q2.2.1⟩
        have hfit_Q2V1 := hG_Q2V1.fits
        refine lv_if_ne (tgt := 50) hx hb d_Mo_selector_45 (by decide) (fun h => absurd h (by decide)) (fun _ => ?_)
        refine lv_iconst (v := (-1)) hx hb d_Mo_selector_48 (by decide) ?_
        have hfin : selP f n (orL f n) false i = none := by
          unfold selP
          rw [if_pos (Or.inl (h_r1.symm.trans c8))]
          rw [← h_r1, hqt_V1]; rfl
        refine w_same (fun hq => ?_)
        refine W.widen (k := kcap Q (Q.R + 8 * (n - i) + 4) + qcap V (V.us + (n + 12 - i))) (n := 22 * kcap Q (Q.R + 8 * (n - i) + 4) + 2 * qcap V (V.us + (n + 12 - i))) hfit_Q2V1.1 hfit_Q2V1.2 ?_
        have hPo : QPo n i 4 Q V (Q2, V1, j_V1, b_V1, o) := ⟨hQk_Q2, hG_Q2V1, ⟨us9, hX_V1, by omega⟩, by show Q.R ≤ Q2.R; omega, by show Q2.R ≤ Q.R + 8 * (n - i) + 4; omega⟩
        exact W.iret (v := -1) hx hb hr (fun t9 ht hW => ⟨⟨-1, (Q2, V1, j_V1, b_V1, o), rfl, ⟨hPo, Or.inr ⟨rfl, hfin⟩⟩, ⟨by rw [ht]; exact hP, va_K.moved hW.alike hK, hD⟩, by rw [ht]; exact hq⟩, hS.F ht⟩) hS.2.2 d_Mo_selector_49
    · refine lv_iload_n hx hb d_Mo_selector_11 rfl (lv_at hl 0 rfl) ?_
      refine lv_bipush (v := 34) hx hb d_Mo_selector_12 (by decide) ?_
      refine lv_icmp_ne (tgt := 72) hx hb d_Mo_selector_14 (by decide) (fun c14 => ?_) (fun c14 => ?_)
      · refine lv_iload_n hx hb d_Mo_selector_72 rfl (lv_at hl 0 rfl) ?_
        refine lv_bipush (v := 42) hx hb d_Mo_selector_73 (by decide) ?_
        refine lv_icmp_ne (tgt := 98) hx hb d_Mo_selector_75 (by decide) (fun c75 => ?_) (fun c75 => ?_)
        · refine lv_iload_n hx hb d_Mo_selector_98 rfl (lv_at hl 0 rfl) ?_
          refine lv_bipush (v := 63) hx hb d_Mo_selector_99 (by decide) ?_
          refine lv_icmp_ne (tgt := 151) hx hb d_Mo_selector_101 (by decide) (fun c101 => ?_) (fun c101 => ?_)
          · refine lv_iload_n hx hb d_Mo_selector_151 rfl (lv_at hl 0 rfl) ?_
            refine lv_bipush (v := 45) hx hb d_Mo_selector_152 (by decide) ?_
            refine lv_icmp_eq (tgt := 185) hx hb d_Mo_selector_154 (by decide) (fun c154 => ?_) (fun c154 => ?_)
            · have hselT : selP f n (orL f n) false i = selT f n false i := by unfold selP; rw [if_neg (fun h => by rw [← h_r1] at h; exact h.elim c8 c14), if_neg (fun h => c75 (h_r1.trans h.1)), if_neg (fun h => c101 (h_r1.trans h.1)), if_neg (fun h => h.1 (h_r1.symm.trans c154))]; rfl
              exact jn185 () _ _ _ ⟨hselT, Or.inl c154⟩ hP hD hS (lv_sub hl [1, 2, 0] rfl)
            · refine lv_iload_n hx hb d_Mo_selector_157 rfl (lv_at hl 0 rfl) ?_
              have hPc := hP.sub (ws' := []) [] rfl
              have hDc := hD.sub (ws' := []) [] (by decide) rfl
              have hKc := hK.sub (tys' := []) [] rfl
              have hFc := va_free (wc := []) hD hS hA [] rfl
              refine va_calli (va_runS (As := [.int r1]) (rest := []) ⟨hx, hb, hml, hown, hts⟩ (c_Mo_digit l dC dI H r1) (va_cwS 1 hts (gt_S (own := R_Mo) (i := 166) (y := y_Mo_digit) i_Mo_digit w_1332 w_1333 w_7) rfl rfl rfl (by decide +kernel) ⟨Nat.le_trans (m := 7) (Nat.le_of_ble_eq_true rfl) (Nat.le_add_right 7 F), Nat.le_trans (m := 200) (Nat.le_of_ble_eq_true rfl) (Nat.le_add_right 200 L)⟩) ⟨mp_blind, fun U hU hW => ⟨rfl, hU, by rw [hU]; exact hPc, va_K.moved hW.alike hKc, hDc.weaken (fun _ _ _ _ => trivial)⟩⟩ rfl rfl hl.1 rfl (lv_room (Nat.le_of_ble_eq_true rfl)) d_Mo_selector_158 ⟨hfit_QV.1, hfit_QV.2⟩) hS (fun q _ h => hFc q h) hFc (fun d1 _u t9 H1 locs ht hvm hw hB hz1 hk1 hS => ?_)
              obtain ⟨hP1, hK1, hD1⟩ := hB
              rw [ht] at hP1
              obtain ⟨hP, hD⟩ := va_join (wr := [(mo, .inr (13, MF 30 (rf (rs v Q o) i br))), (qx, .inl (cB, NN, .inl f)), (Q.qq, .inl (cI, (8 * Q.C), .inl Q.qf)), (Q.qe, .inl (cL, (3 * Q.C), .inr (.inl Q.ef))), (tv, .inr (12, MF 13 (tw V))), (V.au, .inl (cC, V.U, .inl V.un))]) (w1 := []) hP hD [] [0, 1, 2, 3, 4, 5] rfl rfl (by decide) (by decide) hk1 hFc hP1 hD1
              generalize H1 = H at hP hS ⊢
              have hP : va_P (dC, dI) classes [(mo, .inr (13, MF 30 (rf (rs v Q o) i br))), (qx, .inl (cB, NN, .inl f)), (Q.qq, .inl (cI, (8 * Q.C), .inl Q.qf)), (Q.qe, .inl (cL, (3 * Q.C), .inr (.inl Q.ef))), (tv, .inr (12, MF 13 (tw V))), (V.au, .inl (cC, V.U, .inl V.un))] H := hP
              have hD : va_D A [(mo, .inr (13, MF 30 (rf (rs v Q o) i br))), (qx, .inl (cB, NN, .inl f)), (Q.qq, .inl (cI, (8 * Q.C), .inl Q.qf)), (Q.qe, .inl (cL, (3 * Q.C), .inr (.inl Q.ef))), (tv, .inr (12, MF 13 (tw V))), (V.au, .inl (cC, V.U, .inl V.un))] := hD
              have h_d1 := dg_01 hw
              refine lv_if_ne (tgt := 185) hx hb d_Mo_selector_161 (by decide) (fun c161 => ?_) (fun c161 => ?_)
              · have hselT : selP f n (orL f n) false i = selT f n false i := by unfold selP; rw [if_neg (fun h => by rw [← h_r1] at h; exact h.elim c8 c14), if_neg (fun h => c75 (h_r1.trans h.1)), if_neg (fun h => c101 (h_r1.trans h.1)), if_neg (fun h => h.2.1 (by rw [← h_r1]; exact h_d1.1 c161))]; rfl
                exact jn185 () _ _ _ ⟨hselT, Or.inr (Or.inl (h_d1.1 c161))⟩ hP hD hS (lv_sub hl [1, 2, 0] rfl)
              · refine lv_iload_n hx hb d_Mo_selector_164 rfl (lv_at hl 0 rfl) ?_
                refine lv_bipush (v := 58) hx hb d_Mo_selector_165 (by decide) ?_
                refine lv_icmp_ne (tgt := 174) hx hb d_Mo_selector_167 (by decide) (fun c167 => ?_) (fun c167 => ?_)
                · refine lv_aload_n hx hb d_Mo_selector_174 rfl (lv_at hl 1 rfl) ?_
                  refine lv_aload_n hx hb d_Mo_selector_175 rfl (lv_at hl 1 rfl) ?_
                  refine va_get (D := (dC, dI)) (ci := 13) (v := .int (nI i)) (C := R_Mo) (T := F_Mo) (N := 30) hx hb hts in_Mo hown hK hP 0 rfl rfl 7 (by decide) (hts _ w_1096) (fun _ h9 => h9) (MFg (by decide) rf_7) d_Mo_selector_176 ?_
                  have hPc := hP.sub (ws' := [(mo, .inr (13, MF 30 (rf (rs v Q o) i br)))]) [0] rfl
                  have hDc := hD.sub (ws' := [(mo, .inr (13, MF 30 (rf (rs v Q o) i br)))]) [0] (by decide) rfl
                  have hKc := hK.sub (tys' := []) [] rfl
                  have hFc := va_free (wc := [(mo, .inr (13, MF 30 (rf (rs v Q o) i br)))]) hD hS hA [0] rfl
                  refine va_calli (va_runV (As := [.int (nI i)]) (rest := []) ⟨hx, hb, hml, hown, hts⟩ (c_Mo_fail l dC dI mo H (rf (rs v Q o) i br) br ((nI i)) rf_9) (cwV 1 hts (gt_V (own := R_Mo) (C := R_Mo) (i := 151) (y := y_Mo_fail) i_Mo_fail w_1250 w_1252 (gt_sel (y := y_Mo_fail) (n := 30) (by decide +kernel)) w_7) rfl rfl rfl (by decide +kernel) ⟨Nat.le_trans (m := 7) (Nat.le_of_ble_eq_true rfl) (Nat.le_add_right 7 F), Nat.le_trans (m := 200) (Nat.le_of_ble_eq_true rfl) (Nat.le_add_right 200 L)⟩) ⟨mp_blind, va_recv hKc hPc (ci := 13) (q0 := 0) rfl rfl, fun U hU hW => ⟨rfl, hU, by rw [hU]; exact hPc, va_K.moved hW.alike hKc, hDc.weaken (fun _ _ _ _ => trivial)⟩⟩ rfl rfl hl.1 rfl (lv_room (Nat.le_of_ble_eq_true rfl)) d_Mo_selector_179 ⟨hfit_QV.1, hfit_QV.2⟩) hS (fun q _ h => hFc q h) hFc (fun r0 u2 t9 H1 locs ht hvm hw hB hz1 hk1 hS => ?_)
                  obtain ⟨hP1, hK1, hD1⟩ := hB
                  rw [ht] at hP1
                  obtain ⟨hP, hD⟩ := va_join (wr := [(qx, .inl (cB, NN, .inl f)), (Q.qq, .inl (cI, (8 * Q.C), .inl Q.qf)), (Q.qe, .inl (cL, (3 * Q.C), .inr (.inl Q.ef))), (tv, .inr (12, MF 13 (tw V))), (V.au, .inl (cC, V.U, .inl V.un))]) (w1 := [(mo, .inr (13, MF 30 u2))]) hP hD [0] [1, 2, 3, 4, 5] rfl rfl (by decide) (by decide) hk1 hFc hP1 hD1
                  generalize H1 = H at hP hS ⊢
                  have hP : va_P (dC, dI) classes [(qx, .inl (cB, NN, .inl f)), (Q.qq, .inl (cI, (8 * Q.C), .inl Q.qf)), (Q.qe, .inl (cL, (3 * Q.C), .inr (.inl Q.ef))), (tv, .inr (12, MF 13 (tw V))), (V.au, .inl (cC, V.U, .inl V.un)), (mo, .inr (13, MF 30 u2))] H := hP
                  have hD : va_D A [(qx, .inl (cB, NN, .inl f)), (Q.qq, .inl (cI, (8 * Q.C), .inl Q.qf)), (Q.qe, .inl (cL, (3 * Q.C), .inr (.inl Q.ef))), (tv, .inr (12, MF 13 (tw V))), (V.au, .inl (cC, V.U, .inl V.un)), (mo, .inr (13, MF 30 u2))] := hD
                  have hP := hP.sub (ws' := [(mo, .inr (13, MF 30 u2)), (qx, .inl (cB, NN, .inl f)), (Q.qq, .inl (cI, (8 * Q.C), .inl Q.qf)), (Q.qe, .inl (cL, (3 * Q.C), .inr (.inl Q.ef))), (tv, .inr (12, MF 13 (tw V))), (V.au, .inl (cC, V.U, .inl V.un))]) [5, 0, 1, 2, 3, 4] rfl
                  have hD := hD.sub (ws' := [(mo, .inr (13, MF 30 u2)), (qx, .inl (cB, NN, .inl f)), (Q.qq, .inl (cI, (8 * Q.C), .inl Q.qf)), (Q.qe, .inl (cL, (3 * Q.C), .inr (.inl Q.ef))), (tv, .inr (12, MF 13 (tw V))), (V.au, .inl (cC, V.U, .inl V.un))]) [5, 0, 1, 2, 3, 4] (by decide) rfl
                  obtain ⟨b7, h_b7⟩ := rf_fail (v := (rs v Q o)) (i := i) (br := br) (b2 := br) (wh := (nI i))
                  have hw : r0 = 0 ∧ u2 = _ := hw
                  obtain ⟨hw1, hw2⟩ := hw
                  rw [h_b7] at hw2
                  rw [hw2] at hP hD
                  subst hw1
                  have hP : va_P (dC, dI) classes [(mo, .inr (13, MF 30 (rf (rs v Q o) i b7))), (qx, .inl (cB, NN, .inl f)), (Q.qq, .inl (cI, (8 * Q.C), .inl Q.qf)), (Q.qe, .inl (cL, (3 * Q.C), .inr (.inl Q.ef))), (tv, .inr (12, MF 13 (tw V))), (V.au, .inl (cC, V.U, .inl V.un))] H := hP
                  have hD : va_D A [(mo, .inr (13, MF 30 (rf (rs v Q o) i b7))), (qx, .inl (cB, NN, .inl f)), (Q.qq, .inl (cI, (8 * Q.C), .inl Q.qf)), (Q.qe, .inl (cL, (3 * Q.C), .inr (.inl Q.ef))), (tv, .inr (12, MF 13 (tw V))), (V.au, .inl (cC, V.U, .inl V.un))] := hD
                  refine lv_pop hx hb d_Mo_selector_182 rfl ?_
                  refine lv_iconst (v := (-1)) hx hb d_Mo_selector_183 (by decide) ?_
                  have hfin : selP f n (orL f n) false i = none := by
                    unfold selP
                    rw [if_neg (fun h => by rw [← h_r1] at h; exact h.elim c8 c14), if_neg (fun h => c75 (h_r1.trans h.1)), if_neg (fun h => c101 (h_r1.trans h.1)), if_pos ⟨fun h => c154 (h_r1.trans h), (by rw [← h_r1]; exact h_d1.2 c161), Or.inl (fun h => c167 (h_r1.trans h))⟩]
                  refine w_same (fun hq => ?_)
                  refine W.widen (k := kcap Q (Q.R + 8 * (n - i) + 4) + qcap V (V.us + (n + 12 - i))) (n := 22 * kcap Q (Q.R + 8 * (n - i) + 4) + 2 * qcap V (V.us + (n + 12 - i))) hfit_QV.1 hfit_QV.2 ?_
                  have hPo : QPo n i 4 Q V (Q, V, i, b7, o) := ⟨hQk_Q, hG_QV, ⟨[], TX.rf hTk_V, Nat.zero_le _⟩, by show Q.R ≤ Q.R; omega, by show Q.R ≤ Q.R + 8 * (n - i) + 4; omega⟩
                  exact W.iret (v := -1) hx hb hr (fun t9 ht hW => ⟨⟨-1, (Q, V, i, b7, o), rfl, ⟨hPo, Or.inr ⟨rfl, hfin⟩⟩, ⟨by rw [ht]; exact hP, va_K.moved hW.alike hK, hD⟩, by rw [ht]; exact hq⟩, hS.F ht⟩) hS.2.2 d_Mo_selector_184
                · refine lv_iload_n hx hb d_Mo_selector_170 rfl (lv_at hl 2 rfl) ?_
                  refine lv_if_eq (tgt := 185) hx hb d_Mo_selector_171 (by decide) (fun _ => ?_) (fun h => absurd (by decide) h)
                  have hselT : selP f n (orL f n) false i = selT f n false i := by unfold selP; rw [if_neg (fun h => by rw [← h_r1] at h; exact h.elim c8 c14), if_neg (fun h => c75 (h_r1.trans h.1)), if_neg (fun h => c101 (h_r1.trans h.1)), if_neg (fun h => h.2.2.elim (fun q => q (h_r1.symm.trans c167)) (fun q => absurd q (by decide)))]; rfl
                  exact jn185 () _ _ _ ⟨hselT, Or.inr (Or.inr c167)⟩ hP hD hS (lv_sub hl [1, 2, 0] rfl)
          · refine lv_iload_n hx hb d_Mo_selector_104 rfl (lv_at hl 2 rfl) ?_
            refine lv_if_ne (tgt := 151) hx hb d_Mo_selector_105 (by decide) (fun h => absurd h (by decide)) (fun _ => ?_)
            refine lv_aload_n hx hb d_Mo_selector_108 rfl (lv_at hl 1 rfl) ?_
            refine lv_dup hx hb d_Mo_selector_109 rfl ?_
            refine va_get (D := (dC, dI)) (ci := 13) (v := .int (nI i)) (C := R_Mo) (T := F_Mo) (N := 30) hx hb hts in_Mo hown hK hP 0 rfl rfl 7 (by decide) (hts _ w_1096) (fun _ h9 => h9) (MFg (by decide) rf_7) d_Mo_selector_110 ?_
            refine lv_iconst (v := 1) hx hb d_Mo_selector_113 (by decide) ?_
            refine lv_iadd hx hb d_Mo_selector_114 ?_
            have hlt63 := here_in (h_r1.symm.trans c101) (by decide)
            refine W.eq (g2 := F0 m 115 ls [.int (nI (i + 1)), .ref mo]) (by rw [show ((nI i) + 1) = (nI (i + 1)) from nI_1 _]) ?_
            refine va_put (D := (dC, dI)) (ci := 13) (v := .int (nI (i + 1))) (ty := .int) (C := R_Mo) (T := F_Mo) (N := 30) hx hb hts in_Mo t_Mo t_Mo_ok n_Mo hown hK hP hD hS 0 rfl rfl 7 (by decide) (hts _ w_1096) (fun _ h9 => h9) rfl (by decide +kernel) rfl rfl (by rw [MFl]; decide) d_Mo_selector_115 (fun H locs hP hD hS => ?_)
            rw [MFs (n := 30) (k := 7) (by decide)] at hP hD
            have hP : va_P (dC, dI) classes [(mo, .inr (13, MF 30 (va_up (rf (rs v Q o) i br) 7 (.int (nI (i + 1)))))), (qx, .inl (cB, NN, .inl f)), (Q.qq, .inl (cI, (8 * Q.C), .inl Q.qf)), (Q.qe, .inl (cL, (3 * Q.C), .inr (.inl Q.ef))), (tv, .inr (12, MF 13 (tw V))), (V.au, .inl (cC, V.U, .inl V.un))] H := hP
            have hD : va_D A [(mo, .inr (13, MF 30 (va_up (rf (rs v Q o) i br) 7 (.int (nI (i + 1)))))), (qx, .inl (cB, NN, .inl f)), (Q.qq, .inl (cI, (8 * Q.C), .inl Q.qf)), (Q.qe, .inl (cL, (3 * Q.C), .inr (.inl Q.ef))), (tv, .inr (12, MF 13 (tw V))), (V.au, .inl (cC, V.U, .inl V.un))] := hD
            rw [rf_u7] at hP hD
            have hP : va_P (dC, dI) classes [(mo, .inr (13, MF 30 (rf (rs v Q o) (i + 1) br))), (qx, .inl (cB, NN, .inl f)), (Q.qq, .inl (cI, (8 * Q.C), .inl Q.qf)), (Q.qe, .inl (cL, (3 * Q.C), .inr (.inl Q.ef))), (tv, .inr (12, MF 13 (tw V))), (V.au, .inl (cC, V.U, .inl V.un))] H := hP
            have hD : va_D A [(mo, .inr (13, MF 30 (rf (rs v Q o) (i + 1) br))), (qx, .inl (cB, NN, .inl f)), (Q.qq, .inl (cI, (8 * Q.C), .inl Q.qf)), (Q.qe, .inl (cL, (3 * Q.C), .inr (.inl Q.ef))), (tv, .inr (12, MF 13 (tw V))), (V.au, .inl (cC, V.U, .inl V.un))] := hD
            refine lv_aload_n hx hb d_Mo_selector_118 rfl (lv_at hl 1 rfl) ?_
            refine lv_iconst (v := 5) hx hb d_Mo_selector_119 (by decide) ?_
            have hPc := hP.sub (ws' := [(mo, .inr (13, MF 30 (rf (rs v Q o) (i + 1) br))), (Q.qq, .inl (cI, (8 * Q.C), .inl Q.qf)), (Q.qe, .inl (cL, (3 * Q.C), .inr (.inl Q.ef)))]) [0, 2, 3] rfl
            have hDc := hD.sub (ws' := [(mo, .inr (13, MF 30 (rf (rs v Q o) (i + 1) br))), (Q.qq, .inl (cI, (8 * Q.C), .inl Q.qf)), (Q.qe, .inl (cL, (3 * Q.C), .inr (.inl Q.ef)))]) [0, 2, 3] (by decide) rfl
            have hKc := hK.sub (tys' := [(cI, .int), (cL, .long)]) [1, 2] rfl
            have hFc := va_free (wc := [(mo, .inr (13, MF 30 (rf (rs v Q o) (i + 1) br))), (Q.qq, .inl (cI, (8 * Q.C), .inl Q.qf)), (Q.qe, .inl (cL, (3 * Q.C), .inr (.inl Q.ef)))]) hD hS hA [0, 2, 3] rfl
            refine w_same (fun hq0 => ?_)
            refine va_calli (va_runV (As := [.int 5]) (rest := []) ⟨hx, hb, hml, hown, hts⟩ (c_Mo_row l dC dI mo H v cI cL Q o (i + 1) br 5 hQk_Q) (cwV 1 hts (gt_V (own := R_Mo) (C := R_Mo) (i := 269) (y := y_Mo_row) i_Mo_row w_1407 w_1409 (gt_sel (y := y_Mo_row) (n := 30) (by decide +kernel)) w_7) rfl rfl rfl (by decide +kernel) ⟨Nat.le_trans (m := 7) (Nat.le_of_ble_eq_true rfl) (Nat.le_add_right 7 F), Nat.le_trans (m := 200) (Nat.le_of_ble_eq_true rfl) (Nat.le_add_right 200 L)⟩) ⟨mp_blind, va_recv hKc hPc (ci := 13) (q0 := 0) rfl rfl, fun U hU hW => ⟨rfl, hU, by rw [hU]; exact hPc, va_K.moved hW.alike hKc, hDc.weaken (fun _ _ _ _ => trivial)⟩⟩ rfl rfl hl.1 rfl (lv_room (Nat.le_of_ble_eq_true rfl)) d_Mo_selector_120 ⟨(QAd.fit hG_QV hQk_Q (by omega)).1, (QAd.fit hG_QV hQk_Q (by omega)).2⟩) hS (fun q _ h => hFc q h) hFc (fun r0 Q1 t9 H1 locs ht hvm hw hB hz1 hk1 hS => ?_)
            obtain ⟨⟨hP1, hK1, hD1⟩, hz9⟩ := hB
            rw [ht] at hP1
            rw [ht] at hz9
            obtain ⟨hr0, hA_Q1⟩ := hw
            have hA_Q1 : QAd Q Q1 5 := hA_Q1
            obtain ⟨hQk_Q1, hGa, hGb, hGd, hR_Q1⟩ := hA_Q1.gq hQk_Q (by omega) V
            obtain ⟨hG_Q1V, hGc, hGs⟩ := hG_QV.tr hGa (show Q.R + 1 ≤ Q.R + 8 * (n - i) + 4 by omega) (Nat.zero_le _)
            have hGc := Nat.le_trans (Nat.add_le_add_left hGb _) hGc
            have hGs := Nat.le_trans (Nat.add_le_add_left hGd _) hGs
            have hq1 : szk s.heap H1 (cQ Q V Q1 V) (sQ Q V Q1 V) := (hq0.trans hz9).mono hGc hGs
            refine w_tight hq1 ?_
            obtain ⟨hP, hD⟩ := va_join (wr := [(qx, .inl (cB, NN, .inl f)), (tv, .inr (12, MF 13 (tw V))), (V.au, .inl (cC, V.U, .inl V.un))]) (w1 := [(mo, .inr (13, MF 30 (rf (rs v Q1 o) (i + 1) br))), (Q1.qq, .inl (cI, (8 * Q1.C), .inl Q1.qf)), (Q1.qe, .inl (cL, (3 * Q1.C), .inr (.inl Q1.ef)))]) hP hD [0, 2, 3] [1, 4, 5] rfl rfl (by decide) (by decide) hk1 hFc hP1 hD1
            generalize H1 = H at hP hS ⊢
            have hP : va_P (dC, dI) classes [(qx, .inl (cB, NN, .inl f)), (tv, .inr (12, MF 13 (tw V))), (V.au, .inl (cC, V.U, .inl V.un)), (mo, .inr (13, MF 30 (rf (rs v Q1 o) (i + 1) br))), (Q1.qq, .inl (cI, (8 * Q1.C), .inl Q1.qf)), (Q1.qe, .inl (cL, (3 * Q1.C), .inr (.inl Q1.ef)))] H := hP
            have hD : va_D A [(qx, .inl (cB, NN, .inl f)), (tv, .inr (12, MF 13 (tw V))), (V.au, .inl (cC, V.U, .inl V.un)), (mo, .inr (13, MF 30 (rf (rs v Q1 o) (i + 1) br))), (Q1.qq, .inl (cI, (8 * Q1.C), .inl Q1.qf)), (Q1.qe, .inl (cL, (3 * Q1.C), .inr (.inl Q1.ef)))] := hD
            have hP := hP.sub (ws' := [(mo, .inr (13, MF 30 (rf (rs v Q1 o) (i + 1) br))), (qx, .inl (cB, NN, .inl f)), (tv, .inr (12, MF 13 (tw V))), (V.au, .inl (cC, V.U, .inl V.un)), (Q1.qq, .inl (cI, (8 * Q1.C), .inl Q1.qf)), (Q1.qe, .inl (cL, (3 * Q1.C), .inr (.inl Q1.ef)))]) [3, 0, 1, 2, 4, 5] rfl
            have hD := hD.sub (ws' := [(mo, .inr (13, MF 30 (rf (rs v Q1 o) (i + 1) br))), (qx, .inl (cB, NN, .inl f)), (tv, .inr (12, MF 13 (tw V))), (V.au, .inl (cC, V.U, .inl V.un)), (Q1.qq, .inl (cI, (8 * Q1.C), .inl Q1.qf)), (Q1.qe, .inl (cL, (3 * Q1.C), .inr (.inl Q1.ef)))]) [3, 0, 1, 2, 4, 5] (by decide) rfl
            have hP := hP.sub (ws' := [(mo, .inr (13, MF 30 (rf (rs v Q1 o) (i + 1) br))), (qx, .inl (cB, NN, .inl f)), (Q1.qq, .inl (cI, (8 * Q1.C), .inl Q1.qf)), (Q1.qe, .inl (cL, (3 * Q1.C), .inr (.inl Q1.ef))), (tv, .inr (12, MF 13 (tw V))), (V.au, .inl (cC, V.U, .inl V.un))]) [0, 1, 4, 5, 2, 3] rfl
            have hD := hD.sub (ws' := [(mo, .inr (13, MF 30 (rf (rs v Q1 o) (i + 1) br))), (qx, .inl (cB, NN, .inl f)), (Q1.qq, .inl (cI, (8 * Q1.C), .inl Q1.qf)), (Q1.qe, .inl (cL, (3 * Q1.C), .inr (.inl Q1.ef))), (tv, .inr (12, MF 13 (tw V))), (V.au, .inl (cC, V.U, .inl V.un))]) [0, 1, 4, 5, 2, 3] (by decide) rfl
            have hr0 : r0 = nI Q.R := hr0
            subst hr0
            have hqb_Q1V : Q1.R ≤ Q1.C ∧ Q1.C ≤ 100000 := ⟨hQk_Q1.2.2.1, hQk_Q1.2.1⟩
            have hfit_Q1V := hG_Q1V.fits
            have hE_Q1 : alr Q V Q1 V 0 Q.R := ⟨fun r9 k9 _ h1 h2 => hA_Q1.2.2.1 _ (by omega), ⟨fun r9 k9 _ h1 h2 => hA_Q1.2.2.2.1.2 _ (by omega), Nat.le_refl _, fun _ _ => rfl⟩⟩
            have hk0_Q1 : Q1.qf (8 * Q.R + 0) = 5 := hA_Q1.2.2.2.2.1
            have hl1_Q1 : Q1.qf (8 * Q.R + 1) = -1 := hA_Q1.2.2.2.2.2 1 (by decide) (by decide)
            have hEx_Q1V : alr Q V Q1 V 0 Q.R := hE_Q1
            refine lv_istore_n (lv' := [(3, .int (nI Q.R)), (2, .int r1), (0, .ref mo), (1, .int 0)]) hx hb d_Mo_selector_123 rfl hl (by decide) rfl (fun ls hl => ?_)
            refine lv_aload_n hx hb d_Mo_selector_124 rfl (lv_at hl 2 rfl) ?_
            have hPc := hP.sub (ws' := [(mo, .inr (13, MF 30 (rf (rs v Q1 o) (i + 1) br))), (qx, .inl (cB, NN, .inl f))]) [0, 1] rfl
            have hDc := hD.sub (ws' := [(mo, .inr (13, MF 30 (rf (rs v Q1 o) (i + 1) br))), (qx, .inl (cB, NN, .inl f))]) [0, 1] (by decide) rfl
            have hKc := hK.sub (tys' := [(cB, .byte)]) [0] rfl
            have hFc := va_free (wc := [(mo, .inr (13, MF 30 (rf (rs v Q1 o) (i + 1) br))), (qx, .inl (cB, NN, .inl f))]) hD hS hA [0, 1] rfl
            refine va_callv (va_runV (As := []) (rest := []) ⟨hx, hb, hml, hown, hts⟩ (c_Mo_blanks l dC dI mo H (rf (rs v Q1 o) (i + 1) br) cB qx NN f n (i + 1) (by omega) (by omega) (by omega) ((rf_ne (by decide) (by decide)).trans ((rs_ne (by decide) (by decide) (by decide) (by decide)).trans h6)) rf_7 ((rf_ne (by decide) (by decide)).trans ((rs_ne (by decide) (by decide) (by decide) (by decide)).trans h8))) (cwV 0 hts (gt_V (own := R_Mo) (C := R_Mo) (i := 184) (y := y_Mo_blanks) i_Mo_blanks w_1229 w_1231 (gt_sel (y := y_Mo_blanks) (n := 30) (by decide +kernel)) w_7) rfl rfl rfl (by decide +kernel) ⟨Nat.le_trans (m := 7) (Nat.le_of_ble_eq_true rfl) (Nat.le_add_right 7 F), Nat.le_trans (m := 200) (Nat.le_of_ble_eq_true rfl) (Nat.le_add_right 200 L)⟩) ⟨mp_blind, va_recv hKc hPc (ci := 13) (q0 := 0) rfl rfl, fun U hU hW => ⟨rfl, hU, by rw [hU]; exact hPc, va_K.moved hW.alike hKc, hDc.weaken (fun _ _ _ _ => trivial)⟩⟩ rfl rfl hl.1 rfl (lv_room (Nat.le_of_ble_eq_true rfl)) d_Mo_selector_125 ⟨hfit_Q1V.1, hfit_Q1V.2⟩) hS (fun q _ h => hFc q h) hFc (fun _u t9 H1 locs ht hvm hw hB hz1 hk1 hS => ?_)
            obtain ⟨hP1, hK1, hD1⟩ := hB
            rw [ht] at hP1
            obtain ⟨hP, hD⟩ := va_join (wr := [(Q1.qq, .inl (cI, (8 * Q1.C), .inl Q1.qf)), (Q1.qe, .inl (cL, (3 * Q1.C), .inr (.inl Q1.ef))), (tv, .inr (12, MF 13 (tw V))), (V.au, .inl (cC, V.U, .inl V.un))]) (w1 := [(mo, .inr (13, MF 30 (va_up (rf (rs v Q1 o) (i + 1) br) 7 (.int (nI (skipH f n (i + 1))))))), (qx, .inl (cB, NN, .inl f))]) hP hD [0, 1] [2, 3, 4, 5] rfl rfl (by decide) (by decide) hk1 hFc hP1 hD1
            generalize H1 = H at hP hS ⊢
            have hP : va_P (dC, dI) classes [(Q1.qq, .inl (cI, (8 * Q1.C), .inl Q1.qf)), (Q1.qe, .inl (cL, (3 * Q1.C), .inr (.inl Q1.ef))), (tv, .inr (12, MF 13 (tw V))), (V.au, .inl (cC, V.U, .inl V.un)), (mo, .inr (13, MF 30 (va_up (rf (rs v Q1 o) (i + 1) br) 7 (.int (nI (skipH f n (i + 1))))))), (qx, .inl (cB, NN, .inl f))] H := hP
            have hD : va_D A [(Q1.qq, .inl (cI, (8 * Q1.C), .inl Q1.qf)), (Q1.qe, .inl (cL, (3 * Q1.C), .inr (.inl Q1.ef))), (tv, .inr (12, MF 13 (tw V))), (V.au, .inl (cC, V.U, .inl V.un)), (mo, .inr (13, MF 30 (va_up (rf (rs v Q1 o) (i + 1) br) 7 (.int (nI (skipH f n (i + 1))))))), (qx, .inl (cB, NN, .inl f))] := hD
            have hP := hP.sub (ws' := [(mo, .inr (13, MF 30 (va_up (rf (rs v Q1 o) (i + 1) br) 7 (.int (nI (skipH f n (i + 1))))))), (qx, .inl (cB, NN, .inl f)), (Q1.qq, .inl (cI, (8 * Q1.C), .inl Q1.qf)), (Q1.qe, .inl (cL, (3 * Q1.C), .inr (.inl Q1.ef))), (tv, .inr (12, MF 13 (tw V))), (V.au, .inl (cC, V.U, .inl V.un))]) [4, 5, 0, 1, 2, 3] rfl
            have hD := hD.sub (ws' := [(mo, .inr (13, MF 30 (va_up (rf (rs v Q1 o) (i + 1) br) 7 (.int (nI (skipH f n (i + 1))))))), (qx, .inl (cB, NN, .inl f)), (Q1.qq, .inl (cI, (8 * Q1.C), .inl Q1.qf)), (Q1.qe, .inl (cL, (3 * Q1.C), .inr (.inl Q1.ef))), (tv, .inr (12, MF 13 (tw V))), (V.au, .inl (cC, V.U, .inl V.un))]) [4, 5, 0, 1, 2, 3] (by decide) rfl
            rw [rf_u7] at hP hD
            have hP : va_P (dC, dI) classes [(mo, .inr (13, MF 30 (rf (rs v Q1 o) (skipH f n (i + 1)) br))), (qx, .inl (cB, NN, .inl f)), (Q1.qq, .inl (cI, (8 * Q1.C), .inl Q1.qf)), (Q1.qe, .inl (cL, (3 * Q1.C), .inr (.inl Q1.ef))), (tv, .inr (12, MF 13 (tw V))), (V.au, .inl (cC, V.U, .inl V.un))] H := hP
            have hD : va_D A [(mo, .inr (13, MF 30 (rf (rs v Q1 o) (skipH f n (i + 1)) br))), (qx, .inl (cB, NN, .inl f)), (Q1.qq, .inl (cI, (8 * Q1.C), .inl Q1.qf)), (Q1.qe, .inl (cL, (3 * Q1.C), .inr (.inl Q1.ef))), (tv, .inr (12, MF 13 (tw V))), (V.au, .inl (cC, V.U, .inl V.un))] := hD
            have hsk_128 := skipH_n (f := f) (show (i + 1) ≤ n by omega)
            refine lv_aload_n hx hb d_Mo_selector_128 rfl (lv_at hl 2 rfl) ?_
            have hPc := hP.sub (ws' := [(mo, .inr (13, MF 30 (rf (rs v Q1 o) (skipH f n (i + 1)) br))), (qx, .inl (cB, NN, .inl f)), (Q1.qq, .inl (cI, (8 * Q1.C), .inl Q1.qf)), (Q1.qe, .inl (cL, (3 * Q1.C), .inr (.inl Q1.ef))), (tv, .inr (12, MF 13 (tw V))), (V.au, .inl (cC, V.U, .inl V.un))]) [0, 1, 2, 3, 4, 5] rfl
            have hDc := hD.sub (ws' := [(mo, .inr (13, MF 30 (rf (rs v Q1 o) (skipH f n (i + 1)) br))), (qx, .inl (cB, NN, .inl f)), (Q1.qq, .inl (cI, (8 * Q1.C), .inl Q1.qf)), (Q1.qe, .inl (cL, (3 * Q1.C), .inr (.inl Q1.ef))), (tv, .inr (12, MF 13 (tw V))), (V.au, .inl (cC, V.U, .inl V.un))]) [0, 1, 2, 3, 4, 5] (by decide) rfl
            have hKc := hK.sub (tys' := [(cB, .byte), (cI, .int), (cL, .long), (cC, .char)]) [0, 1, 2, 3] rfl
            have hFc := va_free (wc := [(mo, .inr (13, MF 30 (rf (rs v Q1 o) (skipH f n (i + 1)) br))), (qx, .inl (cB, NN, .inl f)), (Q1.qq, .inl (cI, (8 * Q1.C), .inl Q1.qf)), (Q1.qe, .inl (cL, (3 * Q1.C), .inr (.inl Q1.ef))), (tv, .inr (12, MF 13 (tw V))), (V.au, .inl (cC, V.U, .inl V.un))]) hD hS hA [0, 1, 2, 3, 4, 5] rfl
            refine w_same (fun hq0 => ?_)
            refine va_calli (va_runV (As := []) (rest := []) ⟨hx, hb, hml, hown, hts⟩ (hOR l dC dI mo H v cB cI cL cC qx NN f n K tv Q1 V (skipH f n (i + 1)) br hnN hNN (by omega) h6 h8 h22 hQk_Q1 hTk_V (by omega) (by omega)) (cwV 0 hts (gt_V (own := R_Mo) (C := R_Mo) (i := 300) (y := y_Mo_or) i_Mo_or w_1435 w_1437 (gt_sel (y := y_Mo_or) (n := 30) (by decide +kernel)) w_7) rfl rfl rfl (by decide +kernel) ⟨by show F + 1 ≤ 7 + F; omega, by show 8 + (5 + 11) + L ≤ 200 + L; omega⟩) ⟨me_blind, va_recv hKc hPc (ci := 13) (q0 := 0) rfl rfl, fun U hU hW => ⟨rfl, ⟨hU, by rw [hU]; exact hPc, va_K.moved hW.alike hKc, hDc.weaken (fun _ _ _ _ => trivial)⟩, by rw [hU]; exact ME.call hM hS.2.1 hFc hW⟩⟩ rfl rfl hl.1 rfl (lv_room (Nat.le_of_ble_eq_true rfl)) d_Mo_selector_129 ⟨(hG_Q1V.step (B2 := Q1.R + 8 * (n - (skipH f n (i + 1))) + 3) (C2 := V.us + (n + 12 - (skipH f n (i + 1)))) (by omega) (by omega)).1, (hG_Q1V.step (B2 := Q1.R + 8 * (n - (skipH f n (i + 1))) + 3) (C2 := V.us + (n + 12 - (skipH f n (i + 1)))) (by omega) (by omega)).2⟩) hS (fun q _ h => hFc q h) hFc (fun r0 ⟨Q2, V1, j_Q2, b_Q2, o2⟩ t9 H1 locs ht hvm hw hB hz1 hk1 hS => ?_)
            obtain ⟨⟨hP1, hK1, hD1⟩, hz9⟩ := hB
            rw [ht] at hP1
            rw [ht] at hz9
            obtain ⟨⟨hQk_Q2, hGn, hTXs, hR1_Q2, hR2_Q2⟩, hw⟩ := hw
            have hQk_Q2 : QOK Q2 := hQk_Q2
            obtain ⟨hG_Q2V1, hGc, hGs⟩ := hG_Q1V.tr hGn (by omega) (by omega)
            have hR1_Q2 : Q1.R ≤ Q2.R := hR1_Q2
            have hR2_Q2 : Q2.R ≤ Q1.R + 8 * (n - (skipH f n (i + 1))) + 3 := hR2_Q2
            obtain ⟨us9, hX_V1, hln_V1⟩ := hTXs
            have hX_V1 : TX V V1 us9 := hX_V1
            have hXs_V1 := hX_V1.us
            have hz9 : szk H H1 (cQ Q1 V Q2 V1) (sQ Q1 V Q2 V1) := hz9
            have hq1 : szk s.heap H1 (cQ Q V Q2 V1) (sQ Q V Q2 V1) := (hq0.trans hz9).mono hGc hGs
            refine w_tight hq1 ?_
            obtain ⟨hP, hD⟩ := va_join (wr := []) (w1 := [(mo, .inr (13, MF 30 (rf (rs v Q2 o2) j_Q2 b_Q2))), (qx, .inl (cB, NN, .inl f)), (Q2.qq, .inl (cI, (8 * Q2.C), .inl Q2.qf)), (Q2.qe, .inl (cL, (3 * Q2.C), .inr (.inl Q2.ef))), (tv, .inr (12, MF 13 (tw V1))), (V1.au, .inl (cC, V1.U, .inl V1.un))]) hP hD [0, 1, 2, 3, 4, 5] [] rfl rfl (by decide) (by decide) hk1 hFc hP1 hD1
            generalize H1 = H at hP hS ⊢
            have hP : va_P (dC, dI) classes [(mo, .inr (13, MF 30 (rf (rs v Q2 o2) j_Q2 b_Q2))), (qx, .inl (cB, NN, .inl f)), (Q2.qq, .inl (cI, (8 * Q2.C), .inl Q2.qf)), (Q2.qe, .inl (cL, (3 * Q2.C), .inr (.inl Q2.ef))), (tv, .inr (12, MF 13 (tw V1))), (V1.au, .inl (cC, V1.U, .inl V1.un))] H := hP
            have hD : va_D A [(mo, .inr (13, MF 30 (rf (rs v Q2 o2) j_Q2 b_Q2))), (qx, .inl (cB, NN, .inl f)), (Q2.qq, .inl (cI, (8 * Q2.C), .inl Q2.qf)), (Q2.qe, .inl (cL, (3 * Q2.C), .inr (.inl Q2.ef))), (tv, .inr (12, MF 13 (tw V1))), (V1.au, .inl (cC, V1.U, .inl V1.un))] := hD
            have hP := hP.sub (ws' := [(mo, .inr (13, MF 30 (rf (rs v Q2 o2) j_Q2 b_Q2))), (qx, .inl (cB, NN, .inl f)), (tv, .inr (12, MF 13 (tw V1))), (Q2.qq, .inl (cI, (8 * Q2.C), .inl Q2.qf)), (Q2.qe, .inl (cL, (3 * Q2.C), .inr (.inl Q2.ef))), (V1.au, .inl (cC, V1.U, .inl V1.un))]) [0, 1, 4, 2, 3, 5] rfl
            have hD := hD.sub (ws' := [(mo, .inr (13, MF 30 (rf (rs v Q2 o2) j_Q2 b_Q2))), (qx, .inl (cB, NN, .inl f)), (tv, .inr (12, MF 13 (tw V1))), (Q2.qq, .inl (cI, (8 * Q2.C), .inl Q2.qf)), (Q2.qe, .inl (cL, (3 * Q2.C), .inr (.inl Q2.ef))), (V1.au, .inl (cC, V1.U, .inl V1.un))]) [0, 1, 4, 2, 3, 5] (by decide) rfl
            have hP := hP.sub (ws' := [(mo, .inr (13, MF 30 (rf (rs v Q2 o2) j_Q2 b_Q2))), (qx, .inl (cB, NN, .inl f)), (Q2.qq, .inl (cI, (8 * Q2.C), .inl Q2.qf)), (Q2.qe, .inl (cL, (3 * Q2.C), .inr (.inl Q2.ef))), (tv, .inr (12, MF 13 (tw V1))), (V1.au, .inl (cC, V1.U, .inl V1.un))]) [0, 1, 3, 4, 2, 5] rfl
            have hD := hD.sub (ws' := [(mo, .inr (13, MF 30 (rf (rs v Q2 o2) j_Q2 b_Q2))), (qx, .inl (cB, NN, .inl f)), (Q2.qq, .inl (cI, (8 * Q2.C), .inl Q2.qf)), (Q2.qe, .inl (cL, (3 * Q2.C), .inr (.inl Q2.ef))), (tv, .inr (12, MF 13 (tw V1))), (V1.au, .inl (cC, V1.U, .inl V1.un))]) [0, 1, 3, 4, 2, 5] (by decide) rfl
            have hTk_V1 := hX_V1.ok hTk_V (by omega)
            have hqb_Q2V1 : Q2.R ≤ Q2.C ∧ Q2.C ≤ 100000 := ⟨hQk_Q2.2.2.1, hQk_Q2.2.1⟩
            have hfit_Q2V1 := hG_Q2V1.fits
            rcases hw with ⟨g9, hv_1, hv_2, hv_3, hv_4, hv_5, hv_6, hv_7, hv_8, hv_9⟩ | ⟨hv_1, hv_2⟩
            · have hv_9 : o = o2 := hv_9.symm
              subst hv_9
              have hP : va_P (dC, dI) classes [(mo, .inr (13, MF 30 (rf (rs v Q2 o) j_Q2 b_Q2))), (qx, .inl (cB, NN, .inl f)), (Q2.qq, .inl (cI, (8 * Q2.C), .inl Q2.qf)), (Q2.qe, .inl (cL, (3 * Q2.C), .inr (.inl Q2.ef))), (tv, .inr (12, MF 13 (tw V1))), (V1.au, .inl (cC, V1.U, .inl V1.un))] H := hP
              have hD : va_D A [(mo, .inr (13, MF 30 (rf (rs v Q2 o) j_Q2 b_Q2))), (qx, .inl (cB, NN, .inl f)), (Q2.qq, .inl (cI, (8 * Q2.C), .inl Q2.qf)), (Q2.qe, .inl (cL, (3 * Q2.C), .inr (.inl Q2.ef))), (tv, .inr (12, MF 13 (tw V1))), (V1.au, .inl (cC, V1.U, .inl V1.un))] := hD
              have hv_2 : orL f n (skipH f n (i + 1)) = some (j_Q2, g9) := hv_2
              have hv_3 : O Q2 V1 Q1.R Q2.R Q1.R g9 := hv_3
              have hv_4 : alr Q1 V Q2 V1 0 Q1.R := hv_4
              have hv_5 : Q2.R + 8 * (skipH f n (i + 1)) + 3 ≤ Q1.R + 8 * j_Q2 := hv_5
              have hv_6 : V1.us + (skipH f n (i + 1)) ≤ V.us + j_Q2 := hv_6
              have hv_7 : j_Q2 ≤ n := hv_7
              have hv_8 : Q1.R < Q2.R := hv_8
              subst hv_1
              have hk0_Q2 : Q2.qf (8 * Q.R + 0) = 5 := (hv_4.1 _ 0 (Nat.zero_le _) (by omega) (by decide)).trans hk0_Q1
              have hl1_Q2 : Q2.qf (8 * Q.R + 1) = -1 := (hv_4.1 _ 1 (Nat.zero_le _) (by omega) (by decide)).trans hl1_Q1
              have hEx_Q2V1 : alr Q V Q2 V1 0 Q.R := hEx_Q1V.tr (hv_4.sub (Nat.le_refl _) (by omega))
              refine lv_istore (lv' := [(4, .int (nI Q1.R)), (3, .int (nI Q.R)), (2, .int r1), (0, .ref mo), (1, .int 0)]) hx hb d_Mo_selector_132 hl (by decide) rfl (fun ls hl => ?_)
              refine lv_iload hx hb d_Mo_selector_134 (lv_at hl 0 rfl) ?_
              refine lv_if_ge (tgt := 141) hx hb d_Mo_selector_136 (by decide) (fun _ => ?_) (fun h => absurd (nI_pos' (by omega)) h)
              refine lv_aload_n hx hb d_Mo_selector_141 rfl (lv_at hl 3 rfl) ?_
              refine lv_iload_n hx hb d_Mo_selector_142 rfl (lv_at hl 1 rfl) ?_
              refine lv_iconst (v := 2) hx hb d_Mo_selector_143 (by decide) ?_
              refine lv_iload hx hb d_Mo_selector_144 (lv_at hl 0 rfl) ?_
              refine W.eq (g2 := F0 m 146 ls [.int (nI Q1.R), .int (nI 2), .int (nI Q.R), .ref mo]) rfl ?_
              have hPc := hP.sub (ws' := [(mo, .inr (13, MF 30 (rf (rs v Q2 o) j_Q2 b_Q2))), (Q2.qq, .inl (cI, (8 * Q2.C), .inl Q2.qf))]) [0, 2] rfl
              have hDc := hD.sub (ws' := [(mo, .inr (13, MF 30 (rf (rs v Q2 o) j_Q2 b_Q2))), (Q2.qq, .inl (cI, (8 * Q2.C), .inl Q2.qf))]) [0, 2] (by decide) rfl
              have hKc := hK.sub (tys' := [(cI, .int)]) [1] rfl
              have hFc := va_free (wc := [(mo, .inr (13, MF 30 (rf (rs v Q2 o) j_Q2 b_Q2))), (Q2.qq, .inl (cI, (8 * Q2.C), .inl Q2.qf))]) hD hS hA [0, 2] rfl
              refine va_callv (va_runV (As := [.int (nI Q.R), .int (nI 2), .int (nI Q1.R)]) (rest := []) ⟨hx, hb, hml, hown, hts⟩ (c_Mo_set l dC dI mo H (rf (rs v Q2 o) j_Q2 b_Q2) cI Q2.qq (8 * Q2.C) Q2.qf Q.R 2 ((nI Q1.R)) (by omega) (by omega) ((rf_ne (by decide) (by decide)).trans rs_19)) (cwV 3 hts (gt_V (own := R_Mo) (C := R_Mo) (i := 272) (y := y_Mo_set) i_Mo_set w_1411 w_1413 (gt_sel (y := y_Mo_set) (n := 30) (by decide +kernel)) w_7) rfl rfl rfl (by decide +kernel) ⟨Nat.le_trans (m := 7) (Nat.le_of_ble_eq_true rfl) (Nat.le_add_right 7 F), Nat.le_trans (m := 200) (Nat.le_of_ble_eq_true rfl) (Nat.le_add_right 200 L)⟩) ⟨mp_blind, va_recv hKc hPc (ci := 13) (q0 := 0) rfl rfl, fun U hU hW => ⟨rfl, hU, by rw [hU]; exact hPc, va_K.moved hW.alike hKc, hDc.weaken (fun _ _ _ _ => trivial)⟩⟩ rfl rfl hl.1 rfl (lv_room (Nat.le_of_ble_eq_true rfl)) d_Mo_selector_146 ⟨hfit_Q2V1.1, hfit_Q2V1.2⟩) hS (fun q _ h => hFc q h) hFc (fun _u t9 H1 locs ht hvm hw hB hz1 hk1 hS => ?_)
              obtain ⟨hP1, hK1, hD1⟩ := hB
              rw [ht] at hP1
              obtain ⟨hP, hD⟩ := va_join (wr := [(qx, .inl (cB, NN, .inl f)), (Q2.qe, .inl (cL, (3 * Q2.C), .inr (.inl Q2.ef))), (tv, .inr (12, MF 13 (tw V1))), (V1.au, .inl (cC, V1.U, .inl V1.un))]) (w1 := [(mo, .inr (13, MF 30 (rf (rs v Q2 o) j_Q2 b_Q2))), (Q2.qq, .inl (cI, (8 * Q2.C), .inl (upd Q2.qf (8 * Q.R + 2) ((nI Q1.R)))))]) hP hD [0, 2] [1, 3, 4, 5] rfl rfl (by decide) (by decide) hk1 hFc hP1 hD1
              generalize H1 = H at hP hS ⊢
              have hP : va_P (dC, dI) classes [(qx, .inl (cB, NN, .inl f)), (Q2.qe, .inl (cL, (3 * Q2.C), .inr (.inl Q2.ef))), (tv, .inr (12, MF 13 (tw V1))), (V1.au, .inl (cC, V1.U, .inl V1.un)), (mo, .inr (13, MF 30 (rf (rs v Q2 o) j_Q2 b_Q2))), (Q2.qq, .inl (cI, (8 * Q2.C), .inl (upd Q2.qf (8 * Q.R + 2) ((nI Q1.R)))))] H := hP
              have hD : va_D A [(qx, .inl (cB, NN, .inl f)), (Q2.qe, .inl (cL, (3 * Q2.C), .inr (.inl Q2.ef))), (tv, .inr (12, MF 13 (tw V1))), (V1.au, .inl (cC, V1.U, .inl V1.un)), (mo, .inr (13, MF 30 (rf (rs v Q2 o) j_Q2 b_Q2))), (Q2.qq, .inl (cI, (8 * Q2.C), .inl (upd Q2.qf (8 * Q.R + 2) ((nI Q1.R)))))] := hD
              have hP := hP.sub (ws' := [(mo, .inr (13, MF 30 (rf (rs v Q2 o) j_Q2 b_Q2))), (qx, .inl (cB, NN, .inl f)), (Q2.qq, .inl (cI, (8 * Q2.C), .inl (upd Q2.qf (8 * Q.R + 2) ((nI Q1.R))))), (Q2.qe, .inl (cL, (3 * Q2.C), .inr (.inl Q2.ef))), (tv, .inr (12, MF 13 (tw V1))), (V1.au, .inl (cC, V1.U, .inl V1.un))]) [4, 0, 5, 1, 2, 3] rfl
              have hD := hD.sub (ws' := [(mo, .inr (13, MF 30 (rf (rs v Q2 o) j_Q2 b_Q2))), (qx, .inl (cB, NN, .inl f)), (Q2.qq, .inl (cI, (8 * Q2.C), .inl (upd Q2.qf (8 * Q.R + 2) ((nI Q1.R))))), (Q2.qe, .inl (cL, (3 * Q2.C), .inr (.inl Q2.ef))), (tv, .inr (12, MF 13 (tw V1))), (V1.au, .inl (cC, V1.U, .inl V1.un))]) [4, 0, 5, 1, 2, 3] (by decide) rfl
              obtain ⟨Q3, e_Q3⟩ : ∃ z : QS, z = QS.wf Q2 (upd Q2.qf (8 * Q.R + 2) ((nI Q1.R))) := ⟨_, rfl⟩
              have hP : va_P (dC, dI) classes [(mo, .inr (13, MF 30 (rf (rs v Q3 o) j_Q2 b_Q2))), (qx, .inl (cB, NN, .inl f)), (Q3.qq, .inl (cI, (8 * Q3.C), .inl Q3.qf)), (Q3.qe, .inl (cL, (3 * Q3.C), .inr (.inl Q3.ef))), (tv, .inr (12, MF 13 (tw V1))), (V1.au, .inl (cC, V1.U, .inl V1.un))] H := by subst e_Q3; exact hP
              have hD : va_D A [(mo, .inr (13, MF 30 (rf (rs v Q3 o) j_Q2 b_Q2))), (qx, .inl (cB, NN, .inl f)), (Q3.qq, .inl (cI, (8 * Q3.C), .inl Q3.qf)), (Q3.qe, .inl (cL, (3 * Q3.C), .inr (.inl Q3.ef))), (tv, .inr (12, MF 13 (tw V1))), (V1.au, .inl (cC, V1.U, .inl V1.un))] := by subst e_Q3; exact hD
              have hf_Q3 : Q3.C = Q2.C ∧ Q3.R = Q2.R ∧ Q3.qf = upd Q2.qf (8 * Q.R + 2) ((nI Q1.R)) := by rw [e_Q3]; exact ⟨rfl, rfl, rfl⟩
              have he_Q3 : Q3.ef = Q2.ef := by rw [e_Q3]; rfl
              have hQk_Q3 : QOK Q3 := by rw [e_Q3]; exact hQk_Q2
              have hG_Q3V1 : GQ (Q.R + 8 * (n - i) + 4) (V.us + (n + 12 - i)) Q V Q3 V1 := by unfold GQ at hG_Q2V1 ⊢; rw [hf_Q3.1]; exact hG_Q2V1
              refine w_same (fun hq => ?_)
              refine w_tight (k := cQ Q V Q3 V1) (n := sQ Q V Q3 V1) (by unfold cQ sQ at hq ⊢; rw [hf_Q3.1]; exact hq) ?_
              have hR_Q3 := hf_Q3.2.1
              have hqb_Q3V1 : Q3.R ≤ Q3.C ∧ Q3.C ≤ 100000 := ⟨hQk_Q3.2.2.1, hQk_Q3.2.1⟩
              have hfit_Q3V1 := hG_Q3V1.fits
              have hk0_Q3 : Q3.qf (8 * Q.R + 0) = 5 := by rw [hf_Q3.2.2, pk_un (by omega)]; exact hk0_Q2
              have hl1_Q3 : Q3.qf (8 * Q.R + 1) = -1 := by rw [hf_Q3.2.2, pk_un (by omega)]; exact hl1_Q2
              have hEx_Q3V1 : alr Q V Q3 V1 0 Q.R := hEx_Q2V1.tr (alr.upd hf_Q3.2.2 he_Q3 (by decide) (by omega))
              refine lv_iload_n hx hb d_Mo_selector_149 rfl (lv_at hl 1 rfl) ?_
              have hfin : selP f n (orL f n) false i = some (j_Q2, false, filS g9) := by
                unfold selP
                rw [if_neg (fun h => by rw [← h_r1] at h; exact h.elim c8 c14), if_neg (fun h => c75 (h_r1.trans h.1)), if_pos ⟨h_r1.symm.trans c101, rfl⟩]
                rw [hv_2]; rfl
              have hW : Wth O Q3 V1 Q.R Q3.R Q.R Q1.R g9 := ⟨Q1.R, Q2.R, by omega, by omega, by omega, hOf.use hv_3 (alr.upd hf_Q3.2.2 he_Q3 (by decide) (by omega))⟩
              have hSE : SELp O Q3 V1 Q.R Q3.R Q.R (filS g9) := ⟨Nat.le_refl _, by omega, Or.inr (Or.inr (Or.inr (Or.inr ⟨hk0_Q3, Q1.R, g9, by rw [hf_Q3.2.2]; exact pk_us, hW, rfl⟩)))⟩
              refine w_same (fun hq => ?_)
              refine W.widen (k := kcap Q (Q.R + 8 * (n - i) + 4) + qcap V (V.us + (n + 12 - i))) (n := 22 * kcap Q (Q.R + 8 * (n - i) + 4) + 2 * qcap V (V.us + (n + 12 - i))) hfit_Q3V1.1 hfit_Q3V1.2 ?_
              have hPo : QPo n i 4 Q V (Q3, V1, j_Q2, b_Q2, o) := ⟨hQk_Q3, hG_Q3V1, ⟨us9, hX_V1, by omega⟩, by show Q.R ≤ Q3.R; omega, by show Q3.R ≤ Q.R + 8 * (n - i) + 4; omega⟩
              exact W.iret (v := nI Q.R) hx hb hr (fun t9 ht hW => ⟨⟨nI Q.R, (Q3, V1, j_Q2, b_Q2, o), rfl, ⟨hPo, Or.inl ⟨false, filS g9, rfl, hfin, hSE, ⟨fun h => absurd h (by decide), fun h => absurd h (by rw [hk0_Q3]; decide)⟩, hl1_Q3, hEx_Q3V1, by show Q3.R + 8 * i + 7 ≤ Q.R + 8 * j_Q2; omega, by show V1.us + i ≤ V.us + j_Q2; omega, by show j_Q2 ≤ n; omega, by show Q.R < Q3.R; omega, rfl⟩⟩, ⟨by rw [ht]; exact hP, va_K.moved hW.alike hK, hD⟩, by rw [ht]; exact hq⟩, hS.F ht⟩) hS.2.2 d_Mo_selector_150
            · have hv_2 : orL f n (skipH f n (i + 1)) = none := hv_2
              subst hv_1
              refine lv_istore (lv' := [(4, .int (-1)), (3, .int (nI Q.R)), (2, .int r1), (0, .ref mo), (1, .int 0)]) hx hb d_Mo_selector_132 hl (by decide) rfl (fun ls hl => ?_)
              refine lv_iload hx hb d_Mo_selector_134 (lv_at hl 0 rfl) ?_
              refine lv_if_ge (tgt := 141) hx hb d_Mo_selector_136 (by decide) (fun h => absurd h (by decide)) (fun _ => ?_)
              refine lv_iconst (v := (-1)) hx hb d_Mo_selector_139 (by decide) ?_
              have hfin : selP f n (orL f n) false i = none := by
                unfold selP
                rw [if_neg (fun h => by rw [← h_r1] at h; exact h.elim c8 c14), if_neg (fun h => c75 (h_r1.trans h.1)), if_pos ⟨h_r1.symm.trans c101, rfl⟩]
                rw [hv_2]; rfl
              refine w_same (fun hq => ?_)
              refine W.widen (k := kcap Q (Q.R + 8 * (n - i) + 4) + qcap V (V.us + (n + 12 - i))) (n := 22 * kcap Q (Q.R + 8 * (n - i) + 4) + 2 * qcap V (V.us + (n + 12 - i))) hfit_Q2V1.1 hfit_Q2V1.2 ?_
              have hPo : QPo n i 4 Q V (Q2, V1, j_Q2, b_Q2, o2) := ⟨hQk_Q2, hG_Q2V1, ⟨us9, hX_V1, by omega⟩, by show Q.R ≤ Q2.R; omega, by show Q2.R ≤ Q.R + 8 * (n - i) + 4; omega⟩
              exact W.iret (v := -1) hx hb hr (fun t9 ht hW => ⟨⟨-1, (Q2, V1, j_Q2, b_Q2, o2), rfl, ⟨hPo, Or.inr ⟨rfl, hfin⟩⟩, ⟨by rw [ht]; exact hP, va_K.moved hW.alike hK, hD⟩, by rw [ht]; exact hq⟩, hS.F ht⟩) hS.2.2 d_Mo_selector_140
        · refine lv_iload_n hx hb d_Mo_selector_78 rfl (lv_at hl 2 rfl) ?_
          refine lv_if_ne (tgt := 98) hx hb d_Mo_selector_79 (by decide) (fun h => absurd h (by decide)) (fun _ => ?_)
          refine lv_aload_n hx hb d_Mo_selector_82 rfl (lv_at hl 1 rfl) ?_
          refine lv_dup hx hb d_Mo_selector_83 rfl ?_
          refine va_get (D := (dC, dI)) (ci := 13) (v := .int (nI i)) (C := R_Mo) (T := F_Mo) (N := 30) hx hb hts in_Mo hown hK hP 0 rfl rfl 7 (by decide) (hts _ w_1096) (fun _ h9 => h9) (MFg (by decide) rf_7) d_Mo_selector_84 ?_
          refine lv_iconst (v := 1) hx hb d_Mo_selector_87 (by decide) ?_
          refine lv_iadd hx hb d_Mo_selector_88 ?_
          refine W.eq (g2 := F0 m 89 ls [.int (nI (i + 1)), .ref mo]) (by rw [show ((nI i) + 1) = (nI (i + 1)) from nI_1 _]) ?_
          refine va_put (D := (dC, dI)) (ci := 13) (v := .int (nI (i + 1))) (ty := .int) (C := R_Mo) (T := F_Mo) (N := 30) hx hb hts in_Mo t_Mo t_Mo_ok n_Mo hown hK hP hD hS 0 rfl rfl 7 (by decide) (hts _ w_1096) (fun _ h9 => h9) rfl (by decide +kernel) rfl rfl (by rw [MFl]; decide) d_Mo_selector_89 (fun H locs hP hD hS => ?_)
          rw [MFs (n := 30) (k := 7) (by decide)] at hP hD
          have hP : va_P (dC, dI) classes [(mo, .inr (13, MF 30 (va_up (rf (rs v Q o) i br) 7 (.int (nI (i + 1)))))), (qx, .inl (cB, NN, .inl f)), (Q.qq, .inl (cI, (8 * Q.C), .inl Q.qf)), (Q.qe, .inl (cL, (3 * Q.C), .inr (.inl Q.ef))), (tv, .inr (12, MF 13 (tw V))), (V.au, .inl (cC, V.U, .inl V.un))] H := hP
          have hD : va_D A [(mo, .inr (13, MF 30 (va_up (rf (rs v Q o) i br) 7 (.int (nI (i + 1)))))), (qx, .inl (cB, NN, .inl f)), (Q.qq, .inl (cI, (8 * Q.C), .inl Q.qf)), (Q.qe, .inl (cL, (3 * Q.C), .inr (.inl Q.ef))), (tv, .inr (12, MF 13 (tw V))), (V.au, .inl (cC, V.U, .inl V.un))] := hD
          rw [rf_u7] at hP hD
          have hP : va_P (dC, dI) classes [(mo, .inr (13, MF 30 (rf (rs v Q o) (i + 1) br))), (qx, .inl (cB, NN, .inl f)), (Q.qq, .inl (cI, (8 * Q.C), .inl Q.qf)), (Q.qe, .inl (cL, (3 * Q.C), .inr (.inl Q.ef))), (tv, .inr (12, MF 13 (tw V))), (V.au, .inl (cC, V.U, .inl V.un))] H := hP
          have hD : va_D A [(mo, .inr (13, MF 30 (rf (rs v Q o) (i + 1) br))), (qx, .inl (cB, NN, .inl f)), (Q.qq, .inl (cI, (8 * Q.C), .inl Q.qf)), (Q.qe, .inl (cL, (3 * Q.C), .inr (.inl Q.ef))), (tv, .inr (12, MF 13 (tw V))), (V.au, .inl (cC, V.U, .inl V.un))] := hD
          refine lv_aload_n hx hb d_Mo_selector_92 rfl (lv_at hl 1 rfl) ?_
          refine lv_iconst (v := 2) hx hb d_Mo_selector_93 (by decide) ?_
          have hPc := hP.sub (ws' := [(mo, .inr (13, MF 30 (rf (rs v Q o) (i + 1) br))), (Q.qq, .inl (cI, (8 * Q.C), .inl Q.qf)), (Q.qe, .inl (cL, (3 * Q.C), .inr (.inl Q.ef)))]) [0, 2, 3] rfl
          have hDc := hD.sub (ws' := [(mo, .inr (13, MF 30 (rf (rs v Q o) (i + 1) br))), (Q.qq, .inl (cI, (8 * Q.C), .inl Q.qf)), (Q.qe, .inl (cL, (3 * Q.C), .inr (.inl Q.ef)))]) [0, 2, 3] (by decide) rfl
          have hKc := hK.sub (tys' := [(cI, .int), (cL, .long)]) [1, 2] rfl
          have hFc := va_free (wc := [(mo, .inr (13, MF 30 (rf (rs v Q o) (i + 1) br))), (Q.qq, .inl (cI, (8 * Q.C), .inl Q.qf)), (Q.qe, .inl (cL, (3 * Q.C), .inr (.inl Q.ef)))]) hD hS hA [0, 2, 3] rfl
          refine w_same (fun hq0 => ?_)
          refine va_calli (va_runV (As := [.int 2]) (rest := []) ⟨hx, hb, hml, hown, hts⟩ (c_Mo_row l dC dI mo H v cI cL Q o (i + 1) br 2 hQk_Q) (cwV 1 hts (gt_V (own := R_Mo) (C := R_Mo) (i := 269) (y := y_Mo_row) i_Mo_row w_1407 w_1409 (gt_sel (y := y_Mo_row) (n := 30) (by decide +kernel)) w_7) rfl rfl rfl (by decide +kernel) ⟨Nat.le_trans (m := 7) (Nat.le_of_ble_eq_true rfl) (Nat.le_add_right 7 F), Nat.le_trans (m := 200) (Nat.le_of_ble_eq_true rfl) (Nat.le_add_right 200 L)⟩) ⟨mp_blind, va_recv hKc hPc (ci := 13) (q0 := 0) rfl rfl, fun U hU hW => ⟨rfl, hU, by rw [hU]; exact hPc, va_K.moved hW.alike hKc, hDc.weaken (fun _ _ _ _ => trivial)⟩⟩ rfl rfl hl.1 rfl (lv_room (Nat.le_of_ble_eq_true rfl)) d_Mo_selector_94 ⟨(QAd.fit hG_QV hQk_Q (by omega)).1, (QAd.fit hG_QV hQk_Q (by omega)).2⟩) hS (fun q _ h => hFc q h) hFc (fun r0 Q1 t9 H1 locs ht hvm hw hB hz1 hk1 hS => ?_)
          obtain ⟨⟨hP1, hK1, hD1⟩, hz9⟩ := hB
          rw [ht] at hP1
          rw [ht] at hz9
          obtain ⟨hr0, hA_Q1⟩ := hw
          have hA_Q1 : QAd Q Q1 2 := hA_Q1
          obtain ⟨hQk_Q1, hGa, hGb, hGd, hR_Q1⟩ := hA_Q1.gq hQk_Q (by omega) V
          obtain ⟨hG_Q1V, hGc, hGs⟩ := hG_QV.tr hGa (show Q.R + 1 ≤ Q.R + 8 * (n - i) + 4 by omega) (Nat.zero_le _)
          have hGc := Nat.le_trans (Nat.add_le_add_left hGb _) hGc
          have hGs := Nat.le_trans (Nat.add_le_add_left hGd _) hGs
          have hq1 : szk s.heap H1 (cQ Q V Q1 V) (sQ Q V Q1 V) := (hq0.trans hz9).mono hGc hGs
          refine w_tight hq1 ?_
          obtain ⟨hP, hD⟩ := va_join (wr := [(qx, .inl (cB, NN, .inl f)), (tv, .inr (12, MF 13 (tw V))), (V.au, .inl (cC, V.U, .inl V.un))]) (w1 := [(mo, .inr (13, MF 30 (rf (rs v Q1 o) (i + 1) br))), (Q1.qq, .inl (cI, (8 * Q1.C), .inl Q1.qf)), (Q1.qe, .inl (cL, (3 * Q1.C), .inr (.inl Q1.ef)))]) hP hD [0, 2, 3] [1, 4, 5] rfl rfl (by decide) (by decide) hk1 hFc hP1 hD1
          generalize H1 = H at hP hS ⊢
          have hP : va_P (dC, dI) classes [(qx, .inl (cB, NN, .inl f)), (tv, .inr (12, MF 13 (tw V))), (V.au, .inl (cC, V.U, .inl V.un)), (mo, .inr (13, MF 30 (rf (rs v Q1 o) (i + 1) br))), (Q1.qq, .inl (cI, (8 * Q1.C), .inl Q1.qf)), (Q1.qe, .inl (cL, (3 * Q1.C), .inr (.inl Q1.ef)))] H := hP
          have hD : va_D A [(qx, .inl (cB, NN, .inl f)), (tv, .inr (12, MF 13 (tw V))), (V.au, .inl (cC, V.U, .inl V.un)), (mo, .inr (13, MF 30 (rf (rs v Q1 o) (i + 1) br))), (Q1.qq, .inl (cI, (8 * Q1.C), .inl Q1.qf)), (Q1.qe, .inl (cL, (3 * Q1.C), .inr (.inl Q1.ef)))] := hD
          have hP := hP.sub (ws' := [(mo, .inr (13, MF 30 (rf (rs v Q1 o) (i + 1) br))), (qx, .inl (cB, NN, .inl f)), (tv, .inr (12, MF 13 (tw V))), (V.au, .inl (cC, V.U, .inl V.un)), (Q1.qq, .inl (cI, (8 * Q1.C), .inl Q1.qf)), (Q1.qe, .inl (cL, (3 * Q1.C), .inr (.inl Q1.ef)))]) [3, 0, 1, 2, 4, 5] rfl
          have hD := hD.sub (ws' := [(mo, .inr (13, MF 30 (rf (rs v Q1 o) (i + 1) br))), (qx, .inl (cB, NN, .inl f)), (tv, .inr (12, MF 13 (tw V))), (V.au, .inl (cC, V.U, .inl V.un)), (Q1.qq, .inl (cI, (8 * Q1.C), .inl Q1.qf)), (Q1.qe, .inl (cL, (3 * Q1.C), .inr (.inl Q1.ef)))]) [3, 0, 1, 2, 4, 5] (by decide) rfl
          have hP := hP.sub (ws' := [(mo, .inr (13, MF 30 (rf (rs v Q1 o) (i + 1) br))), (qx, .inl (cB, NN, .inl f)), (Q1.qq, .inl (cI, (8 * Q1.C), .inl Q1.qf)), (Q1.qe, .inl (cL, (3 * Q1.C), .inr (.inl Q1.ef))), (tv, .inr (12, MF 13 (tw V))), (V.au, .inl (cC, V.U, .inl V.un))]) [0, 1, 4, 5, 2, 3] rfl
          have hD := hD.sub (ws' := [(mo, .inr (13, MF 30 (rf (rs v Q1 o) (i + 1) br))), (qx, .inl (cB, NN, .inl f)), (Q1.qq, .inl (cI, (8 * Q1.C), .inl Q1.qf)), (Q1.qe, .inl (cL, (3 * Q1.C), .inr (.inl Q1.ef))), (tv, .inr (12, MF 13 (tw V))), (V.au, .inl (cC, V.U, .inl V.un))]) [0, 1, 4, 5, 2, 3] (by decide) rfl
          have hr0 : r0 = nI Q.R := hr0
          subst hr0
          have hqb_Q1V : Q1.R ≤ Q1.C ∧ Q1.C ≤ 100000 := ⟨hQk_Q1.2.2.1, hQk_Q1.2.1⟩
          have hfit_Q1V := hG_Q1V.fits
          have hE_Q1 : alr Q V Q1 V 0 Q.R := ⟨fun r9 k9 _ h1 h2 => hA_Q1.2.2.1 _ (by omega), ⟨fun r9 k9 _ h1 h2 => hA_Q1.2.2.2.1.2 _ (by omega), Nat.le_refl _, fun _ _ => rfl⟩⟩
          have hk0_Q1 : Q1.qf (8 * Q.R + 0) = 2 := hA_Q1.2.2.2.2.1
          have hl1_Q1 : Q1.qf (8 * Q.R + 1) = -1 := hA_Q1.2.2.2.2.2 1 (by decide) (by decide)
          have hEx_Q1V : alr Q V Q1 V 0 Q.R := hE_Q1
          have hltx := here_in (h_r1.symm.trans c75) (by decide)
          have hfin : selP f n (orL f n) false i = some ((i + 1), false, eachS) := by
            unfold selP
            rw [if_neg (fun h => by rw [← h_r1] at h; exact h.elim c8 c14), if_pos ⟨h_r1.symm.trans c75, rfl⟩]
          have hSE : SELp O Q1 V Q.R Q1.R Q.R eachS := ⟨Nat.le_refl _, by omega, Or.inr (Or.inl ⟨hk0_Q1, rfl⟩)⟩
          refine w_same (fun hq => ?_)
          refine W.widen (k := kcap Q (Q.R + 8 * (n - i) + 4) + qcap V (V.us + (n + 12 - i))) (n := 22 * kcap Q (Q.R + 8 * (n - i) + 4) + 2 * qcap V (V.us + (n + 12 - i))) hfit_Q1V.1 hfit_Q1V.2 ?_
          have hPo : QPo n i 4 Q V (Q1, V, (i + 1), br, o) := ⟨hQk_Q1, hG_Q1V, ⟨[], TX.rf hTk_V, Nat.zero_le _⟩, by show Q.R ≤ Q1.R; omega, by show Q1.R ≤ Q.R + 8 * (n - i) + 4; omega⟩
          exact W.iret (v := nI Q.R) hx hb hr (fun t9 ht hW => ⟨⟨nI Q.R, (Q1, V, (i + 1), br, o), rfl, ⟨hPo, Or.inl ⟨false, eachS, rfl, hfin, hSE, ⟨fun h => absurd h (by decide), fun h => absurd h (by rw [hk0_Q1]; decide)⟩, hl1_Q1, hEx_Q1V, by show Q1.R + 8 * i + 7 ≤ Q.R + 8 * (i + 1); omega, by show V.us + i ≤ V.us + (i + 1); omega, by show (i + 1) ≤ n; omega, by show Q.R < Q1.R; omega, rfl⟩⟩, ⟨by rw [ht]; exact hP, va_K.moved hW.alike hK, hD⟩, by rw [ht]; exact hq⟩, hS.F ht⟩) hS.2.2 d_Mo_selector_97
      · refine lv_aload_n hx hb d_Mo_selector_17 rfl (lv_at hl 1 rfl) ?_
        refine lv_iconst (v := 1) hx hb d_Mo_selector_18 (by decide) ?_
        have hPc := hP.sub (ws' := [(mo, .inr (13, MF 30 (rf (rs v Q o) i br))), (Q.qq, .inl (cI, (8 * Q.C), .inl Q.qf)), (Q.qe, .inl (cL, (3 * Q.C), .inr (.inl Q.ef)))]) [0, 2, 3] rfl
        have hDc := hD.sub (ws' := [(mo, .inr (13, MF 30 (rf (rs v Q o) i br))), (Q.qq, .inl (cI, (8 * Q.C), .inl Q.qf)), (Q.qe, .inl (cL, (3 * Q.C), .inr (.inl Q.ef)))]) [0, 2, 3] (by decide) rfl
        have hKc := hK.sub (tys' := [(cI, .int), (cL, .long)]) [1, 2] rfl
        have hFc := va_free (wc := [(mo, .inr (13, MF 30 (rf (rs v Q o) i br))), (Q.qq, .inl (cI, (8 * Q.C), .inl Q.qf)), (Q.qe, .inl (cL, (3 * Q.C), .inr (.inl Q.ef)))]) hD hS hA [0, 2, 3] rfl
        refine w_same (fun hq0 => ?_)
        refine va_calli (va_runV (As := [.int 1]) (rest := []) ⟨hx, hb, hml, hown, hts⟩ (c_Mo_row l dC dI mo H v cI cL Q o i br 1 hQk_Q) (cwV 1 hts (gt_V (own := R_Mo) (C := R_Mo) (i := 269) (y := y_Mo_row) i_Mo_row w_1407 w_1409 (gt_sel (y := y_Mo_row) (n := 30) (by decide +kernel)) w_7) rfl rfl rfl (by decide +kernel) ⟨Nat.le_trans (m := 7) (Nat.le_of_ble_eq_true rfl) (Nat.le_add_right 7 F), Nat.le_trans (m := 200) (Nat.le_of_ble_eq_true rfl) (Nat.le_add_right 200 L)⟩) ⟨mp_blind, va_recv hKc hPc (ci := 13) (q0 := 0) rfl rfl, fun U hU hW => ⟨rfl, hU, by rw [hU]; exact hPc, va_K.moved hW.alike hKc, hDc.weaken (fun _ _ _ _ => trivial)⟩⟩ rfl rfl hl.1 rfl (lv_room (Nat.le_of_ble_eq_true rfl)) d_Mo_selector_19 ⟨(QAd.fit hG_QV hQk_Q (by omega)).1, (QAd.fit hG_QV hQk_Q (by omega)).2⟩) hS (fun q _ h => hFc q h) hFc (fun r0 Q1 t9 H1 locs ht hvm hw hB hz1 hk1 hS => ?_)
        obtain ⟨⟨hP1, hK1, hD1⟩, hz9⟩ := hB
        rw [ht] at hP1
        rw [ht] at hz9
        obtain ⟨hr0, hA_Q1⟩ := hw
        have hA_Q1 : QAd Q Q1 1 := hA_Q1
        obtain ⟨hQk_Q1, hGa, hGb, hGd, hR_Q1⟩ := hA_Q1.gq hQk_Q (by omega) V
        obtain ⟨hG_Q1V, hGc, hGs⟩ := hG_QV.tr hGa (show Q.R + 1 ≤ Q.R + 8 * (n - i) + 4 by omega) (Nat.zero_le _)
        have hGc := Nat.le_trans (Nat.add_le_add_left hGb _) hGc
        have hGs := Nat.le_trans (Nat.add_le_add_left hGd _) hGs
        have hq1 : szk s.heap H1 (cQ Q V Q1 V) (sQ Q V Q1 V) := (hq0.trans hz9).mono hGc hGs
        refine w_tight hq1 ?_
        obtain ⟨hP, hD⟩ := va_join (wr := [(qx, .inl (cB, NN, .inl f)), (tv, .inr (12, MF 13 (tw V))), (V.au, .inl (cC, V.U, .inl V.un))]) (w1 := [(mo, .inr (13, MF 30 (rf (rs v Q1 o) i br))), (Q1.qq, .inl (cI, (8 * Q1.C), .inl Q1.qf)), (Q1.qe, .inl (cL, (3 * Q1.C), .inr (.inl Q1.ef)))]) hP hD [0, 2, 3] [1, 4, 5] rfl rfl (by decide) (by decide) hk1 hFc hP1 hD1
        generalize H1 = H at hP hS ⊢
        have hP : va_P (dC, dI) classes [(qx, .inl (cB, NN, .inl f)), (tv, .inr (12, MF 13 (tw V))), (V.au, .inl (cC, V.U, .inl V.un)), (mo, .inr (13, MF 30 (rf (rs v Q1 o) i br))), (Q1.qq, .inl (cI, (8 * Q1.C), .inl Q1.qf)), (Q1.qe, .inl (cL, (3 * Q1.C), .inr (.inl Q1.ef)))] H := hP
        have hD : va_D A [(qx, .inl (cB, NN, .inl f)), (tv, .inr (12, MF 13 (tw V))), (V.au, .inl (cC, V.U, .inl V.un)), (mo, .inr (13, MF 30 (rf (rs v Q1 o) i br))), (Q1.qq, .inl (cI, (8 * Q1.C), .inl Q1.qf)), (Q1.qe, .inl (cL, (3 * Q1.C), .inr (.inl Q1.ef)))] := hD
        have hP := hP.sub (ws' := [(mo, .inr (13, MF 30 (rf (rs v Q1 o) i br))), (qx, .inl (cB, NN, .inl f)), (tv, .inr (12, MF 13 (tw V))), (V.au, .inl (cC, V.U, .inl V.un)), (Q1.qq, .inl (cI, (8 * Q1.C), .inl Q1.qf)), (Q1.qe, .inl (cL, (3 * Q1.C), .inr (.inl Q1.ef)))]) [3, 0, 1, 2, 4, 5] rfl
        have hD := hD.sub (ws' := [(mo, .inr (13, MF 30 (rf (rs v Q1 o) i br))), (qx, .inl (cB, NN, .inl f)), (tv, .inr (12, MF 13 (tw V))), (V.au, .inl (cC, V.U, .inl V.un)), (Q1.qq, .inl (cI, (8 * Q1.C), .inl Q1.qf)), (Q1.qe, .inl (cL, (3 * Q1.C), .inr (.inl Q1.ef)))]) [3, 0, 1, 2, 4, 5] (by decide) rfl
        have hP := hP.sub (ws' := [(mo, .inr (13, MF 30 (rf (rs v Q1 o) i br))), (qx, .inl (cB, NN, .inl f)), (Q1.qq, .inl (cI, (8 * Q1.C), .inl Q1.qf)), (Q1.qe, .inl (cL, (3 * Q1.C), .inr (.inl Q1.ef))), (tv, .inr (12, MF 13 (tw V))), (V.au, .inl (cC, V.U, .inl V.un))]) [0, 1, 4, 5, 2, 3] rfl
        have hD := hD.sub (ws' := [(mo, .inr (13, MF 30 (rf (rs v Q1 o) i br))), (qx, .inl (cB, NN, .inl f)), (Q1.qq, .inl (cI, (8 * Q1.C), .inl Q1.qf)), (Q1.qe, .inl (cL, (3 * Q1.C), .inr (.inl Q1.ef))), (tv, .inr (12, MF 13 (tw V))), (V.au, .inl (cC, V.U, .inl V.un))]) [0, 1, 4, 5, 2, 3] (by decide) rfl
        have hr0 : r0 = nI Q.R := hr0
        subst hr0
        have hqb_Q1V : Q1.R ≤ Q1.C ∧ Q1.C ≤ 100000 := ⟨hQk_Q1.2.2.1, hQk_Q1.2.1⟩
        have hfit_Q1V := hG_Q1V.fits
        have hE_Q1 : alr Q V Q1 V 0 Q.R := ⟨fun r9 k9 _ h1 h2 => hA_Q1.2.2.1 _ (by omega), ⟨fun r9 k9 _ h1 h2 => hA_Q1.2.2.2.1.2 _ (by omega), Nat.le_refl _, fun _ _ => rfl⟩⟩
        have hk0_Q1 : Q1.qf (8 * Q.R + 0) = 1 := hA_Q1.2.2.2.2.1
        have hl1_Q1 : Q1.qf (8 * Q.R + 1) = -1 := hA_Q1.2.2.2.2.2 1 (by decide) (by decide)
        have hEx_Q1V : alr Q V Q1 V 0 Q.R := hE_Q1
        refine lv_istore_n (lv' := [(3, .int (nI Q.R)), (2, .int r1), (0, .ref mo), (1, .int 0)]) hx hb d_Mo_selector_22 rfl hl (by decide) rfl (fun ls hl => ?_)
        refine lv_aload_n hx hb d_Mo_selector_23 rfl (lv_at hl 2 rfl) ?_
        refine lv_iload_n hx hb d_Mo_selector_24 rfl (lv_at hl 0 rfl) ?_
        refine lv_iconst (v := 2) hx hb d_Mo_selector_25 (by decide) ?_
        refine lv_aload_n hx hb d_Mo_selector_26 rfl (lv_at hl 2 rfl) ?_
        refine va_get (D := (dC, dI)) (ci := 13) (v := .ref tv) (C := R_Mo) (T := F_Mo) (N := 30) hx hb hts in_Mo hown hK hP 0 rfl rfl 22 (by decide) (hts _ w_1111) (fun _ h9 => h9) (MFg (by decide) ((rf_ne (by decide) (by decide)).trans ((rs_ne (by decide) (by decide) (by decide) (by decide)).trans h22))) d_Mo_selector_27 ?_
        refine va_get (D := (dC, dI)) (ci := 12) (v := .int (nI V.us)) (C := R_Tree) (T := F_Tree) (N := 13) hx hb hts in_Tree hown hK hP 4 rfl rfl 12 (by decide) (hts _ w_1058) (fun _ h9 => h9) (MFg (by decide) rfl) d_Mo_selector_30 ?_
        refine W.eq (g2 := F0 m 33 ls [.int (nI V.us), .int (nI 2), .int (nI Q.R), .ref mo]) rfl ?_
        have hPc := hP.sub (ws' := [(mo, .inr (13, MF 30 (rf (rs v Q1 o) i br))), (Q1.qq, .inl (cI, (8 * Q1.C), .inl Q1.qf))]) [0, 2] rfl
        have hDc := hD.sub (ws' := [(mo, .inr (13, MF 30 (rf (rs v Q1 o) i br))), (Q1.qq, .inl (cI, (8 * Q1.C), .inl Q1.qf))]) [0, 2] (by decide) rfl
        have hKc := hK.sub (tys' := [(cI, .int)]) [1] rfl
        have hFc := va_free (wc := [(mo, .inr (13, MF 30 (rf (rs v Q1 o) i br))), (Q1.qq, .inl (cI, (8 * Q1.C), .inl Q1.qf))]) hD hS hA [0, 2] rfl
        refine va_callv (va_runV (As := [.int (nI Q.R), .int (nI 2), .int (nI V.us)]) (rest := []) ⟨hx, hb, hml, hown, hts⟩ (c_Mo_set l dC dI mo H (rf (rs v Q1 o) i br) cI Q1.qq (8 * Q1.C) Q1.qf Q.R 2 ((nI V.us)) (by omega) (by omega) ((rf_ne (by decide) (by decide)).trans rs_19)) (cwV 3 hts (gt_V (own := R_Mo) (C := R_Mo) (i := 272) (y := y_Mo_set) i_Mo_set w_1411 w_1413 (gt_sel (y := y_Mo_set) (n := 30) (by decide +kernel)) w_7) rfl rfl rfl (by decide +kernel) ⟨Nat.le_trans (m := 7) (Nat.le_of_ble_eq_true rfl) (Nat.le_add_right 7 F), Nat.le_trans (m := 200) (Nat.le_of_ble_eq_true rfl) (Nat.le_add_right 200 L)⟩) ⟨mp_blind, va_recv hKc hPc (ci := 13) (q0 := 0) rfl rfl, fun U hU hW => ⟨rfl, hU, by rw [hU]; exact hPc, va_K.moved hW.alike hKc, hDc.weaken (fun _ _ _ _ => trivial)⟩⟩ rfl rfl hl.1 rfl (lv_room (Nat.le_of_ble_eq_true rfl)) d_Mo_selector_33 ⟨hfit_Q1V.1, hfit_Q1V.2⟩) hS (fun q _ h => hFc q h) hFc (fun _u t9 H1 locs ht hvm hw hB hz1 hk1 hS => ?_)
        obtain ⟨hP1, hK1, hD1⟩ := hB
        rw [ht] at hP1
        obtain ⟨hP, hD⟩ := va_join (wr := [(qx, .inl (cB, NN, .inl f)), (Q1.qe, .inl (cL, (3 * Q1.C), .inr (.inl Q1.ef))), (tv, .inr (12, MF 13 (tw V))), (V.au, .inl (cC, V.U, .inl V.un))]) (w1 := [(mo, .inr (13, MF 30 (rf (rs v Q1 o) i br))), (Q1.qq, .inl (cI, (8 * Q1.C), .inl (upd Q1.qf (8 * Q.R + 2) ((nI V.us)))))]) hP hD [0, 2] [1, 3, 4, 5] rfl rfl (by decide) (by decide) hk1 hFc hP1 hD1
        generalize H1 = H at hP hS ⊢
        have hP : va_P (dC, dI) classes [(qx, .inl (cB, NN, .inl f)), (Q1.qe, .inl (cL, (3 * Q1.C), .inr (.inl Q1.ef))), (tv, .inr (12, MF 13 (tw V))), (V.au, .inl (cC, V.U, .inl V.un)), (mo, .inr (13, MF 30 (rf (rs v Q1 o) i br))), (Q1.qq, .inl (cI, (8 * Q1.C), .inl (upd Q1.qf (8 * Q.R + 2) ((nI V.us)))))] H := hP
        have hD : va_D A [(qx, .inl (cB, NN, .inl f)), (Q1.qe, .inl (cL, (3 * Q1.C), .inr (.inl Q1.ef))), (tv, .inr (12, MF 13 (tw V))), (V.au, .inl (cC, V.U, .inl V.un)), (mo, .inr (13, MF 30 (rf (rs v Q1 o) i br))), (Q1.qq, .inl (cI, (8 * Q1.C), .inl (upd Q1.qf (8 * Q.R + 2) ((nI V.us)))))] := hD
        have hP := hP.sub (ws' := [(mo, .inr (13, MF 30 (rf (rs v Q1 o) i br))), (qx, .inl (cB, NN, .inl f)), (Q1.qq, .inl (cI, (8 * Q1.C), .inl (upd Q1.qf (8 * Q.R + 2) ((nI V.us))))), (Q1.qe, .inl (cL, (3 * Q1.C), .inr (.inl Q1.ef))), (tv, .inr (12, MF 13 (tw V))), (V.au, .inl (cC, V.U, .inl V.un))]) [4, 0, 5, 1, 2, 3] rfl
        have hD := hD.sub (ws' := [(mo, .inr (13, MF 30 (rf (rs v Q1 o) i br))), (qx, .inl (cB, NN, .inl f)), (Q1.qq, .inl (cI, (8 * Q1.C), .inl (upd Q1.qf (8 * Q.R + 2) ((nI V.us))))), (Q1.qe, .inl (cL, (3 * Q1.C), .inr (.inl Q1.ef))), (tv, .inr (12, MF 13 (tw V))), (V.au, .inl (cC, V.U, .inl V.un))]) [4, 0, 5, 1, 2, 3] (by decide) rfl
        obtain ⟨Q2, e_Q2⟩ : ∃ z : QS, z = QS.wf Q1 (upd Q1.qf (8 * Q.R + 2) ((nI V.us))) := ⟨_, rfl⟩
        have hP : va_P (dC, dI) classes [(mo, .inr (13, MF 30 (rf (rs v Q2 o) i br))), (qx, .inl (cB, NN, .inl f)), (Q2.qq, .inl (cI, (8 * Q2.C), .inl Q2.qf)), (Q2.qe, .inl (cL, (3 * Q2.C), .inr (.inl Q2.ef))), (tv, .inr (12, MF 13 (tw V))), (V.au, .inl (cC, V.U, .inl V.un))] H := by subst e_Q2; exact hP
        have hD : va_D A [(mo, .inr (13, MF 30 (rf (rs v Q2 o) i br))), (qx, .inl (cB, NN, .inl f)), (Q2.qq, .inl (cI, (8 * Q2.C), .inl Q2.qf)), (Q2.qe, .inl (cL, (3 * Q2.C), .inr (.inl Q2.ef))), (tv, .inr (12, MF 13 (tw V))), (V.au, .inl (cC, V.U, .inl V.un))] := by subst e_Q2; exact hD
        have hf_Q2 : Q2.C = Q1.C ∧ Q2.R = Q1.R ∧ Q2.qf = upd Q1.qf (8 * Q.R + 2) ((nI V.us)) := by rw [e_Q2]; exact ⟨rfl, rfl, rfl⟩
        have he_Q2 : Q2.ef = Q1.ef := by rw [e_Q2]; rfl
        have hQk_Q2 : QOK Q2 := by rw [e_Q2]; exact hQk_Q1
        have hG_Q2V : GQ (Q.R + 8 * (n - i) + 4) (V.us + (n + 12 - i)) Q V Q2 V := by unfold GQ at hG_Q1V ⊢; rw [hf_Q2.1]; exact hG_Q1V
        refine w_same (fun hq => ?_)
        refine w_tight (k := cQ Q V Q2 V) (n := sQ Q V Q2 V) (by unfold cQ sQ at hq ⊢; rw [hf_Q2.1]; exact hq) ?_
        have hR_Q2 := hf_Q2.2.1
        have hqb_Q2V : Q2.R ≤ Q2.C ∧ Q2.C ≤ 100000 := ⟨hQk_Q2.2.2.1, hQk_Q2.2.1⟩
        have hfit_Q2V := hG_Q2V.fits
        have hk0_Q2 : Q2.qf (8 * Q.R + 0) = 1 := by rw [hf_Q2.2.2, pk_un (by omega)]; exact hk0_Q1
        have hl1_Q2 : Q2.qf (8 * Q.R + 1) = -1 := by rw [hf_Q2.2.2, pk_un (by omega)]; exact hl1_Q1
        have hEx_Q2V : alr Q V Q2 V 0 Q.R := hEx_Q1V.tr (alr.upd hf_Q2.2.2 he_Q2 (by decide) (by omega))
        refine lv_aload_n hx hb d_Mo_selector_36 rfl (lv_at hl 2 rfl) ?_
        refine lv_iload_n hx hb d_Mo_selector_37 rfl (lv_at hl 1 rfl) ?_
        refine lv_aload_n hx hb d_Mo_selector_38 rfl (lv_at hl 2 rfl) ?_
        refine va_get (D := (dC, dI)) (ci := 13) (v := .ref tv) (C := R_Mo) (T := F_Mo) (N := 30) hx hb hts in_Mo hown hK hP 0 rfl rfl 22 (by decide) (hts _ w_1111) (fun _ h9 => h9) (MFg (by decide) ((rf_ne (by decide) (by decide)).trans ((rs_ne (by decide) (by decide) (by decide) (by decide)).trans h22))) d_Mo_selector_39 ?_
        have hqr : 0 ≤ r1 := by rw [c14]; decide
        have hlt0 := here_in h_r1.symm hqr
        have hPc := hP.sub (ws' := [(mo, .inr (13, MF 30 (rf (rs v Q2 o) i br))), (qx, .inl (cB, NN, .inl f)), (tv, .inr (12, MF 13 (tw V))), (V.au, .inl (cC, V.U, .inl V.un))]) [0, 1, 4, 5] rfl
        have hDc := hD.sub (ws' := [(mo, .inr (13, MF 30 (rf (rs v Q2 o) i br))), (qx, .inl (cB, NN, .inl f)), (tv, .inr (12, MF 13 (tw V))), (V.au, .inl (cC, V.U, .inl V.un))]) [0, 1, 4, 5] (by decide) rfl
        have hKc := hK.sub (tys' := [(cB, .byte), (cC, .char)]) [0, 3] rfl
        have hFc := va_free (wc := [(mo, .inr (13, MF 30 (rf (rs v Q2 o) i br))), (qx, .inl (cB, NN, .inl f)), (tv, .inr (12, MF 13 (tw V))), (V.au, .inl (cC, V.U, .inl V.un))]) hD hS hA [0, 1, 4, 5] rfl
        refine w_same (fun hq0 => ?_)
        refine va_calli (va_runV (As := [.int r1, .ref tv]) (rest := []) ⟨hx, hb, hml, hown, hts⟩ (c_Mo_quoted l dC dI mo H (rs v Q2 o) cB cC qx NN f n K tv V i br r1 hnN (by omega) (by omega) ((rs_ne (by decide) (by decide) (by decide) (by decide)).trans h6) ((rs_ne (by decide) (by decide) (by decide) (by decide)).trans h8) hqr hTk_V (by omega)) (cwV 2 hts (gt_V (own := R_Mo) (C := R_Mo) (i := 200) (y := y_Mo_quoted) i_Mo_quoted w_1261 w_1263 (gt_sel (y := y_Mo_quoted) (n := 30) (by decide +kernel)) w_7) rfl rfl rfl (by decide +kernel) ⟨Nat.le_trans (m := 7) (Nat.le_of_ble_eq_true rfl) (Nat.le_add_right 7 F), Nat.le_trans (m := 200) (Nat.le_of_ble_eq_true rfl) (Nat.le_add_right 200 L)⟩) ⟨me_blind, va_recv hKc hPc (ci := 13) (q0 := 0) rfl rfl, fun U hU hW => ⟨rfl, ⟨hU, by rw [hU]; exact hPc, va_K.moved hW.alike hKc, hDc.weaken (fun _ _ _ _ => trivial)⟩, by rw [hU]; exact ME.call hM hS.2.1 hFc hW⟩⟩ rfl rfl hl.1 rfl (lv_room (Nat.le_of_ble_eq_true rfl)) d_Mo_selector_42 ⟨(hG_Q2V.stepQ (C2 := V.us + (n + 12 - i)) (by omega)).1, (hG_Q2V.stepQ (C2 := V.us + (n + 12 - i)) (by omega)).2⟩) hS (fun q _ h => hFc q h) hFc (fun r0 ⟨V1, us9, j_V1, b_V1⟩ t9 H1 locs ht hvm hw hB hz1 hk1 hS => ?_)
        obtain ⟨⟨hP1, hK1, hD1⟩, hz9⟩ := hB
        rw [ht] at hP1
        rw [ht] at hz9
        obtain ⟨hX_V1, hw⟩ := hw
        have hX_V1 : TX V V1 us9 := hX_V1
        have hXs_V1 := hX_V1.us
        have hln_V1 : us9.length ≤ n + 12 - i := by rcases hw with ⟨_, _, h9, h8⟩ | ⟨_, _, h9, _⟩; exact Nat.le_sub_of_add_le (show us9.length + i ≤ n + 12 by have h8 : us9.length + i + 2 ≤ j_V1 := h8; have h9 : j_V1 ≤ n := h9; omega); exact h9
        obtain ⟨hG_Q2V1, hGc, hGs⟩ := hG_Q2V.tr (hX_V1.gq Q2).1 (Nat.zero_le _) (show V.us + us9.length ≤ V.us + (n + 12 - i) by omega)
        rw [← (hX_V1.gq Q2).2.1] at hGc
        rw [← (hX_V1.gq Q2).2.2] at hGs
        have hz9 : szk H H1 (V1.U - V.U) (2 * (V1.U - V.U)) := hz9
        have hq1 : szk s.heap H1 (cQ Q V Q2 V1) (sQ Q V Q2 V1) := (hq0.trans hz9).mono hGc hGs
        refine w_tight hq1 ?_
        obtain ⟨hP, hD⟩ := va_join (wr := [(Q2.qq, .inl (cI, (8 * Q2.C), .inl Q2.qf)), (Q2.qe, .inl (cL, (3 * Q2.C), .inr (.inl Q2.ef)))]) (w1 := [(mo, .inr (13, MF 30 (rf (rs v Q2 o) j_V1 b_V1))), (qx, .inl (cB, NN, .inl f)), (tv, .inr (12, MF 13 (tw V1))), (V1.au, .inl (cC, V1.U, .inl V1.un))]) hP hD [0, 1, 4, 5] [2, 3] rfl rfl (by decide) (by decide) hk1 hFc hP1 hD1
        generalize H1 = H at hP hS ⊢
        have hP : va_P (dC, dI) classes [(Q2.qq, .inl (cI, (8 * Q2.C), .inl Q2.qf)), (Q2.qe, .inl (cL, (3 * Q2.C), .inr (.inl Q2.ef))), (mo, .inr (13, MF 30 (rf (rs v Q2 o) j_V1 b_V1))), (qx, .inl (cB, NN, .inl f)), (tv, .inr (12, MF 13 (tw V1))), (V1.au, .inl (cC, V1.U, .inl V1.un))] H := hP
        have hD : va_D A [(Q2.qq, .inl (cI, (8 * Q2.C), .inl Q2.qf)), (Q2.qe, .inl (cL, (3 * Q2.C), .inr (.inl Q2.ef))), (mo, .inr (13, MF 30 (rf (rs v Q2 o) j_V1 b_V1))), (qx, .inl (cB, NN, .inl f)), (tv, .inr (12, MF 13 (tw V1))), (V1.au, .inl (cC, V1.U, .inl V1.un))] := hD
        have hP := hP.sub (ws' := [(mo, .inr (13, MF 30 (rf (rs v Q2 o) j_V1 b_V1))), (qx, .inl (cB, NN, .inl f)), (Q2.qq, .inl (cI, (8 * Q2.C), .inl Q2.qf)), (Q2.qe, .inl (cL, (3 * Q2.C), .inr (.inl Q2.ef))), (tv, .inr (12, MF 13 (tw V1))), (V1.au, .inl (cC, V1.U, .inl V1.un))]) [2, 3, 0, 1, 4, 5] rfl
        have hD := hD.sub (ws' := [(mo, .inr (13, MF 30 (rf (rs v Q2 o) j_V1 b_V1))), (qx, .inl (cB, NN, .inl f)), (Q2.qq, .inl (cI, (8 * Q2.C), .inl Q2.qf)), (Q2.qe, .inl (cL, (3 * Q2.C), .inr (.inl Q2.ef))), (tv, .inr (12, MF 13 (tw V1))), (V1.au, .inl (cC, V1.U, .inl V1.un))]) [2, 3, 0, 1, 4, 5] (by decide) rfl
        have hP := hP.sub (ws' := [(mo, .inr (13, MF 30 (rf (rs v Q2 o) j_V1 b_V1))), (qx, .inl (cB, NN, .inl f)), (Q2.qq, .inl (cI, (8 * Q2.C), .inl Q2.qf)), (Q2.qe, .inl (cL, (3 * Q2.C), .inr (.inl Q2.ef))), (tv, .inr (12, MF 13 (tw V1))), (V1.au, .inl (cC, V1.U, .inl V1.un))]) [0, 1, 2, 3, 4, 5] rfl
        have hD := hD.sub (ws' := [(mo, .inr (13, MF 30 (rf (rs v Q2 o) j_V1 b_V1))), (qx, .inl (cB, NN, .inl f)), (Q2.qq, .inl (cI, (8 * Q2.C), .inl Q2.qf)), (Q2.qe, .inl (cL, (3 * Q2.C), .inr (.inl Q2.ef))), (tv, .inr (12, MF 13 (tw V1))), (V1.au, .inl (cC, V1.U, .inl V1.un))]) [0, 1, 2, 3, 4, 5] (by decide) rfl
        rcases hw with ⟨ho_1, ho_2, ho_3, ho_4⟩ | ⟨ho_1, ho_2, ho_3, ho_4⟩
        · have hqt_V1 : qtQ f n r1 i = some (us9, j_V1) := ho_2
          have ho_3 : j_V1 ≤ n := ho_3
          have ho_4 : us9.length + i + 2 ≤ j_V1 := ho_4
          have hTk_V1 := hX_V1.ok hTk_V (by omega)
          subst ho_1
          have hEx_Q2V1 : alr Q V Q2 V1 0 Q.R := hEx_Q2V.tr hX_V1.alr
          have hqb_Q2V1 : Q2.R ≤ Q2.C ∧ Q2.C ≤ 100000 := ⟨hQk_Q2.2.2.1, hQk_Q2.2.1⟩
          have hfit_Q2V1 := hG_Q2V1.fits
          refine lv_if_ne (tgt := 50) hx hb d_Mo_selector_45 (by decide) (fun _ => ?_) (fun h => absurd h (by decide))
          refine lv_aload_n hx hb d_Mo_selector_50 rfl (lv_at hl 2 rfl) ?_
          refine lv_iload_n hx hb d_Mo_selector_51 rfl (lv_at hl 0 rfl) ?_
          refine lv_iconst (v := 3) hx hb d_Mo_selector_52 (by decide) ?_
          refine lv_aload_n hx hb d_Mo_selector_53 rfl (lv_at hl 2 rfl) ?_
          refine va_get (D := (dC, dI)) (ci := 13) (v := .ref tv) (C := R_Mo) (T := F_Mo) (N := 30) hx hb hts in_Mo hown hK hP 0 rfl rfl 22 (by decide) (hts _ w_1111) (fun _ h9 => h9) (MFg (by decide) ((rf_ne (by decide) (by decide)).trans ((rs_ne (by decide) (by decide) (by decide) (by decide)).trans h22))) d_Mo_selector_54 ?_
          refine va_get (D := (dC, dI)) (ci := 12) (v := .int (nI V1.us)) (C := R_Tree) (T := F_Tree) (N := 13) hx hb hts in_Tree hown hK hP 4 rfl rfl 12 (by decide) (hts _ w_1058) (fun _ h9 => h9) (MFg (by decide) rfl) d_Mo_selector_57 ?_
          refine lv_aload_n hx hb d_Mo_selector_60 rfl (lv_at hl 2 rfl) ?_
          refine lv_iload_n hx hb d_Mo_selector_61 rfl (lv_at hl 0 rfl) ?_
          refine lv_iconst (v := 2) hx hb d_Mo_selector_62 (by decide) ?_
          refine W.eq (g2 := F0 m 63 ls [.int (nI 2), .int (nI Q.R), .ref mo, .int (nI V1.us), .int 3, .int (nI Q.R), .ref mo]) rfl ?_
          have hPc := hP.sub (ws' := [(mo, .inr (13, MF 30 (rf (rs v Q2 o) j_V1 b_V1))), (Q2.qq, .inl (cI, (8 * Q2.C), .inl Q2.qf))]) [0, 2] rfl
          have hDc := hD.sub (ws' := [(mo, .inr (13, MF 30 (rf (rs v Q2 o) j_V1 b_V1))), (Q2.qq, .inl (cI, (8 * Q2.C), .inl Q2.qf))]) [0, 2] (by decide) rfl
          have hKc := hK.sub (tys' := [(cI, .int)]) [1] rfl
          have hFc := va_free (wc := [(mo, .inr (13, MF 30 (rf (rs v Q2 o) j_V1 b_V1))), (Q2.qq, .inl (cI, (8 * Q2.C), .inl Q2.qf))]) hD hS hA [0, 2] rfl
          refine va_calli (va_runV (As := [.int (nI Q.R), .int (nI 2)]) (rest := [.int (nI V1.us), .int 3, .int (nI Q.R), .ref mo]) ⟨hx, hb, hml, hown, hts⟩ (c_Mo_field l dC dI mo H (rf (rs v Q2 o) j_V1 b_V1) cI Q2.qq (8 * Q2.C) Q2.qf Q.R 2 (by omega) (by omega) ((rf_ne (by decide) (by decide)).trans rs_19)) (cwV 2 hts (gt_V (own := R_Mo) (C := R_Mo) (i := 286) (y := y_Mo_field) i_Mo_field w_1431 w_1433 (gt_sel (y := y_Mo_field) (n := 30) (by decide +kernel)) w_7) rfl rfl rfl (by decide +kernel) ⟨Nat.le_trans (m := 7) (Nat.le_of_ble_eq_true rfl) (Nat.le_add_right 7 F), Nat.le_trans (m := 200) (Nat.le_of_ble_eq_true rfl) (Nat.le_add_right 200 L)⟩) ⟨mp_blind, va_recv hKc hPc (ci := 13) (q0 := 0) rfl rfl, fun U hU hW => ⟨rfl, hU, by rw [hU]; exact hPc, va_K.moved hW.alike hKc, hDc.weaken (fun _ _ _ _ => trivial)⟩⟩ rfl rfl hl.1 rfl (lv_room (Nat.le_of_ble_eq_true rfl)) d_Mo_selector_63 ⟨hfit_Q2V1.1, hfit_Q2V1.2⟩) hS (fun q _ h => hFc q h) hFc (fun r7 _u t9 H1 locs ht hvm hw hB hz1 hk1 hS => ?_)
          obtain ⟨hP1, hK1, hD1⟩ := hB
          rw [ht] at hP1
          obtain ⟨hP, hD⟩ := va_join (wr := [(qx, .inl (cB, NN, .inl f)), (Q2.qe, .inl (cL, (3 * Q2.C), .inr (.inl Q2.ef))), (tv, .inr (12, MF 13 (tw V1))), (V1.au, .inl (cC, V1.U, .inl V1.un))]) (w1 := [(mo, .inr (13, MF 30 (rf (rs v Q2 o) j_V1 b_V1))), (Q2.qq, .inl (cI, (8 * Q2.C), .inl Q2.qf))]) hP hD [0, 2] [1, 3, 4, 5] rfl rfl (by decide) (by decide) hk1 hFc hP1 hD1
          generalize H1 = H at hP hS ⊢
          have hP : va_P (dC, dI) classes [(qx, .inl (cB, NN, .inl f)), (Q2.qe, .inl (cL, (3 * Q2.C), .inr (.inl Q2.ef))), (tv, .inr (12, MF 13 (tw V1))), (V1.au, .inl (cC, V1.U, .inl V1.un)), (mo, .inr (13, MF 30 (rf (rs v Q2 o) j_V1 b_V1))), (Q2.qq, .inl (cI, (8 * Q2.C), .inl Q2.qf))] H := hP
          have hD : va_D A [(qx, .inl (cB, NN, .inl f)), (Q2.qe, .inl (cL, (3 * Q2.C), .inr (.inl Q2.ef))), (tv, .inr (12, MF 13 (tw V1))), (V1.au, .inl (cC, V1.U, .inl V1.un)), (mo, .inr (13, MF 30 (rf (rs v Q2 o) j_V1 b_V1))), (Q2.qq, .inl (cI, (8 * Q2.C), .inl Q2.qf))] := hD
          have hP := hP.sub (ws' := [(mo, .inr (13, MF 30 (rf (rs v Q2 o) j_V1 b_V1))), (qx, .inl (cB, NN, .inl f)), (Q2.qq, .inl (cI, (8 * Q2.C), .inl Q2.qf)), (Q2.qe, .inl (cL, (3 * Q2.C), .inr (.inl Q2.ef))), (tv, .inr (12, MF 13 (tw V1))), (V1.au, .inl (cC, V1.U, .inl V1.un))]) [4, 0, 5, 1, 2, 3] rfl
          have hD := hD.sub (ws' := [(mo, .inr (13, MF 30 (rf (rs v Q2 o) j_V1 b_V1))), (qx, .inl (cB, NN, .inl f)), (Q2.qq, .inl (cI, (8 * Q2.C), .inl Q2.qf)), (Q2.qe, .inl (cL, (3 * Q2.C), .inr (.inl Q2.ef))), (tv, .inr (12, MF 13 (tw V1))), (V1.au, .inl (cC, V1.U, .inl V1.un))]) [4, 0, 5, 1, 2, 3] (by decide) rfl
          have h_r7 : r7 = Q2.qf (8 * Q.R + 2) := hw
          have h7 : r7 = nI V.us := by rw [h_r7, hf_Q2.2.2]; exact pk_us
          subst h7
          refine lv_isub hx hb d_Mo_selector_66 ?_
          refine W.eq (g2 := F0 m 67 ls [.int (nI us9.length), .int 3, .int (nI Q.R), .ref mo]) (by rw [show ((nI V1.us) - (nI V.us)) = (nI us9.length) from (by rw [hXs_V1]; exact nI_asub _ _)]) ?_
          refine W.eq (g2 := F0 m 67 ls [.int (nI us9.length), .int (nI 3), .int (nI Q.R), .ref mo]) rfl ?_
          have hPc := hP.sub (ws' := [(mo, .inr (13, MF 30 (rf (rs v Q2 o) j_V1 b_V1))), (Q2.qq, .inl (cI, (8 * Q2.C), .inl Q2.qf))]) [0, 2] rfl
          have hDc := hD.sub (ws' := [(mo, .inr (13, MF 30 (rf (rs v Q2 o) j_V1 b_V1))), (Q2.qq, .inl (cI, (8 * Q2.C), .inl Q2.qf))]) [0, 2] (by decide) rfl
          have hKc := hK.sub (tys' := [(cI, .int)]) [1] rfl
          have hFc := va_free (wc := [(mo, .inr (13, MF 30 (rf (rs v Q2 o) j_V1 b_V1))), (Q2.qq, .inl (cI, (8 * Q2.C), .inl Q2.qf))]) hD hS hA [0, 2] rfl
          refine va_callv (va_runV (As := [.int (nI Q.R), .int (nI 3), .int (nI us9.length)]) (rest := []) ⟨hx, hb, hml, hown, hts⟩ (c_Mo_set l dC dI mo H (rf (rs v Q2 o) j_V1 b_V1) cI Q2.qq (8 * Q2.C) Q2.qf Q.R 3 ((nI us9.length)) (by omega) (by omega) ((rf_ne (by decide) (by decide)).trans rs_19)) (cwV 3 hts (gt_V (own := R_Mo) (C := R_Mo) (i := 272) (y := y_Mo_set) i_Mo_set w_1411 w_1413 (gt_sel (y := y_Mo_set) (n := 30) (by decide +kernel)) w_7) rfl rfl rfl (by decide +kernel) ⟨Nat.le_trans (m := 7) (Nat.le_of_ble_eq_true rfl) (Nat.le_add_right 7 F), Nat.le_trans (m := 200) (Nat.le_of_ble_eq_true rfl) (Nat.le_add_right 200 L)⟩) ⟨mp_blind, va_recv hKc hPc (ci := 13) (q0 := 0) rfl rfl, fun U hU hW => ⟨rfl, hU, by rw [hU]; exact hPc, va_K.moved hW.alike hKc, hDc.weaken (fun _ _ _ _ => trivial)⟩⟩ rfl rfl hl.1 rfl (lv_room (Nat.le_of_ble_eq_true rfl)) d_Mo_selector_67 ⟨hfit_Q2V1.1, hfit_Q2V1.2⟩) hS (fun q _ h => hFc q h) hFc (fun _u t9 H1 locs ht hvm hw hB hz1 hk1 hS => ?_)
          obtain ⟨hP1, hK1, hD1⟩ := hB
          rw [ht] at hP1
          obtain ⟨hP, hD⟩ := va_join (wr := [(qx, .inl (cB, NN, .inl f)), (Q2.qe, .inl (cL, (3 * Q2.C), .inr (.inl Q2.ef))), (tv, .inr (12, MF 13 (tw V1))), (V1.au, .inl (cC, V1.U, .inl V1.un))]) (w1 := [(mo, .inr (13, MF 30 (rf (rs v Q2 o) j_V1 b_V1))), (Q2.qq, .inl (cI, (8 * Q2.C), .inl (upd Q2.qf (8 * Q.R + 3) ((nI us9.length)))))]) hP hD [0, 2] [1, 3, 4, 5] rfl rfl (by decide) (by decide) hk1 hFc hP1 hD1
          generalize H1 = H at hP hS ⊢
          have hP : va_P (dC, dI) classes [(qx, .inl (cB, NN, .inl f)), (Q2.qe, .inl (cL, (3 * Q2.C), .inr (.inl Q2.ef))), (tv, .inr (12, MF 13 (tw V1))), (V1.au, .inl (cC, V1.U, .inl V1.un)), (mo, .inr (13, MF 30 (rf (rs v Q2 o) j_V1 b_V1))), (Q2.qq, .inl (cI, (8 * Q2.C), .inl (upd Q2.qf (8 * Q.R + 3) ((nI us9.length)))))] H := hP
          have hD : va_D A [(qx, .inl (cB, NN, .inl f)), (Q2.qe, .inl (cL, (3 * Q2.C), .inr (.inl Q2.ef))), (tv, .inr (12, MF 13 (tw V1))), (V1.au, .inl (cC, V1.U, .inl V1.un)), (mo, .inr (13, MF 30 (rf (rs v Q2 o) j_V1 b_V1))), (Q2.qq, .inl (cI, (8 * Q2.C), .inl (upd Q2.qf (8 * Q.R + 3) ((nI us9.length)))))] := hD
          have hP := hP.sub (ws' := [(mo, .inr (13, MF 30 (rf (rs v Q2 o) j_V1 b_V1))), (qx, .inl (cB, NN, .inl f)), (Q2.qq, .inl (cI, (8 * Q2.C), .inl (upd Q2.qf (8 * Q.R + 3) ((nI us9.length))))), (Q2.qe, .inl (cL, (3 * Q2.C), .inr (.inl Q2.ef))), (tv, .inr (12, MF 13 (tw V1))), (V1.au, .inl (cC, V1.U, .inl V1.un))]) [4, 0, 5, 1, 2, 3] rfl
          have hD := hD.sub (ws' := [(mo, .inr (13, MF 30 (rf (rs v Q2 o) j_V1 b_V1))), (qx, .inl (cB, NN, .inl f)), (Q2.qq, .inl (cI, (8 * Q2.C), .inl (upd Q2.qf (8 * Q.R + 3) ((nI us9.length))))), (Q2.qe, .inl (cL, (3 * Q2.C), .inr (.inl Q2.ef))), (tv, .inr (12, MF 13 (tw V1))), (V1.au, .inl (cC, V1.U, .inl V1.un))]) [4, 0, 5, 1, 2, 3] (by decide) rfl
          obtain ⟨Q3, e_Q3⟩ : ∃ z : QS, z = QS.wf Q2 (upd Q2.qf (8 * Q.R + 3) ((nI us9.length))) := ⟨_, rfl⟩
          have hP : va_P (dC, dI) classes [(mo, .inr (13, MF 30 (rf (rs v Q3 o) j_V1 b_V1))), (qx, .inl (cB, NN, .inl f)), (Q3.qq, .inl (cI, (8 * Q3.C), .inl Q3.qf)), (Q3.qe, .inl (cL, (3 * Q3.C), .inr (.inl Q3.ef))), (tv, .inr (12, MF 13 (tw V1))), (V1.au, .inl (cC, V1.U, .inl V1.un))] H := by subst e_Q3; exact hP
          have hD : va_D A [(mo, .inr (13, MF 30 (rf (rs v Q3 o) j_V1 b_V1))), (qx, .inl (cB, NN, .inl f)), (Q3.qq, .inl (cI, (8 * Q3.C), .inl Q3.qf)), (Q3.qe, .inl (cL, (3 * Q3.C), .inr (.inl Q3.ef))), (tv, .inr (12, MF 13 (tw V1))), (V1.au, .inl (cC, V1.U, .inl V1.un))] := by subst e_Q3; exact hD
          have hf_Q3 : Q3.C = Q2.C ∧ Q3.R = Q2.R ∧ Q3.qf = upd Q2.qf (8 * Q.R + 3) ((nI us9.length)) := by rw [e_Q3]; exact ⟨rfl, rfl, rfl⟩
          have he_Q3 : Q3.ef = Q2.ef := by rw [e_Q3]; rfl
          have hQk_Q3 : QOK Q3 := by rw [e_Q3]; exact hQk_Q2
          have hG_Q3V1 : GQ (Q.R + 8 * (n - i) + 4) (V.us + (n + 12 - i)) Q V Q3 V1 := by unfold GQ at hG_Q2V1 ⊢; rw [hf_Q3.1]; exact hG_Q2V1
          refine w_same (fun hq => ?_)
          refine w_tight (k := cQ Q V Q3 V1) (n := sQ Q V Q3 V1) (by unfold cQ sQ at hq ⊢; rw [hf_Q3.1]; exact hq) ?_
          have hR_Q3 := hf_Q3.2.1
          have hqb_Q3V1 : Q3.R ≤ Q3.C ∧ Q3.C ≤ 100000 := ⟨hQk_Q3.2.2.1, hQk_Q3.2.1⟩
          have hfit_Q3V1 := hG_Q3V1.fits
          have hk0_Q3 : Q3.qf (8 * Q.R + 0) = 1 := by rw [hf_Q3.2.2, pk_un (by omega)]; exact hk0_Q2
          have hl1_Q3 : Q3.qf (8 * Q.R + 1) = -1 := by rw [hf_Q3.2.2, pk_un (by omega)]; exact hl1_Q2
          have hEx_Q3V1 : alr Q V Q3 V1 0 Q.R := hEx_Q2V1.tr (alr.upd hf_Q3.2.2 he_Q3 (by decide) (by omega))
          refine lv_iload_n hx hb d_Mo_selector_70 rfl (lv_at hl 0 rfl) ?_
          have hfin : selP f n (orL f n) false i = some (j_V1, true, namS us9) := by
            unfold selP
            rw [if_pos (Or.inr (h_r1.symm.trans c14))]
            rw [← h_r1, hqt_V1]; rfl
          have hu9 := qtQ_uok (Or.inr c14) hqt_V1
          have hNM : NMq Q3 V1 Q.R us9 := ⟨V.us, us9.length, by rw [hf_Q3.2.2, pk_un (by omega), hf_Q2.2.2]; exact pk_us, by rw [hf_Q3.2.2]; exact pk_us, by omega, by rw [hX_V1.un.2]; exact hu9.2⟩
          have hSE : SELp O Q3 V1 Q.R Q3.R Q.R (namS us9) := ⟨Nat.le_refl _, by omega, Or.inl ⟨hk0_Q3, us9, hNM, rfl⟩⟩
          refine w_same (fun hq => ?_)
          refine W.widen (k := kcap Q (Q.R + 8 * (n - i) + 4) + qcap V (V.us + (n + 12 - i))) (n := 22 * kcap Q (Q.R + 8 * (n - i) + 4) + 2 * qcap V (V.us + (n + 12 - i))) hfit_Q3V1.1 hfit_Q3V1.2 ?_
          have hPo : QPo n i 4 Q V (Q3, V1, j_V1, b_V1, o) := ⟨hQk_Q3, hG_Q3V1, ⟨us9, hX_V1, by omega⟩, by show Q.R ≤ Q3.R; omega, by show Q3.R ≤ Q.R + 8 * (n - i) + 4; omega⟩
          exact W.iret (v := nI Q.R) hx hb hr (fun t9 ht hW => ⟨⟨nI Q.R, (Q3, V1, j_V1, b_V1, o), rfl, ⟨hPo, Or.inl ⟨true, namS us9, rfl, hfin, hSE, ⟨fun _ => by rw [hk0_Q3]; decide, fun _ => rfl⟩, hl1_Q3, hEx_Q3V1, by show Q3.R + 8 * i + 7 ≤ Q.R + 8 * j_V1; omega, by show V1.us + i ≤ V.us + j_V1; omega, by show j_V1 ≤ n; omega, by show Q.R < Q3.R; omega, rfl⟩⟩, ⟨by rw [ht]; exact hP, va_K.moved hW.alike hK, hD⟩, by rw [ht]; exact hq⟩, hS.F ht⟩) hS.2.2 d_Mo_selector_71
        · have hqt_V1 : qtQ f n r1 i = none := ho_2
          clear ho_3 ho_4
          have hTk_V1 := hX_V1.ok hTk_V (by omega)
          subst ho_1
          have hEx_Q2V1 : alr Q V Q2 V1 0 Q.R := hEx_Q2V.tr hX_V1.alr
          have hqb_Q2V1 : Q2.R ≤ Q2.C ∧ Q2.C ≤ 100000 := ⟨hQk_Q2.2.2.1, hQk_Q2.2.1⟩
          have hfit_Q2V1 := hG_Q2V1.fits
          refine lv_if_ne (tgt := 50) hx hb d_Mo_selector_45 (by decide) (fun h => absurd h (by decide)) (fun _ => ?_)
          refine lv_iconst (v := (-1)) hx hb d_Mo_selector_48 (by decide) ?_
          have hfin : selP f n (orL f n) false i = none := by
            unfold selP
            rw [if_pos (Or.inr (h_r1.symm.trans c14))]
            rw [← h_r1, hqt_V1]; rfl
          refine w_same (fun hq => ?_)
          refine W.widen (k := kcap Q (Q.R + 8 * (n - i) + 4) + qcap V (V.us + (n + 12 - i))) (n := 22 * kcap Q (Q.R + 8 * (n - i) + 4) + 2 * qcap V (V.us + (n + 12 - i))) hfit_Q2V1.1 hfit_Q2V1.2 ?_
          have hPo : QPo n i 4 Q V (Q2, V1, j_V1, b_V1, o) := ⟨hQk_Q2, hG_Q2V1, ⟨us9, hX_V1, by omega⟩, by show Q.R ≤ Q2.R; omega, by show Q2.R ≤ Q.R + 8 * (n - i) + 4; omega⟩
          exact W.iret (v := -1) hx hb hr (fun t9 ht hW => ⟨⟨-1, (Q2, V1, j_V1, b_V1, o), rfl, ⟨hPo, Or.inr ⟨rfl, hfin⟩⟩, ⟨by rw [ht]; exact hP, va_K.moved hW.alike hK, hD⟩, by rw [ht]; exact hq⟩, hS.F ht⟩) hS.2.2 d_Mo_selector_49
  · rintro _ H locs ls hI185 hP hD hS hl
    have hP : va_P (dC, dI) classes [(mo, .inr (13, MF 30 (rf (rs v Q o) i br))), (qx, .inl (cB, NN, .inl f)), (Q.qq, .inl (cI, (8 * Q.C), .inl Q.qf)), (Q.qe, .inl (cL, (3 * Q.C), .inr (.inl Q.ef))), (tv, .inr (12, MF 13 (tw V))), (V.au, .inl (cC, V.U, .inl V.un))] H := hP
    have hD : va_D A [(mo, .inr (13, MF 30 (rf (rs v Q o) i br))), (qx, .inl (cB, NN, .inl f)), (Q.qq, .inl (cI, (8 * Q.C), .inl Q.qf)), (Q.qe, .inl (cL, (3 * Q.C), .inr (.inl Q.ef))), (tv, .inr (12, MF 13 (tw V))), (V.au, .inl (cC, V.U, .inl V.un))] := hD
    have hl : lv_has ls 5 [(0, .ref mo), (1, .int 0), (2, .int r1)] := hl
    obtain ⟨hCn, hC⟩ := hI185
    have hlt185 : i < n := here_l32 (by rw [← h_r1]; rcases hC with h | h | h; rw [h]; decide; exact fun q => absurd (Int32.lt_of_le_of_lt h.1 q) (by decide); rw [h]; decide)
    refine lv_aload_n hx hb d_Mo_selector_185 rfl (lv_at hl 0 rfl) ?_
    refine lv_iconst (v := 3) hx hb d_Mo_selector_186 (by decide) ?_
    have hPc := hP.sub (ws' := [(mo, .inr (13, MF 30 (rf (rs v Q o) i br))), (Q.qq, .inl (cI, (8 * Q.C), .inl Q.qf)), (Q.qe, .inl (cL, (3 * Q.C), .inr (.inl Q.ef)))]) [0, 2, 3] rfl
    have hDc := hD.sub (ws' := [(mo, .inr (13, MF 30 (rf (rs v Q o) i br))), (Q.qq, .inl (cI, (8 * Q.C), .inl Q.qf)), (Q.qe, .inl (cL, (3 * Q.C), .inr (.inl Q.ef)))]) [0, 2, 3] (by decide) rfl
    have hKc := hK.sub (tys' := [(cI, .int), (cL, .long)]) [1, 2] rfl
    have hFc := va_free (wc := [(mo, .inr (13, MF 30 (rf (rs v Q o) i br))), (Q.qq, .inl (cI, (8 * Q.C), .inl Q.qf)), (Q.qe, .inl (cL, (3 * Q.C), .inr (.inl Q.ef)))]) hD hS hA [0, 2, 3] rfl
    refine w_same (fun hq0 => ?_)
    refine va_calli (va_runV (As := [.int 3]) (rest := []) ⟨hx, hb, hml, hown, hts⟩ (c_Mo_row l dC dI mo H v cI cL Q o i br 3 hQk_Q) (cwV 1 hts (gt_V (own := R_Mo) (C := R_Mo) (i := 269) (y := y_Mo_row) i_Mo_row w_1407 w_1409 (gt_sel (y := y_Mo_row) (n := 30) (by decide +kernel)) w_7) rfl rfl rfl (by decide +kernel) ⟨Nat.le_trans (m := 7) (Nat.le_of_ble_eq_true rfl) (Nat.le_add_right 7 F), Nat.le_trans (m := 200) (Nat.le_of_ble_eq_true rfl) (Nat.le_add_right 200 L)⟩) ⟨mp_blind, va_recv hKc hPc (ci := 13) (q0 := 0) rfl rfl, fun U hU hW => ⟨rfl, hU, by rw [hU]; exact hPc, va_K.moved hW.alike hKc, hDc.weaken (fun _ _ _ _ => trivial)⟩⟩ rfl rfl hl.1 rfl (lv_room (Nat.le_of_ble_eq_true rfl)) d_Mo_selector_187 ⟨(QAd.fit hG_QV hQk_Q (by omega)).1, (QAd.fit hG_QV hQk_Q (by omega)).2⟩) hS (fun q _ h => hFc q h) hFc (fun r0 Q1 t9 H1 locs ht hvm hw hB hz1 hk1 hS => ?_)
    obtain ⟨⟨hP1, hK1, hD1⟩, hz9⟩ := hB
    rw [ht] at hP1
    rw [ht] at hz9
    obtain ⟨hr0, hA_Q1⟩ := hw
    have hA_Q1 : QAd Q Q1 3 := hA_Q1
    obtain ⟨hQk_Q1, hGa, hGb, hGd, hR_Q1⟩ := hA_Q1.gq hQk_Q (by omega) V
    obtain ⟨hG_Q1V, hGc, hGs⟩ := hG_QV.tr hGa (show Q.R + 1 ≤ Q.R + 8 * (n - i) + 4 by omega) (Nat.zero_le _)
    have hGc := Nat.le_trans (Nat.add_le_add_left hGb _) hGc
    have hGs := Nat.le_trans (Nat.add_le_add_left hGd _) hGs
    have hq1 : szk s.heap H1 (cQ Q V Q1 V) (sQ Q V Q1 V) := (hq0.trans hz9).mono hGc hGs
    refine w_tight hq1 ?_
    obtain ⟨hP, hD⟩ := va_join (wr := [(qx, .inl (cB, NN, .inl f)), (tv, .inr (12, MF 13 (tw V))), (V.au, .inl (cC, V.U, .inl V.un))]) (w1 := [(mo, .inr (13, MF 30 (rf (rs v Q1 o) i br))), (Q1.qq, .inl (cI, (8 * Q1.C), .inl Q1.qf)), (Q1.qe, .inl (cL, (3 * Q1.C), .inr (.inl Q1.ef)))]) hP hD [0, 2, 3] [1, 4, 5] rfl rfl (by decide) (by decide) hk1 hFc hP1 hD1
    generalize H1 = H at hP hS ⊢
    have hP : va_P (dC, dI) classes [(qx, .inl (cB, NN, .inl f)), (tv, .inr (12, MF 13 (tw V))), (V.au, .inl (cC, V.U, .inl V.un)), (mo, .inr (13, MF 30 (rf (rs v Q1 o) i br))), (Q1.qq, .inl (cI, (8 * Q1.C), .inl Q1.qf)), (Q1.qe, .inl (cL, (3 * Q1.C), .inr (.inl Q1.ef)))] H := hP
    have hD : va_D A [(qx, .inl (cB, NN, .inl f)), (tv, .inr (12, MF 13 (tw V))), (V.au, .inl (cC, V.U, .inl V.un)), (mo, .inr (13, MF 30 (rf (rs v Q1 o) i br))), (Q1.qq, .inl (cI, (8 * Q1.C), .inl Q1.qf)), (Q1.qe, .inl (cL, (3 * Q1.C), .inr (.inl Q1.ef)))] := hD
    have hP := hP.sub (ws' := [(mo, .inr (13, MF 30 (rf (rs v Q1 o) i br))), (qx, .inl (cB, NN, .inl f)), (tv, .inr (12, MF 13 (tw V))), (V.au, .inl (cC, V.U, .inl V.un)), (Q1.qq, .inl (cI, (8 * Q1.C), .inl Q1.qf)), (Q1.qe, .inl (cL, (3 * Q1.C), .inr (.inl Q1.ef)))]) [3, 0, 1, 2, 4, 5] rfl
    have hD := hD.sub (ws' := [(mo, .inr (13, MF 30 (rf (rs v Q1 o) i br))), (qx, .inl (cB, NN, .inl f)), (tv, .inr (12, MF 13 (tw V))), (V.au, .inl (cC, V.U, .inl V.un)), (Q1.qq, .inl (cI, (8 * Q1.C), .inl Q1.qf)), (Q1.qe, .inl (cL, (3 * Q1.C), .inr (.inl Q1.ef)))]) [3, 0, 1, 2, 4, 5] (by decide) rfl
    have hP := hP.sub (ws' := [(mo, .inr (13, MF 30 (rf (rs v Q1 o) i br))), (qx, .inl (cB, NN, .inl f)), (Q1.qq, .inl (cI, (8 * Q1.C), .inl Q1.qf)), (Q1.qe, .inl (cL, (3 * Q1.C), .inr (.inl Q1.ef))), (tv, .inr (12, MF 13 (tw V))), (V.au, .inl (cC, V.U, .inl V.un))]) [0, 1, 4, 5, 2, 3] rfl
    have hD := hD.sub (ws' := [(mo, .inr (13, MF 30 (rf (rs v Q1 o) i br))), (qx, .inl (cB, NN, .inl f)), (Q1.qq, .inl (cI, (8 * Q1.C), .inl Q1.qf)), (Q1.qe, .inl (cL, (3 * Q1.C), .inr (.inl Q1.ef))), (tv, .inr (12, MF 13 (tw V))), (V.au, .inl (cC, V.U, .inl V.un))]) [0, 1, 4, 5, 2, 3] (by decide) rfl
    have hr0 : r0 = nI Q.R := hr0
    subst hr0
    have hqb_Q1V : Q1.R ≤ Q1.C ∧ Q1.C ≤ 100000 := ⟨hQk_Q1.2.2.1, hQk_Q1.2.1⟩
    have hfit_Q1V := hG_Q1V.fits
    have hE_Q1 : alr Q V Q1 V 0 Q.R := ⟨fun r9 k9 _ h1 h2 => hA_Q1.2.2.1 _ (by omega), ⟨fun r9 k9 _ h1 h2 => hA_Q1.2.2.2.1.2 _ (by omega), Nat.le_refl _, fun _ _ => rfl⟩⟩
    have hk0_Q1 : Q1.qf (8 * Q.R + 0) = 3 := hA_Q1.2.2.2.2.1
    have hl1_Q1 : Q1.qf (8 * Q.R + 1) = -1 := hA_Q1.2.2.2.2.2 1 (by decide) (by decide)
    have hEx_Q1V : alr Q V Q1 V 0 Q.R := hE_Q1
    refine lv_istore_n (lv' := [(3, .int (nI Q.R)), (0, .ref mo), (1, .int 0), (2, .int r1)]) hx hb d_Mo_selector_190 rfl hl (by decide) rfl (fun ls hl => ?_)
    refine lv_aload_n hx hb d_Mo_selector_191 rfl (lv_at hl 1 rfl) ?_
    refine lv_iload_n hx hb d_Mo_selector_192 rfl (lv_at hl 0 rfl) ?_
    refine lv_iconst (v := 2) hx hb d_Mo_selector_193 (by decide) ?_
    refine lv_iconst (v := 0) hx hb d_Mo_selector_194 (by decide) ?_
    refine W.eq (g2 := F0 m 195 ls [.int 0, .int (nI 2), .int (nI Q.R), .ref mo]) rfl ?_
    have hPc := hP.sub (ws' := [(mo, .inr (13, MF 30 (rf (rs v Q1 o) i br))), (Q1.qq, .inl (cI, (8 * Q1.C), .inl Q1.qf))]) [0, 2] rfl
    have hDc := hD.sub (ws' := [(mo, .inr (13, MF 30 (rf (rs v Q1 o) i br))), (Q1.qq, .inl (cI, (8 * Q1.C), .inl Q1.qf))]) [0, 2] (by decide) rfl
    have hKc := hK.sub (tys' := [(cI, .int)]) [1] rfl
    have hFc := va_free (wc := [(mo, .inr (13, MF 30 (rf (rs v Q1 o) i br))), (Q1.qq, .inl (cI, (8 * Q1.C), .inl Q1.qf))]) hD hS hA [0, 2] rfl
    refine va_callv (va_runV (As := [.int (nI Q.R), .int (nI 2), .int 0]) (rest := []) ⟨hx, hb, hml, hown, hts⟩ (c_Mo_set l dC dI mo H (rf (rs v Q1 o) i br) cI Q1.qq (8 * Q1.C) Q1.qf Q.R 2 0 (by omega) (by omega) ((rf_ne (by decide) (by decide)).trans rs_19)) (cwV 3 hts (gt_V (own := R_Mo) (C := R_Mo) (i := 272) (y := y_Mo_set) i_Mo_set w_1411 w_1413 (gt_sel (y := y_Mo_set) (n := 30) (by decide +kernel)) w_7) rfl rfl rfl (by decide +kernel) ⟨Nat.le_trans (m := 7) (Nat.le_of_ble_eq_true rfl) (Nat.le_add_right 7 F), Nat.le_trans (m := 200) (Nat.le_of_ble_eq_true rfl) (Nat.le_add_right 200 L)⟩) ⟨mp_blind, va_recv hKc hPc (ci := 13) (q0 := 0) rfl rfl, fun U hU hW => ⟨rfl, hU, by rw [hU]; exact hPc, va_K.moved hW.alike hKc, hDc.weaken (fun _ _ _ _ => trivial)⟩⟩ rfl rfl hl.1 rfl (lv_room (Nat.le_of_ble_eq_true rfl)) d_Mo_selector_195 ⟨hfit_Q1V.1, hfit_Q1V.2⟩) hS (fun q _ h => hFc q h) hFc (fun _u t9 H1 locs ht hvm hw hB hz1 hk1 hS => ?_)
    obtain ⟨hP1, hK1, hD1⟩ := hB
    rw [ht] at hP1
    obtain ⟨hP, hD⟩ := va_join (wr := [(qx, .inl (cB, NN, .inl f)), (Q1.qe, .inl (cL, (3 * Q1.C), .inr (.inl Q1.ef))), (tv, .inr (12, MF 13 (tw V))), (V.au, .inl (cC, V.U, .inl V.un))]) (w1 := [(mo, .inr (13, MF 30 (rf (rs v Q1 o) i br))), (Q1.qq, .inl (cI, (8 * Q1.C), .inl (upd Q1.qf (8 * Q.R + 2) 0)))]) hP hD [0, 2] [1, 3, 4, 5] rfl rfl (by decide) (by decide) hk1 hFc hP1 hD1
    generalize H1 = H at hP hS ⊢
    have hP : va_P (dC, dI) classes [(qx, .inl (cB, NN, .inl f)), (Q1.qe, .inl (cL, (3 * Q1.C), .inr (.inl Q1.ef))), (tv, .inr (12, MF 13 (tw V))), (V.au, .inl (cC, V.U, .inl V.un)), (mo, .inr (13, MF 30 (rf (rs v Q1 o) i br))), (Q1.qq, .inl (cI, (8 * Q1.C), .inl (upd Q1.qf (8 * Q.R + 2) 0)))] H := hP
    have hD : va_D A [(qx, .inl (cB, NN, .inl f)), (Q1.qe, .inl (cL, (3 * Q1.C), .inr (.inl Q1.ef))), (tv, .inr (12, MF 13 (tw V))), (V.au, .inl (cC, V.U, .inl V.un)), (mo, .inr (13, MF 30 (rf (rs v Q1 o) i br))), (Q1.qq, .inl (cI, (8 * Q1.C), .inl (upd Q1.qf (8 * Q.R + 2) 0)))] := hD
    have hP := hP.sub (ws' := [(mo, .inr (13, MF 30 (rf (rs v Q1 o) i br))), (qx, .inl (cB, NN, .inl f)), (Q1.qq, .inl (cI, (8 * Q1.C), .inl (upd Q1.qf (8 * Q.R + 2) 0))), (Q1.qe, .inl (cL, (3 * Q1.C), .inr (.inl Q1.ef))), (tv, .inr (12, MF 13 (tw V))), (V.au, .inl (cC, V.U, .inl V.un))]) [4, 0, 5, 1, 2, 3] rfl
    have hD := hD.sub (ws' := [(mo, .inr (13, MF 30 (rf (rs v Q1 o) i br))), (qx, .inl (cB, NN, .inl f)), (Q1.qq, .inl (cI, (8 * Q1.C), .inl (upd Q1.qf (8 * Q.R + 2) 0))), (Q1.qe, .inl (cL, (3 * Q1.C), .inr (.inl Q1.ef))), (tv, .inr (12, MF 13 (tw V))), (V.au, .inl (cC, V.U, .inl V.un))]) [4, 0, 5, 1, 2, 3] (by decide) rfl
    obtain ⟨Q2, e_Q2⟩ : ∃ z : QS, z = QS.wf Q1 (upd Q1.qf (8 * Q.R + 2) 0) := ⟨_, rfl⟩
    have hP : va_P (dC, dI) classes [(mo, .inr (13, MF 30 (rf (rs v Q2 o) i br))), (qx, .inl (cB, NN, .inl f)), (Q2.qq, .inl (cI, (8 * Q2.C), .inl Q2.qf)), (Q2.qe, .inl (cL, (3 * Q2.C), .inr (.inl Q2.ef))), (tv, .inr (12, MF 13 (tw V))), (V.au, .inl (cC, V.U, .inl V.un))] H := by subst e_Q2; exact hP
    have hD : va_D A [(mo, .inr (13, MF 30 (rf (rs v Q2 o) i br))), (qx, .inl (cB, NN, .inl f)), (Q2.qq, .inl (cI, (8 * Q2.C), .inl Q2.qf)), (Q2.qe, .inl (cL, (3 * Q2.C), .inr (.inl Q2.ef))), (tv, .inr (12, MF 13 (tw V))), (V.au, .inl (cC, V.U, .inl V.un))] := by subst e_Q2; exact hD
    have hf_Q2 : Q2.C = Q1.C ∧ Q2.R = Q1.R ∧ Q2.qf = upd Q1.qf (8 * Q.R + 2) 0 := by rw [e_Q2]; exact ⟨rfl, rfl, rfl⟩
    have he_Q2 : Q2.ef = Q1.ef := by rw [e_Q2]; rfl
    have hQk_Q2 : QOK Q2 := by rw [e_Q2]; exact hQk_Q1
    have hG_Q2V : GQ (Q.R + 8 * (n - i) + 4) (V.us + (n + 12 - i)) Q V Q2 V := by unfold GQ at hG_Q1V ⊢; rw [hf_Q2.1]; exact hG_Q1V
    refine w_same (fun hq => ?_)
    refine w_tight (k := cQ Q V Q2 V) (n := sQ Q V Q2 V) (by unfold cQ sQ at hq ⊢; rw [hf_Q2.1]; exact hq) ?_
    have hR_Q2 := hf_Q2.2.1
    have hqb_Q2V : Q2.R ≤ Q2.C ∧ Q2.C ≤ 100000 := ⟨hQk_Q2.2.2.1, hQk_Q2.2.1⟩
    have hfit_Q2V := hG_Q2V.fits
    have hk0_Q2 : Q2.qf (8 * Q.R + 0) = 3 := by rw [hf_Q2.2.2, pk_un (by omega)]; exact hk0_Q1
    have hl1_Q2 : Q2.qf (8 * Q.R + 1) = -1 := by rw [hf_Q2.2.2, pk_un (by omega)]; exact hl1_Q1
    have hEx_Q2V : alr Q V Q2 V 0 Q.R := hEx_Q1V.tr (alr.upd hf_Q2.2.2 he_Q2 (by decide) (by omega))
    refine w_join (D := (dC, dI)) (cl := classes) (A := A) (H0 := s.heap) (nL := 5) 246 (σ := QS × Nat × Int32 × Option Int64) (fun ⟨Qy, j0, b0, a0⟩ => QOK Qy ∧ GQ (Q.R + 8 * (n - i) + 4) (V.us + (n + 12 - i)) Q V Qy V ∧ Qy.R = Q.R + 1 ∧ Qy.qf (8 * Q.R + 1) = -1 ∧ alr Q V Qy V 0 Q.R ∧ i ≤ j0 ∧ j0 < n ∧ selP f n (orL f n) false i = (slP f n j0).map (fun j => (j.1, false, slcS a0 j.2.1 j.2.2)) ∧ slA Qy Q.R a0) (fun ⟨Qy, j0, b0, a0⟩ => cQ Q V Qy V) (fun ⟨Qy, j0, b0, a0⟩ => sQ Q V Qy V) (fun ⟨Qy, j0, b0, a0⟩ => [(mo, .inr (13, MF 30 (rf (rs v Qy o) j0 b0))), (qx, .inl (cB, NN, .inl f)), (Qy.qq, .inl (cI, (8 * Qy.C), .inl Qy.qf)), (Qy.qe, .inl (cL, (3 * Qy.C), .inr (.inl Qy.ef))), (tv, .inr (12, MF 13 (tw V))), (V.au, .inl (cC, V.U, .inl V.un))]) (fun ⟨Qy, j0, b0, a0⟩ => [(0, .ref mo), (1, .int 0), (2, .int r1), (3, .int (nI Q.R))]) (fun jn246 => ?_) ?_
    · refine lv_iload_n hx hb d_Mo_selector_198 rfl (lv_at hl 3 rfl) ?_
      refine lv_bipush (v := 58) hx hb d_Mo_selector_199 (by decide) ?_
      refine lv_icmp_eq (tgt := 246) hx hb d_Mo_selector_201 (by decide) (fun c201 => ?_) (fun c201 => ?_)
      · have h2_Q2 : Q2.qf (8 * Q.R + 2) = 0 := by rw [hf_Q2.2.2]; exact pk_us
        have hs9 : selP f n (orL f n) false i = (slP f n i).map (fun j => (j.1, false, slcS none j.2.1 j.2.2)) := by rw [hCn]; unfold selT; rw [if_pos (h_r1.symm.trans c201)]
        exact jn246 (Q2, i, br, none) _ _ _ ⟨hQk_Q2, hG_Q2V, by show Q2.R = Q.R + 1; omega, hl1_Q2, hEx_Q2V, by show i ≤ i; omega, hlt185, hs9, slA.st h2_Q2⟩ hP hD hS (lv_sub hl [1, 2, 3, 0] rfl)
      · refine lv_aload_n hx hb d_Mo_selector_204 rfl (lv_at hl 1 rfl) ?_
        refine lv_iload_n hx hb d_Mo_selector_205 rfl (lv_at hl 0 rfl) ?_
        refine lv_iconst (v := 0) hx hb d_Mo_selector_206 (by decide) ?_
        refine W.eq (g2 := F0 m 207 ls [.int (nI 0), .int (nI Q.R), .ref mo]) rfl ?_
        have hPc := hP.sub (ws' := [(mo, .inr (13, MF 30 (rf (rs v Q2 o) i br))), (qx, .inl (cB, NN, .inl f)), (Q2.qq, .inl (cI, (8 * Q2.C), .inl Q2.qf)), (Q2.qe, .inl (cL, (3 * Q2.C), .inr (.inl Q2.ef)))]) [0, 1, 2, 3] rfl
        have hDc := hD.sub (ws' := [(mo, .inr (13, MF 30 (rf (rs v Q2 o) i br))), (qx, .inl (cB, NN, .inl f)), (Q2.qq, .inl (cI, (8 * Q2.C), .inl Q2.qf)), (Q2.qe, .inl (cL, (3 * Q2.C), .inr (.inl Q2.ef)))]) [0, 1, 2, 3] (by decide) rfl
        have hKc := hK.sub (tys' := [(cB, .byte), (cI, .int), (cL, .long)]) [0, 1, 2] rfl
        have hFc := va_free (wc := [(mo, .inr (13, MF 30 (rf (rs v Q2 o) i br))), (qx, .inl (cB, NN, .inl f)), (Q2.qq, .inl (cI, (8 * Q2.C), .inl Q2.qf)), (Q2.qe, .inl (cL, (3 * Q2.C), .inr (.inl Q2.ef)))]) hD hS hA [0, 1, 2, 3] rfl
        refine va_calli (va_runV (As := [.int (nI Q.R), .int (nI 0)]) (rest := []) ⟨hx, hb, hml, hown, hts⟩ (c_Mo_whole l dC dI mo H v cB cI cL qx NN f n Q2 o i br Q.R 0 hnN (by omega) (by omega) h6 h8 hQk_Q2 (by omega) (by decide)) (cwV 2 hts (gt_V (own := R_Mo) (C := R_Mo) (i := 303) (y := y_Mo_whole) i_Mo_whole w_1465 w_1467 (gt_sel (y := y_Mo_whole) (n := 30) (by decide +kernel)) w_7) rfl rfl rfl (by decide +kernel) ⟨Nat.le_trans (m := 7) (Nat.le_of_ble_eq_true rfl) (Nat.le_add_right 7 F), Nat.le_trans (m := 200) (Nat.le_of_ble_eq_true rfl) (Nat.le_add_right 200 L)⟩) ⟨mp_blind, va_recv hKc hPc (ci := 13) (q0 := 0) rfl rfl, fun U hU hW => ⟨rfl, hU, by rw [hU]; exact hPc, va_K.moved hW.alike hKc, hDc.weaken (fun _ _ _ _ => trivial)⟩⟩ rfl rfl hl.1 rfl (lv_room (Nat.le_of_ble_eq_true rfl)) d_Mo_selector_207 ⟨hfit_Q2V.1, hfit_Q2V.2⟩) hS (fun q _ h => hFc q h) hFc (fun r0 ⟨j3, b_j3, qf2, ef2⟩ t9 H1 locs ht hvm hw hB hz1 hk1 hS => ?_)
        obtain ⟨hP1, hK1, hD1⟩ := hB
        rw [ht] at hP1
        obtain ⟨hP, hD⟩ := va_join (wr := [(tv, .inr (12, MF 13 (tw V))), (V.au, .inl (cC, V.U, .inl V.un))]) (w1 := [(mo, .inr (13, MF 30 (rf (rs v Q2 o) j3 b_j3))), (qx, .inl (cB, NN, .inl f)), (Q2.qq, .inl (cI, (8 * Q2.C), .inl qf2)), (Q2.qe, .inl (cL, (3 * Q2.C), .inr (.inl ef2)))]) hP hD [0, 1, 2, 3] [4, 5] rfl rfl (by decide) (by decide) hk1 hFc hP1 hD1
        generalize H1 = H at hP hS ⊢
        have hP : va_P (dC, dI) classes [(tv, .inr (12, MF 13 (tw V))), (V.au, .inl (cC, V.U, .inl V.un)), (mo, .inr (13, MF 30 (rf (rs v Q2 o) j3 b_j3))), (qx, .inl (cB, NN, .inl f)), (Q2.qq, .inl (cI, (8 * Q2.C), .inl qf2)), (Q2.qe, .inl (cL, (3 * Q2.C), .inr (.inl ef2)))] H := hP
        have hD : va_D A [(tv, .inr (12, MF 13 (tw V))), (V.au, .inl (cC, V.U, .inl V.un)), (mo, .inr (13, MF 30 (rf (rs v Q2 o) j3 b_j3))), (qx, .inl (cB, NN, .inl f)), (Q2.qq, .inl (cI, (8 * Q2.C), .inl qf2)), (Q2.qe, .inl (cL, (3 * Q2.C), .inr (.inl ef2)))] := hD
        have hP := hP.sub (ws' := [(mo, .inr (13, MF 30 (rf (rs v Q2 o) j3 b_j3))), (qx, .inl (cB, NN, .inl f)), (Q2.qq, .inl (cI, (8 * Q2.C), .inl qf2)), (Q2.qe, .inl (cL, (3 * Q2.C), .inr (.inl ef2))), (tv, .inr (12, MF 13 (tw V))), (V.au, .inl (cC, V.U, .inl V.un))]) [2, 3, 4, 5, 0, 1] rfl
        have hD := hD.sub (ws' := [(mo, .inr (13, MF 30 (rf (rs v Q2 o) j3 b_j3))), (qx, .inl (cB, NN, .inl f)), (Q2.qq, .inl (cI, (8 * Q2.C), .inl qf2)), (Q2.qe, .inl (cL, (3 * Q2.C), .inr (.inl ef2))), (tv, .inr (12, MF 13 (tw V))), (V.au, .inl (cC, V.U, .inl V.un))]) [2, 3, 4, 5, 0, 1] (by decide) rfl
        rcases hw with ⟨hw1, val_j3, hw2, hw3, hw4, hw5⟩ | ⟨hw1, hw2, hw3, hw4⟩
        · have hw_j3 : whM f n i = some (val_j3, j3) := hw2
          have hw3 : qf2 = upd Q2.qf (8 * Q.R + 2) (Q2.qf (8 * Q.R + 2) ||| 1 <<< (nI 0 &&& 31)) := hw3
          have hw4 : ef2 = vp_updL Q2.ef (3 * Q.R + 0) val_j3 := hw4
          have hn_j3 : j3 ≤ n := hw5
          have hlt_j3 := whM_lt hw_j3
          subst hw1
          obtain ⟨Qa, e_Qa⟩ : ∃ z : QS, z = QS.mk Q2.C Q2.R Q2.qq Q2.qe qf2 ef2 := ⟨_, rfl⟩
          have hP : va_P (dC, dI) classes [(mo, .inr (13, MF 30 (rf (rs v Qa o) j3 b_j3))), (qx, .inl (cB, NN, .inl f)), (Qa.qq, .inl (cI, (8 * Qa.C), .inl Qa.qf)), (Qa.qe, .inl (cL, (3 * Qa.C), .inr (.inl Qa.ef))), (tv, .inr (12, MF 13 (tw V))), (V.au, .inl (cC, V.U, .inl V.un))] H := by subst e_Qa; exact hP
          have hD : va_D A [(mo, .inr (13, MF 30 (rf (rs v Qa o) j3 b_j3))), (qx, .inl (cB, NN, .inl f)), (Qa.qq, .inl (cI, (8 * Qa.C), .inl Qa.qf)), (Qa.qe, .inl (cL, (3 * Qa.C), .inr (.inl Qa.ef))), (tv, .inr (12, MF 13 (tw V))), (V.au, .inl (cC, V.U, .inl V.un))] := by subst e_Qa; exact hD
          have hf_Qa : Qa.C = Q2.C ∧ Qa.R = Q2.R ∧ Qa.qf = qf2 := by rw [e_Qa]; exact ⟨rfl, rfl, rfl⟩
          have he_Qa : Qa.ef = vp_updL Q2.ef (3 * Q.R + 0) val_j3 := by rw [e_Qa]; exact hw4
          have h2_Qa : Qa.qf (8 * Q.R + 2) = Q2.qf (8 * Q.R + 2) ||| 1 <<< (nI 0 &&& 31) := by rw [hf_Qa.2.2, hw3]; exact pk_us
          have hev_Qa : Qa.ef (3 * Q.R + 0) = val_j3 := by rw [he_Qa]; exact updL_s
          have hQk_Qa : QOK Qa := by rw [e_Qa, hw4]; exact ⟨hQk_Q2.1, hQk_Q2.2.1, hQk_Q2.2.2.1, QOK_upd hQk_Q2.2.2.2 (whM_gL hw_j3)⟩
          have hG_QaV : GQ (Q.R + 8 * (n - i) + 4) (V.us + (n + 12 - i)) Q V Qa V := by unfold GQ at hG_Q2V ⊢; rw [hf_Qa.1]; exact hG_Q2V
          refine w_same (fun hq => ?_)
          refine w_tight (k := cQ Q V Qa V) (n := sQ Q V Qa V) (by unfold cQ sQ at hq ⊢; rw [hf_Qa.1]; exact hq) ?_
          have hR_Qa := hf_Qa.2.1
          have hqb_QaV : Qa.R ≤ Qa.C ∧ Qa.C ≤ 100000 := ⟨hQk_Qa.2.2.1, hQk_Qa.2.1⟩
          have hfit_QaV := hG_QaV.fits
          have hk0_Qa : Qa.qf (8 * Q.R + 0) = 3 := by rw [hf_Qa.2.2, hw3, pk_un (by omega)]; exact hk0_Q2
          have hl1_Qa : Qa.qf (8 * Q.R + 1) = -1 := by rw [hf_Qa.2.2, hw3, pk_un (by omega)]; exact hl1_Q2
          have hEx_QaV : alr Q V Qa V 0 Q.R := hEx_Q2V.tr (alr_who (hf_Qa.2.2.trans hw3) he_Qa (by decide) (by omega))
          refine lv_if_ne (tgt := 215) hx hb d_Mo_selector_210 (by decide) (fun _ => ?_) (fun h => absurd h (by decide))
          refine lv_aload_n hx hb d_Mo_selector_215 rfl (lv_at hl 1 rfl) ?_
          refine va_get (D := (dC, dI)) (ci := 13) (v := .int (nI j3)) (C := R_Mo) (T := F_Mo) (N := 30) hx hb hts in_Mo hown hK hP 0 rfl rfl 7 (by decide) (hts _ w_1096) (fun _ h9 => h9) (MFg (by decide) rf_7) d_Mo_selector_216 ?_
          refine lv_istore (lv' := [(4, .int (nI j3)), (3, .int (nI Q.R)), (0, .ref mo), (1, .int 0), (2, .int r1)]) hx hb d_Mo_selector_219 hl (by decide) rfl (fun ls hl => ?_)
          refine lv_aload_n hx hb d_Mo_selector_221 rfl (lv_at hl 2 rfl) ?_
          have hPc := hP.sub (ws' := [(mo, .inr (13, MF 30 (rf (rs v Qa o) j3 b_j3))), (qx, .inl (cB, NN, .inl f))]) [0, 1] rfl
          have hDc := hD.sub (ws' := [(mo, .inr (13, MF 30 (rf (rs v Qa o) j3 b_j3))), (qx, .inl (cB, NN, .inl f))]) [0, 1] (by decide) rfl
          have hKc := hK.sub (tys' := [(cB, .byte)]) [0] rfl
          have hFc := va_free (wc := [(mo, .inr (13, MF 30 (rf (rs v Qa o) j3 b_j3))), (qx, .inl (cB, NN, .inl f))]) hD hS hA [0, 1] rfl
          refine va_callv (va_runV (As := []) (rest := []) ⟨hx, hb, hml, hown, hts⟩ (c_Mo_blanks l dC dI mo H (rf (rs v Qa o) j3 b_j3) cB qx NN f n j3 (by omega) (by omega) (by omega) ((rf_ne (by decide) (by decide)).trans ((rs_ne (by decide) (by decide) (by decide) (by decide)).trans h6)) rf_7 ((rf_ne (by decide) (by decide)).trans ((rs_ne (by decide) (by decide) (by decide) (by decide)).trans h8))) (cwV 0 hts (gt_V (own := R_Mo) (C := R_Mo) (i := 184) (y := y_Mo_blanks) i_Mo_blanks w_1229 w_1231 (gt_sel (y := y_Mo_blanks) (n := 30) (by decide +kernel)) w_7) rfl rfl rfl (by decide +kernel) ⟨Nat.le_trans (m := 7) (Nat.le_of_ble_eq_true rfl) (Nat.le_add_right 7 F), Nat.le_trans (m := 200) (Nat.le_of_ble_eq_true rfl) (Nat.le_add_right 200 L)⟩) ⟨mp_blind, va_recv hKc hPc (ci := 13) (q0 := 0) rfl rfl, fun U hU hW => ⟨rfl, hU, by rw [hU]; exact hPc, va_K.moved hW.alike hKc, hDc.weaken (fun _ _ _ _ => trivial)⟩⟩ rfl rfl hl.1 rfl (lv_room (Nat.le_of_ble_eq_true rfl)) d_Mo_selector_222 ⟨hfit_QaV.1, hfit_QaV.2⟩) hS (fun q _ h => hFc q h) hFc (fun _u t9 H1 locs ht hvm hw hB hz1 hk1 hS => ?_)
          obtain ⟨hP1, hK1, hD1⟩ := hB
          rw [ht] at hP1
          obtain ⟨hP, hD⟩ := va_join (wr := [(Qa.qq, .inl (cI, (8 * Qa.C), .inl Qa.qf)), (Qa.qe, .inl (cL, (3 * Qa.C), .inr (.inl Qa.ef))), (tv, .inr (12, MF 13 (tw V))), (V.au, .inl (cC, V.U, .inl V.un))]) (w1 := [(mo, .inr (13, MF 30 (va_up (rf (rs v Qa o) j3 b_j3) 7 (.int (nI (skipH f n j3)))))), (qx, .inl (cB, NN, .inl f))]) hP hD [0, 1] [2, 3, 4, 5] rfl rfl (by decide) (by decide) hk1 hFc hP1 hD1
          generalize H1 = H at hP hS ⊢
          have hP : va_P (dC, dI) classes [(Qa.qq, .inl (cI, (8 * Qa.C), .inl Qa.qf)), (Qa.qe, .inl (cL, (3 * Qa.C), .inr (.inl Qa.ef))), (tv, .inr (12, MF 13 (tw V))), (V.au, .inl (cC, V.U, .inl V.un)), (mo, .inr (13, MF 30 (va_up (rf (rs v Qa o) j3 b_j3) 7 (.int (nI (skipH f n j3)))))), (qx, .inl (cB, NN, .inl f))] H := hP
          have hD : va_D A [(Qa.qq, .inl (cI, (8 * Qa.C), .inl Qa.qf)), (Qa.qe, .inl (cL, (3 * Qa.C), .inr (.inl Qa.ef))), (tv, .inr (12, MF 13 (tw V))), (V.au, .inl (cC, V.U, .inl V.un)), (mo, .inr (13, MF 30 (va_up (rf (rs v Qa o) j3 b_j3) 7 (.int (nI (skipH f n j3)))))), (qx, .inl (cB, NN, .inl f))] := hD
          have hP := hP.sub (ws' := [(mo, .inr (13, MF 30 (va_up (rf (rs v Qa o) j3 b_j3) 7 (.int (nI (skipH f n j3)))))), (qx, .inl (cB, NN, .inl f)), (Qa.qq, .inl (cI, (8 * Qa.C), .inl Qa.qf)), (Qa.qe, .inl (cL, (3 * Qa.C), .inr (.inl Qa.ef))), (tv, .inr (12, MF 13 (tw V))), (V.au, .inl (cC, V.U, .inl V.un))]) [4, 5, 0, 1, 2, 3] rfl
          have hD := hD.sub (ws' := [(mo, .inr (13, MF 30 (va_up (rf (rs v Qa o) j3 b_j3) 7 (.int (nI (skipH f n j3)))))), (qx, .inl (cB, NN, .inl f)), (Qa.qq, .inl (cI, (8 * Qa.C), .inl Qa.qf)), (Qa.qe, .inl (cL, (3 * Qa.C), .inr (.inl Qa.ef))), (tv, .inr (12, MF 13 (tw V))), (V.au, .inl (cC, V.U, .inl V.un))]) [4, 5, 0, 1, 2, 3] (by decide) rfl
          rw [rf_u7] at hP hD
          have hP : va_P (dC, dI) classes [(mo, .inr (13, MF 30 (rf (rs v Qa o) (skipH f n j3) b_j3))), (qx, .inl (cB, NN, .inl f)), (Qa.qq, .inl (cI, (8 * Qa.C), .inl Qa.qf)), (Qa.qe, .inl (cL, (3 * Qa.C), .inr (.inl Qa.ef))), (tv, .inr (12, MF 13 (tw V))), (V.au, .inl (cC, V.U, .inl V.un))] H := hP
          have hD : va_D A [(mo, .inr (13, MF 30 (rf (rs v Qa o) (skipH f n j3) b_j3))), (qx, .inl (cB, NN, .inl f)), (Qa.qq, .inl (cI, (8 * Qa.C), .inl Qa.qf)), (Qa.qe, .inl (cL, (3 * Qa.C), .inr (.inl Qa.ef))), (tv, .inr (12, MF 13 (tw V))), (V.au, .inl (cC, V.U, .inl V.un))] := hD
          have hsk_225 := skipH_n (f := f) (show j3 ≤ n by omega)
          refine lv_aload_n hx hb d_Mo_selector_225 rfl (lv_at hl 2 rfl) ?_
          have hPc := hP.sub (ws' := [(mo, .inr (13, MF 30 (rf (rs v Qa o) (skipH f n j3) b_j3))), (qx, .inl (cB, NN, .inl f))]) [0, 1] rfl
          have hDc := hD.sub (ws' := [(mo, .inr (13, MF 30 (rf (rs v Qa o) (skipH f n j3) b_j3))), (qx, .inl (cB, NN, .inl f))]) [0, 1] (by decide) rfl
          have hKc := hK.sub (tys' := [(cB, .byte)]) [0] rfl
          have hFc := va_free (wc := [(mo, .inr (13, MF 30 (rf (rs v Qa o) (skipH f n j3) b_j3))), (qx, .inl (cB, NN, .inl f))]) hD hS hA [0, 1] rfl
          refine va_calli (va_runV (As := []) (rest := []) ⟨hx, hb, hml, hown, hts⟩ (c_Mo_c l dC dI mo H (rf (rs v Qa o) (skipH f n j3) b_j3) cB qx NN f n (skipH f n j3) (by omega) (by omega) (by omega) ((rf_ne (by decide) (by decide)).trans ((rs_ne (by decide) (by decide) (by decide) (by decide)).trans h6)) rf_7 ((rf_ne (by decide) (by decide)).trans ((rs_ne (by decide) (by decide) (by decide) (by decide)).trans h8))) (cwV 0 hts (gt_V (own := R_Mo) (C := R_Mo) (i := 147) (y := y_Mo_c) i_Mo_c w_1233 w_1235 (gt_sel (y := y_Mo_c) (n := 30) (by decide +kernel)) w_7) rfl rfl rfl (by decide +kernel) ⟨Nat.le_trans (m := 7) (Nat.le_of_ble_eq_true rfl) (Nat.le_add_right 7 F), Nat.le_trans (m := 200) (Nat.le_of_ble_eq_true rfl) (Nat.le_add_right 200 L)⟩) ⟨mp_blind, va_recv hKc hPc (ci := 13) (q0 := 0) rfl rfl, fun U hU hW => ⟨rfl, hU, by rw [hU]; exact hPc, va_K.moved hW.alike hKc, hDc.weaken (fun _ _ _ _ => trivial)⟩⟩ rfl rfl hl.1 rfl (lv_room (Nat.le_of_ble_eq_true rfl)) d_Mo_selector_226 ⟨hfit_QaV.1, hfit_QaV.2⟩) hS (fun q _ h => hFc q h) hFc (fun r2 _u t9 H1 locs ht hvm hw hB hz1 hk1 hS => ?_)
          obtain ⟨hP1, hK1, hD1⟩ := hB
          rw [ht] at hP1
          obtain ⟨hP, hD⟩ := va_join (wr := [(Qa.qq, .inl (cI, (8 * Qa.C), .inl Qa.qf)), (Qa.qe, .inl (cL, (3 * Qa.C), .inr (.inl Qa.ef))), (tv, .inr (12, MF 13 (tw V))), (V.au, .inl (cC, V.U, .inl V.un))]) (w1 := [(mo, .inr (13, MF 30 (rf (rs v Qa o) (skipH f n j3) b_j3))), (qx, .inl (cB, NN, .inl f))]) hP hD [0, 1] [2, 3, 4, 5] rfl rfl (by decide) (by decide) hk1 hFc hP1 hD1
          generalize H1 = H at hP hS ⊢
          have hP : va_P (dC, dI) classes [(Qa.qq, .inl (cI, (8 * Qa.C), .inl Qa.qf)), (Qa.qe, .inl (cL, (3 * Qa.C), .inr (.inl Qa.ef))), (tv, .inr (12, MF 13 (tw V))), (V.au, .inl (cC, V.U, .inl V.un)), (mo, .inr (13, MF 30 (rf (rs v Qa o) (skipH f n j3) b_j3))), (qx, .inl (cB, NN, .inl f))] H := hP
          have hD : va_D A [(Qa.qq, .inl (cI, (8 * Qa.C), .inl Qa.qf)), (Qa.qe, .inl (cL, (3 * Qa.C), .inr (.inl Qa.ef))), (tv, .inr (12, MF 13 (tw V))), (V.au, .inl (cC, V.U, .inl V.un)), (mo, .inr (13, MF 30 (rf (rs v Qa o) (skipH f n j3) b_j3))), (qx, .inl (cB, NN, .inl f))] := hD
          have hP := hP.sub (ws' := [(mo, .inr (13, MF 30 (rf (rs v Qa o) (skipH f n j3) b_j3))), (qx, .inl (cB, NN, .inl f)), (Qa.qq, .inl (cI, (8 * Qa.C), .inl Qa.qf)), (Qa.qe, .inl (cL, (3 * Qa.C), .inr (.inl Qa.ef))), (tv, .inr (12, MF 13 (tw V))), (V.au, .inl (cC, V.U, .inl V.un))]) [4, 5, 0, 1, 2, 3] rfl
          have hD := hD.sub (ws' := [(mo, .inr (13, MF 30 (rf (rs v Qa o) (skipH f n j3) b_j3))), (qx, .inl (cB, NN, .inl f)), (Qa.qq, .inl (cI, (8 * Qa.C), .inl Qa.qf)), (Qa.qe, .inl (cL, (3 * Qa.C), .inr (.inl Qa.ef))), (tv, .inr (12, MF 13 (tw V))), (V.au, .inl (cC, V.U, .inl V.un))]) [4, 5, 0, 1, 2, 3] (by decide) rfl
          have h_r2 : r2 = hereV f n (skipH f n j3) := hw
          refine lv_bipush (v := 58) hx hb d_Mo_selector_229 (by decide) ?_
          refine lv_icmp_ne (tgt := 238) hx hb d_Mo_selector_231 (by decide) (fun c231 => ?_) (fun c231 => ?_)
          · refine lv_aload_n hx hb d_Mo_selector_238 rfl (lv_at hl 2 rfl) ?_
            refine lv_iload hx hb d_Mo_selector_239 (lv_at hl 0 rfl) ?_
            refine va_put (D := (dC, dI)) (ci := 13) (v := .int (nI j3)) (ty := .int) (C := R_Mo) (T := F_Mo) (N := 30) hx hb hts in_Mo t_Mo t_Mo_ok n_Mo hown hK hP hD hS 0 rfl rfl 7 (by decide) (hts _ w_1096) (fun _ h9 => h9) rfl (by decide +kernel) rfl rfl (by rw [MFl]; decide) d_Mo_selector_241 (fun H locs hP hD hS => ?_)
            rw [MFs (n := 30) (k := 7) (by decide)] at hP hD
            have hP : va_P (dC, dI) classes [(mo, .inr (13, MF 30 (va_up (rf (rs v Qa o) (skipH f n j3) b_j3) 7 (.int (nI j3))))), (qx, .inl (cB, NN, .inl f)), (Qa.qq, .inl (cI, (8 * Qa.C), .inl Qa.qf)), (Qa.qe, .inl (cL, (3 * Qa.C), .inr (.inl Qa.ef))), (tv, .inr (12, MF 13 (tw V))), (V.au, .inl (cC, V.U, .inl V.un))] H := hP
            have hD : va_D A [(mo, .inr (13, MF 30 (va_up (rf (rs v Qa o) (skipH f n j3) b_j3) 7 (.int (nI j3))))), (qx, .inl (cB, NN, .inl f)), (Qa.qq, .inl (cI, (8 * Qa.C), .inl Qa.qf)), (Qa.qe, .inl (cL, (3 * Qa.C), .inr (.inl Qa.ef))), (tv, .inr (12, MF 13 (tw V))), (V.au, .inl (cC, V.U, .inl V.un))] := hD
            rw [rf_u7] at hP hD
            have hP : va_P (dC, dI) classes [(mo, .inr (13, MF 30 (rf (rs v Qa o) j3 b_j3))), (qx, .inl (cB, NN, .inl f)), (Qa.qq, .inl (cI, (8 * Qa.C), .inl Qa.qf)), (Qa.qe, .inl (cL, (3 * Qa.C), .inr (.inl Qa.ef))), (tv, .inr (12, MF 13 (tw V))), (V.au, .inl (cC, V.U, .inl V.un))] H := hP
            have hD : va_D A [(mo, .inr (13, MF 30 (rf (rs v Qa o) j3 b_j3))), (qx, .inl (cB, NN, .inl f)), (Qa.qq, .inl (cI, (8 * Qa.C), .inl Qa.qf)), (Qa.qe, .inl (cL, (3 * Qa.C), .inr (.inl Qa.ef))), (tv, .inr (12, MF 13 (tw V))), (V.au, .inl (cC, V.U, .inl V.un))] := hD
            refine lv_iload_n hx hb d_Mo_selector_244 rfl (lv_at hl 1 rfl) ?_
            have hfin : selP f n (orL f n) false i = some (j3, true, idxS val_j3) := by rw [hCn]; unfold selT; rw [if_neg (fun h => c201 (h_r1.trans h)), hw_j3]; exact if_pos (Or.inl (fun h => c231 (h_r2.trans h)))
            have hSE : SELp O Qa V Q.R Qa.R Q.R (idxS val_j3) := ⟨Nat.le_refl _, by omega, Or.inr (Or.inr (Or.inl ⟨hk0_Qa, by rw [hev_Qa]⟩))⟩
            refine w_same (fun hq => ?_)
            refine W.widen (k := kcap Q (Q.R + 8 * (n - i) + 4) + qcap V (V.us + (n + 12 - i))) (n := 22 * kcap Q (Q.R + 8 * (n - i) + 4) + 2 * qcap V (V.us + (n + 12 - i))) hfit_QaV.1 hfit_QaV.2 ?_
            have hPo : QPo n i 4 Q V (Qa, V, j3, b_j3, o) := ⟨hQk_Qa, hG_QaV, ⟨[], TX.rf hTk_V, Nat.zero_le _⟩, by show Q.R ≤ Qa.R; omega, by show Qa.R ≤ Q.R + 8 * (n - i) + 4; omega⟩
            exact W.iret (v := nI Q.R) hx hb hr (fun t9 ht hW => ⟨⟨nI Q.R, (Qa, V, j3, b_j3, o), rfl, ⟨hPo, Or.inl ⟨true, idxS val_j3, rfl, hfin, hSE, ⟨fun _ => by rw [hk0_Qa]; decide, fun _ => rfl⟩, hl1_Qa, hEx_QaV, by show Qa.R + 8 * i + 7 ≤ Q.R + 8 * j3; omega, by show V.us + i ≤ V.us + j3; omega, by show j3 ≤ n; omega, by show Q.R < Qa.R; omega, rfl⟩⟩, ⟨by rw [ht]; exact hP, va_K.moved hW.alike hK, hD⟩, by rw [ht]; exact hq⟩, hS.F ht⟩) hS.2.2 d_Mo_selector_245
          · refine lv_iload_n hx hb d_Mo_selector_234 rfl (lv_at hl 3 rfl) ?_
            refine lv_if_eq (tgt := 246) hx hb d_Mo_selector_235 (by decide) (fun _ => ?_) (fun h => absurd (by decide) h)
            have h2_Q2 : Q2.qf (8 * Q.R + 2) = 0 := by rw [hf_Q2.2.2]; exact pk_us
            have hlt246 := here_in (h_r2.symm.trans c231) (by decide)
            have hs9 : selP f n (orL f n) false i = (slP f n (skipH f n j3)).map (fun j => (j.1, false, slcS (some val_j3) j.2.1 j.2.2)) := by rw [hCn]; unfold selT; rw [if_neg (fun h => c201 (h_r1.trans h)), hw_j3]; exact if_neg (fun h => h.elim (fun q => q (h_r2.symm.trans c231)) (fun q => absurd q (by decide)))
            exact jn246 (Qa, (skipH f n j3), b_j3, some val_j3) _ _ _ ⟨hQk_Qa, hG_QaV, by show Qa.R = Q.R + 1; omega, hl1_Qa, hEx_QaV, by show i ≤ (skipH f n j3); omega, hlt246, hs9, slA.v h2_Q2 h2_Qa hev_Qa⟩ hP hD hS (lv_sub hl [2, 3, 4, 1] rfl)
        · have hw_j3 : whM f n i = none := hw2
          have hw3 : qf2 = Q2.qf := hw3
          have hw4 : ef2 = Q2.ef := hw4
          subst hw1
          subst hw3
          subst hw4
          have hP : va_P (dC, dI) classes [(mo, .inr (13, MF 30 (rf (rs v Q2 o) j3 b_j3))), (qx, .inl (cB, NN, .inl f)), (Q2.qq, .inl (cI, (8 * Q2.C), .inl Q2.qf)), (Q2.qe, .inl (cL, (3 * Q2.C), .inr (.inl Q2.ef))), (tv, .inr (12, MF 13 (tw V))), (V.au, .inl (cC, V.U, .inl V.un))] H := hP
          have hD : va_D A [(mo, .inr (13, MF 30 (rf (rs v Q2 o) j3 b_j3))), (qx, .inl (cB, NN, .inl f)), (Q2.qq, .inl (cI, (8 * Q2.C), .inl Q2.qf)), (Q2.qe, .inl (cL, (3 * Q2.C), .inr (.inl Q2.ef))), (tv, .inr (12, MF 13 (tw V))), (V.au, .inl (cC, V.U, .inl V.un))] := hD
          refine lv_if_ne (tgt := 215) hx hb d_Mo_selector_210 (by decide) (fun h => absurd h (by decide)) (fun _ => ?_)
          refine lv_iconst (v := (-1)) hx hb d_Mo_selector_213 (by decide) ?_
          have hfin : selP f n (orL f n) false i = none := by rw [hCn]; unfold selT; rw [if_neg (fun h => c201 (h_r1.trans h)), hw_j3]
          refine w_same (fun hq => ?_)
          refine W.widen (k := kcap Q (Q.R + 8 * (n - i) + 4) + qcap V (V.us + (n + 12 - i))) (n := 22 * kcap Q (Q.R + 8 * (n - i) + 4) + 2 * qcap V (V.us + (n + 12 - i))) hfit_Q2V.1 hfit_Q2V.2 ?_
          have hPo : QPo n i 4 Q V (Q2, V, j3, b_j3, o) := ⟨hQk_Q2, hG_Q2V, ⟨[], TX.rf hTk_V, Nat.zero_le _⟩, by show Q.R ≤ Q2.R; omega, by show Q2.R ≤ Q.R + 8 * (n - i) + 4; omega⟩
          exact W.iret (v := -1) hx hb hr (fun t9 ht hW => ⟨⟨-1, (Q2, V, j3, b_j3, o), rfl, ⟨hPo, Or.inr ⟨rfl, hfin⟩⟩, ⟨by rw [ht]; exact hP, va_K.moved hW.alike hK, hD⟩, by rw [ht]; exact hq⟩, hS.F ht⟩) hS.2.2 d_Mo_selector_214
    · rintro ⟨Qy, j0, b0, a0⟩ H locs ls hI246 hP hD hS hl
      have hP : va_P (dC, dI) classes [(mo, .inr (13, MF 30 (rf (rs v Qy o) j0 b0))), (qx, .inl (cB, NN, .inl f)), (Qy.qq, .inl (cI, (8 * Qy.C), .inl Qy.qf)), (Qy.qe, .inl (cL, (3 * Qy.C), .inr (.inl Qy.ef))), (tv, .inr (12, MF 13 (tw V))), (V.au, .inl (cC, V.U, .inl V.un))] H := hP
      have hD : va_D A [(mo, .inr (13, MF 30 (rf (rs v Qy o) j0 b0))), (qx, .inl (cB, NN, .inl f)), (Qy.qq, .inl (cI, (8 * Qy.C), .inl Qy.qf)), (Qy.qe, .inl (cL, (3 * Qy.C), .inr (.inl Qy.ef))), (tv, .inr (12, MF 13 (tw V))), (V.au, .inl (cC, V.U, .inl V.un))] := hD
      have hl : lv_has ls 5 [(0, .ref mo), (1, .int 0), (2, .int r1), (3, .int (nI Q.R))] := hl
      obtain ⟨hQk_Qy, hG_QyV, hR_Qy, hl1_Qy, hEx_QyV, hj1, hj2, hsl, hsa⟩ := hI246
      have hqb_QyV : Qy.R ≤ Qy.C ∧ Qy.C ≤ 100000 := ⟨hQk_Qy.2.2.1, hQk_Qy.2.1⟩
      have hfit_QyV := hG_QyV.fits
      obtain ⟨kd9, hk0_Qy⟩ : ∃ z9, Qy.qf (8 * Q.R + 0) = z9 := ⟨_, rfl⟩
      refine lv_aload_n hx hb d_Mo_selector_246 rfl (lv_at hl 0 rfl) ?_
      refine lv_iload_n hx hb d_Mo_selector_247 rfl (lv_at hl 3 rfl) ?_
      refine lv_iconst (v := 0) hx hb d_Mo_selector_248 (by decide) ?_
      refine lv_iconst (v := 4) hx hb d_Mo_selector_249 (by decide) ?_
      refine W.eq (g2 := F0 m 250 ls [.int 4, .int (nI 0), .int (nI Q.R), .ref mo]) rfl ?_
      have hPc := hP.sub (ws' := [(mo, .inr (13, MF 30 (rf (rs v Qy o) j0 b0))), (Qy.qq, .inl (cI, (8 * Qy.C), .inl Qy.qf))]) [0, 2] rfl
      have hDc := hD.sub (ws' := [(mo, .inr (13, MF 30 (rf (rs v Qy o) j0 b0))), (Qy.qq, .inl (cI, (8 * Qy.C), .inl Qy.qf))]) [0, 2] (by decide) rfl
      have hKc := hK.sub (tys' := [(cI, .int)]) [1] rfl
      have hFc := va_free (wc := [(mo, .inr (13, MF 30 (rf (rs v Qy o) j0 b0))), (Qy.qq, .inl (cI, (8 * Qy.C), .inl Qy.qf))]) hD hS hA [0, 2] rfl
      refine va_callv (va_runV (As := [.int (nI Q.R), .int (nI 0), .int 4]) (rest := []) ⟨hx, hb, hml, hown, hts⟩ (c_Mo_set l dC dI mo H (rf (rs v Qy o) j0 b0) cI Qy.qq (8 * Qy.C) Qy.qf Q.R 0 4 (by omega) (by omega) ((rf_ne (by decide) (by decide)).trans rs_19)) (cwV 3 hts (gt_V (own := R_Mo) (C := R_Mo) (i := 272) (y := y_Mo_set) i_Mo_set w_1411 w_1413 (gt_sel (y := y_Mo_set) (n := 30) (by decide +kernel)) w_7) rfl rfl rfl (by decide +kernel) ⟨Nat.le_trans (m := 7) (Nat.le_of_ble_eq_true rfl) (Nat.le_add_right 7 F), Nat.le_trans (m := 200) (Nat.le_of_ble_eq_true rfl) (Nat.le_add_right 200 L)⟩) ⟨mp_blind, va_recv hKc hPc (ci := 13) (q0 := 0) rfl rfl, fun U hU hW => ⟨rfl, hU, by rw [hU]; exact hPc, va_K.moved hW.alike hKc, hDc.weaken (fun _ _ _ _ => trivial)⟩⟩ rfl rfl hl.1 rfl (lv_room (Nat.le_of_ble_eq_true rfl)) d_Mo_selector_250 ⟨hfit_QyV.1, hfit_QyV.2⟩) hS (fun q _ h => hFc q h) hFc (fun _u t9 H1 locs ht hvm hw hB hz1 hk1 hS => ?_)
      obtain ⟨hP1, hK1, hD1⟩ := hB
      rw [ht] at hP1
      obtain ⟨hP, hD⟩ := va_join (wr := [(qx, .inl (cB, NN, .inl f)), (Qy.qe, .inl (cL, (3 * Qy.C), .inr (.inl Qy.ef))), (tv, .inr (12, MF 13 (tw V))), (V.au, .inl (cC, V.U, .inl V.un))]) (w1 := [(mo, .inr (13, MF 30 (rf (rs v Qy o) j0 b0))), (Qy.qq, .inl (cI, (8 * Qy.C), .inl (upd Qy.qf (8 * Q.R + 0) 4)))]) hP hD [0, 2] [1, 3, 4, 5] rfl rfl (by decide) (by decide) hk1 hFc hP1 hD1
      generalize H1 = H at hP hS ⊢
      have hP : va_P (dC, dI) classes [(qx, .inl (cB, NN, .inl f)), (Qy.qe, .inl (cL, (3 * Qy.C), .inr (.inl Qy.ef))), (tv, .inr (12, MF 13 (tw V))), (V.au, .inl (cC, V.U, .inl V.un)), (mo, .inr (13, MF 30 (rf (rs v Qy o) j0 b0))), (Qy.qq, .inl (cI, (8 * Qy.C), .inl (upd Qy.qf (8 * Q.R + 0) 4)))] H := hP
      have hD : va_D A [(qx, .inl (cB, NN, .inl f)), (Qy.qe, .inl (cL, (3 * Qy.C), .inr (.inl Qy.ef))), (tv, .inr (12, MF 13 (tw V))), (V.au, .inl (cC, V.U, .inl V.un)), (mo, .inr (13, MF 30 (rf (rs v Qy o) j0 b0))), (Qy.qq, .inl (cI, (8 * Qy.C), .inl (upd Qy.qf (8 * Q.R + 0) 4)))] := hD
      have hP := hP.sub (ws' := [(mo, .inr (13, MF 30 (rf (rs v Qy o) j0 b0))), (qx, .inl (cB, NN, .inl f)), (Qy.qq, .inl (cI, (8 * Qy.C), .inl (upd Qy.qf (8 * Q.R + 0) 4))), (Qy.qe, .inl (cL, (3 * Qy.C), .inr (.inl Qy.ef))), (tv, .inr (12, MF 13 (tw V))), (V.au, .inl (cC, V.U, .inl V.un))]) [4, 0, 5, 1, 2, 3] rfl
      have hD := hD.sub (ws' := [(mo, .inr (13, MF 30 (rf (rs v Qy o) j0 b0))), (qx, .inl (cB, NN, .inl f)), (Qy.qq, .inl (cI, (8 * Qy.C), .inl (upd Qy.qf (8 * Q.R + 0) 4))), (Qy.qe, .inl (cL, (3 * Qy.C), .inr (.inl Qy.ef))), (tv, .inr (12, MF 13 (tw V))), (V.au, .inl (cC, V.U, .inl V.un))]) [4, 0, 5, 1, 2, 3] (by decide) rfl
      obtain ⟨Qs, e_Qs⟩ : ∃ z : QS, z = QS.wf Qy (upd Qy.qf (8 * Q.R + 0) 4) := ⟨_, rfl⟩
      have hP : va_P (dC, dI) classes [(mo, .inr (13, MF 30 (rf (rs v Qs o) j0 b0))), (qx, .inl (cB, NN, .inl f)), (Qs.qq, .inl (cI, (8 * Qs.C), .inl Qs.qf)), (Qs.qe, .inl (cL, (3 * Qs.C), .inr (.inl Qs.ef))), (tv, .inr (12, MF 13 (tw V))), (V.au, .inl (cC, V.U, .inl V.un))] H := by subst e_Qs; exact hP
      have hD : va_D A [(mo, .inr (13, MF 30 (rf (rs v Qs o) j0 b0))), (qx, .inl (cB, NN, .inl f)), (Qs.qq, .inl (cI, (8 * Qs.C), .inl Qs.qf)), (Qs.qe, .inl (cL, (3 * Qs.C), .inr (.inl Qs.ef))), (tv, .inr (12, MF 13 (tw V))), (V.au, .inl (cC, V.U, .inl V.un))] := by subst e_Qs; exact hD
      have hf_Qs : Qs.C = Qy.C ∧ Qs.R = Qy.R ∧ Qs.qf = upd Qy.qf (8 * Q.R + 0) 4 := by rw [e_Qs]; exact ⟨rfl, rfl, rfl⟩
      have he_Qs : Qs.ef = Qy.ef := by rw [e_Qs]; rfl
      have hQk_Qs : QOK Qs := by rw [e_Qs]; exact hQk_Qy
      have hG_QsV : GQ (Q.R + 8 * (n - i) + 4) (V.us + (n + 12 - i)) Q V Qs V := by unfold GQ at hG_QyV ⊢; rw [hf_Qs.1]; exact hG_QyV
      refine w_same (fun hq => ?_)
      refine w_tight (k := cQ Q V Qs V) (n := sQ Q V Qs V) (by unfold cQ sQ at hq ⊢; rw [hf_Qs.1]; exact hq) ?_
      have hR_Qs := hf_Qs.2.1
      have hqb_QsV : Qs.R ≤ Qs.C ∧ Qs.C ≤ 100000 := ⟨hQk_Qs.2.2.1, hQk_Qs.2.1⟩
      have hfit_QsV := hG_QsV.fits
      have hk0_Qs : Qs.qf (8 * Q.R + 0) = 4 := by rw [hf_Qs.2.2]; exact pk_us
      have hl1_Qs : Qs.qf (8 * Q.R + 1) = -1 := by rw [hf_Qs.2.2, pk_un (by omega)]; exact hl1_Qy
      have hEx_QsV : alr Q V Qs V 0 Q.R := hEx_QyV.tr (alr.upd hf_Qs.2.2 he_Qs (by decide) (by omega))
      have hsas : slA Qs Q.R a0 := hsa.set hf_Qs.2.2 he_Qs
      refine w_join (D := (dC, dI)) (cl := classes) (A := A) (H0 := s.heap) (nL := 5) 297 (σ := QS × Nat × Int32 × Option Int64) (fun ⟨Qz, j2, b3, e0⟩ => QOK Qz ∧ GQ (Q.R + 8 * (n - i) + 4) (V.us + (n + 12 - i)) Q V Qz V ∧ Qz.R = Q.R + 1 ∧ Qz.qf (8 * Q.R + 1) = -1 ∧ alr Q V Qz V 0 Q.R ∧ Qz.qf (8 * Q.R + 0) = 4 ∧ i + 1 ≤ j2 ∧ j2 ≤ n ∧ selP f n (orL f n) false i = (slT f n e0 j2).map (fun j => (j.1, false, slcS a0 j.2.1 j.2.2)) ∧ slB Qz Q.R a0 e0) (fun ⟨Qz, j2, b3, e0⟩ => cQ Q V Qz V) (fun ⟨Qz, j2, b3, e0⟩ => sQ Q V Qz V) (fun ⟨Qz, j2, b3, e0⟩ => [(mo, .inr (13, MF 30 (rf (rs v Qz o) j2 b3))), (qx, .inl (cB, NN, .inl f)), (Qz.qq, .inl (cI, (8 * Qz.C), .inl Qz.qf)), (Qz.qe, .inl (cL, (3 * Qz.C), .inr (.inl Qz.ef))), (tv, .inr (12, MF 13 (tw V))), (V.au, .inl (cC, V.U, .inl V.un))]) (fun ⟨Qz, j2, b3, e0⟩ => [(0, .ref mo), (1, .int 0), (2, .int r1), (3, .int (nI Q.R))]) (fun jn297 => ?_) ?_
      · refine lv_aload_n hx hb d_Mo_selector_253 rfl (lv_at hl 0 rfl) ?_
        refine lv_dup hx hb d_Mo_selector_254 rfl ?_
        refine va_get (D := (dC, dI)) (ci := 13) (v := .int (nI j0)) (C := R_Mo) (T := F_Mo) (N := 30) hx hb hts in_Mo hown hK hP 0 rfl rfl 7 (by decide) (hts _ w_1096) (fun _ h9 => h9) (MFg (by decide) rf_7) d_Mo_selector_255 ?_
        refine lv_iconst (v := 1) hx hb d_Mo_selector_258 (by decide) ?_
        refine lv_iadd hx hb d_Mo_selector_259 ?_
        refine W.eq (g2 := F0 m 260 ls [.int (nI (j0 + 1)), .ref mo]) (by rw [show ((nI j0) + 1) = (nI (j0 + 1)) from nI_1 _]) ?_
        refine va_put (D := (dC, dI)) (ci := 13) (v := .int (nI (j0 + 1))) (ty := .int) (C := R_Mo) (T := F_Mo) (N := 30) hx hb hts in_Mo t_Mo t_Mo_ok n_Mo hown hK hP hD hS 0 rfl rfl 7 (by decide) (hts _ w_1096) (fun _ h9 => h9) rfl (by decide +kernel) rfl rfl (by rw [MFl]; decide) d_Mo_selector_260 (fun H locs hP hD hS => ?_)
        rw [MFs (n := 30) (k := 7) (by decide)] at hP hD
        have hP : va_P (dC, dI) classes [(mo, .inr (13, MF 30 (va_up (rf (rs v Qs o) j0 b0) 7 (.int (nI (j0 + 1)))))), (qx, .inl (cB, NN, .inl f)), (Qs.qq, .inl (cI, (8 * Qs.C), .inl Qs.qf)), (Qs.qe, .inl (cL, (3 * Qs.C), .inr (.inl Qs.ef))), (tv, .inr (12, MF 13 (tw V))), (V.au, .inl (cC, V.U, .inl V.un))] H := hP
        have hD : va_D A [(mo, .inr (13, MF 30 (va_up (rf (rs v Qs o) j0 b0) 7 (.int (nI (j0 + 1)))))), (qx, .inl (cB, NN, .inl f)), (Qs.qq, .inl (cI, (8 * Qs.C), .inl Qs.qf)), (Qs.qe, .inl (cL, (3 * Qs.C), .inr (.inl Qs.ef))), (tv, .inr (12, MF 13 (tw V))), (V.au, .inl (cC, V.U, .inl V.un))] := hD
        rw [rf_u7] at hP hD
        have hP : va_P (dC, dI) classes [(mo, .inr (13, MF 30 (rf (rs v Qs o) (j0 + 1) b0))), (qx, .inl (cB, NN, .inl f)), (Qs.qq, .inl (cI, (8 * Qs.C), .inl Qs.qf)), (Qs.qe, .inl (cL, (3 * Qs.C), .inr (.inl Qs.ef))), (tv, .inr (12, MF 13 (tw V))), (V.au, .inl (cC, V.U, .inl V.un))] H := hP
        have hD : va_D A [(mo, .inr (13, MF 30 (rf (rs v Qs o) (j0 + 1) b0))), (qx, .inl (cB, NN, .inl f)), (Qs.qq, .inl (cI, (8 * Qs.C), .inl Qs.qf)), (Qs.qe, .inl (cL, (3 * Qs.C), .inr (.inl Qs.ef))), (tv, .inr (12, MF 13 (tw V))), (V.au, .inl (cC, V.U, .inl V.un))] := hD
        refine lv_aload_n hx hb d_Mo_selector_263 rfl (lv_at hl 0 rfl) ?_
        have hPc := hP.sub (ws' := [(mo, .inr (13, MF 30 (rf (rs v Qs o) (j0 + 1) b0))), (qx, .inl (cB, NN, .inl f))]) [0, 1] rfl
        have hDc := hD.sub (ws' := [(mo, .inr (13, MF 30 (rf (rs v Qs o) (j0 + 1) b0))), (qx, .inl (cB, NN, .inl f))]) [0, 1] (by decide) rfl
        have hKc := hK.sub (tys' := [(cB, .byte)]) [0] rfl
        have hFc := va_free (wc := [(mo, .inr (13, MF 30 (rf (rs v Qs o) (j0 + 1) b0))), (qx, .inl (cB, NN, .inl f))]) hD hS hA [0, 1] rfl
        refine va_callv (va_runV (As := []) (rest := []) ⟨hx, hb, hml, hown, hts⟩ (c_Mo_blanks l dC dI mo H (rf (rs v Qs o) (j0 + 1) b0) cB qx NN f n (j0 + 1) (by omega) (by omega) (by omega) ((rf_ne (by decide) (by decide)).trans ((rs_ne (by decide) (by decide) (by decide) (by decide)).trans h6)) rf_7 ((rf_ne (by decide) (by decide)).trans ((rs_ne (by decide) (by decide) (by decide) (by decide)).trans h8))) (cwV 0 hts (gt_V (own := R_Mo) (C := R_Mo) (i := 184) (y := y_Mo_blanks) i_Mo_blanks w_1229 w_1231 (gt_sel (y := y_Mo_blanks) (n := 30) (by decide +kernel)) w_7) rfl rfl rfl (by decide +kernel) ⟨Nat.le_trans (m := 7) (Nat.le_of_ble_eq_true rfl) (Nat.le_add_right 7 F), Nat.le_trans (m := 200) (Nat.le_of_ble_eq_true rfl) (Nat.le_add_right 200 L)⟩) ⟨mp_blind, va_recv hKc hPc (ci := 13) (q0 := 0) rfl rfl, fun U hU hW => ⟨rfl, hU, by rw [hU]; exact hPc, va_K.moved hW.alike hKc, hDc.weaken (fun _ _ _ _ => trivial)⟩⟩ rfl rfl hl.1 rfl (lv_room (Nat.le_of_ble_eq_true rfl)) d_Mo_selector_264 ⟨hfit_QsV.1, hfit_QsV.2⟩) hS (fun q _ h => hFc q h) hFc (fun _u t9 H1 locs ht hvm hw hB hz1 hk1 hS => ?_)
        obtain ⟨hP1, hK1, hD1⟩ := hB
        rw [ht] at hP1
        obtain ⟨hP, hD⟩ := va_join (wr := [(Qs.qq, .inl (cI, (8 * Qs.C), .inl Qs.qf)), (Qs.qe, .inl (cL, (3 * Qs.C), .inr (.inl Qs.ef))), (tv, .inr (12, MF 13 (tw V))), (V.au, .inl (cC, V.U, .inl V.un))]) (w1 := [(mo, .inr (13, MF 30 (va_up (rf (rs v Qs o) (j0 + 1) b0) 7 (.int (nI (skipH f n (j0 + 1))))))), (qx, .inl (cB, NN, .inl f))]) hP hD [0, 1] [2, 3, 4, 5] rfl rfl (by decide) (by decide) hk1 hFc hP1 hD1
        generalize H1 = H at hP hS ⊢
        have hP : va_P (dC, dI) classes [(Qs.qq, .inl (cI, (8 * Qs.C), .inl Qs.qf)), (Qs.qe, .inl (cL, (3 * Qs.C), .inr (.inl Qs.ef))), (tv, .inr (12, MF 13 (tw V))), (V.au, .inl (cC, V.U, .inl V.un)), (mo, .inr (13, MF 30 (va_up (rf (rs v Qs o) (j0 + 1) b0) 7 (.int (nI (skipH f n (j0 + 1))))))), (qx, .inl (cB, NN, .inl f))] H := hP
        have hD : va_D A [(Qs.qq, .inl (cI, (8 * Qs.C), .inl Qs.qf)), (Qs.qe, .inl (cL, (3 * Qs.C), .inr (.inl Qs.ef))), (tv, .inr (12, MF 13 (tw V))), (V.au, .inl (cC, V.U, .inl V.un)), (mo, .inr (13, MF 30 (va_up (rf (rs v Qs o) (j0 + 1) b0) 7 (.int (nI (skipH f n (j0 + 1))))))), (qx, .inl (cB, NN, .inl f))] := hD
        have hP := hP.sub (ws' := [(mo, .inr (13, MF 30 (va_up (rf (rs v Qs o) (j0 + 1) b0) 7 (.int (nI (skipH f n (j0 + 1))))))), (qx, .inl (cB, NN, .inl f)), (Qs.qq, .inl (cI, (8 * Qs.C), .inl Qs.qf)), (Qs.qe, .inl (cL, (3 * Qs.C), .inr (.inl Qs.ef))), (tv, .inr (12, MF 13 (tw V))), (V.au, .inl (cC, V.U, .inl V.un))]) [4, 5, 0, 1, 2, 3] rfl
        have hD := hD.sub (ws' := [(mo, .inr (13, MF 30 (va_up (rf (rs v Qs o) (j0 + 1) b0) 7 (.int (nI (skipH f n (j0 + 1))))))), (qx, .inl (cB, NN, .inl f)), (Qs.qq, .inl (cI, (8 * Qs.C), .inl Qs.qf)), (Qs.qe, .inl (cL, (3 * Qs.C), .inr (.inl Qs.ef))), (tv, .inr (12, MF 13 (tw V))), (V.au, .inl (cC, V.U, .inl V.un))]) [4, 5, 0, 1, 2, 3] (by decide) rfl
        rw [rf_u7] at hP hD
        have hP : va_P (dC, dI) classes [(mo, .inr (13, MF 30 (rf (rs v Qs o) (skipH f n (j0 + 1)) b0))), (qx, .inl (cB, NN, .inl f)), (Qs.qq, .inl (cI, (8 * Qs.C), .inl Qs.qf)), (Qs.qe, .inl (cL, (3 * Qs.C), .inr (.inl Qs.ef))), (tv, .inr (12, MF 13 (tw V))), (V.au, .inl (cC, V.U, .inl V.un))] H := hP
        have hD : va_D A [(mo, .inr (13, MF 30 (rf (rs v Qs o) (skipH f n (j0 + 1)) b0))), (qx, .inl (cB, NN, .inl f)), (Qs.qq, .inl (cI, (8 * Qs.C), .inl Qs.qf)), (Qs.qe, .inl (cL, (3 * Qs.C), .inr (.inl Qs.ef))), (tv, .inr (12, MF 13 (tw V))), (V.au, .inl (cC, V.U, .inl V.un))] := hD
        have hsk_267 := skipH_n (f := f) (show (j0 + 1) ≤ n by omega)
        refine lv_aload_n hx hb d_Mo_selector_267 rfl (lv_at hl 0 rfl) ?_
        have hPc := hP.sub (ws' := [(mo, .inr (13, MF 30 (rf (rs v Qs o) (skipH f n (j0 + 1)) b0))), (qx, .inl (cB, NN, .inl f))]) [0, 1] rfl
        have hDc := hD.sub (ws' := [(mo, .inr (13, MF 30 (rf (rs v Qs o) (skipH f n (j0 + 1)) b0))), (qx, .inl (cB, NN, .inl f))]) [0, 1] (by decide) rfl
        have hKc := hK.sub (tys' := [(cB, .byte)]) [0] rfl
        have hFc := va_free (wc := [(mo, .inr (13, MF 30 (rf (rs v Qs o) (skipH f n (j0 + 1)) b0))), (qx, .inl (cB, NN, .inl f))]) hD hS hA [0, 1] rfl
        refine va_calli (va_runV (As := []) (rest := []) ⟨hx, hb, hml, hown, hts⟩ (c_Mo_c l dC dI mo H (rf (rs v Qs o) (skipH f n (j0 + 1)) b0) cB qx NN f n (skipH f n (j0 + 1)) (by omega) (by omega) (by omega) ((rf_ne (by decide) (by decide)).trans ((rs_ne (by decide) (by decide) (by decide) (by decide)).trans h6)) rf_7 ((rf_ne (by decide) (by decide)).trans ((rs_ne (by decide) (by decide) (by decide) (by decide)).trans h8))) (cwV 0 hts (gt_V (own := R_Mo) (C := R_Mo) (i := 147) (y := y_Mo_c) i_Mo_c w_1233 w_1235 (gt_sel (y := y_Mo_c) (n := 30) (by decide +kernel)) w_7) rfl rfl rfl (by decide +kernel) ⟨Nat.le_trans (m := 7) (Nat.le_of_ble_eq_true rfl) (Nat.le_add_right 7 F), Nat.le_trans (m := 200) (Nat.le_of_ble_eq_true rfl) (Nat.le_add_right 200 L)⟩) ⟨mp_blind, va_recv hKc hPc (ci := 13) (q0 := 0) rfl rfl, fun U hU hW => ⟨rfl, hU, by rw [hU]; exact hPc, va_K.moved hW.alike hKc, hDc.weaken (fun _ _ _ _ => trivial)⟩⟩ rfl rfl hl.1 rfl (lv_room (Nat.le_of_ble_eq_true rfl)) d_Mo_selector_268 ⟨hfit_QsV.1, hfit_QsV.2⟩) hS (fun q _ h => hFc q h) hFc (fun r3 _u t9 H1 locs ht hvm hw hB hz1 hk1 hS => ?_)
        obtain ⟨hP1, hK1, hD1⟩ := hB
        rw [ht] at hP1
        obtain ⟨hP, hD⟩ := va_join (wr := [(Qs.qq, .inl (cI, (8 * Qs.C), .inl Qs.qf)), (Qs.qe, .inl (cL, (3 * Qs.C), .inr (.inl Qs.ef))), (tv, .inr (12, MF 13 (tw V))), (V.au, .inl (cC, V.U, .inl V.un))]) (w1 := [(mo, .inr (13, MF 30 (rf (rs v Qs o) (skipH f n (j0 + 1)) b0))), (qx, .inl (cB, NN, .inl f))]) hP hD [0, 1] [2, 3, 4, 5] rfl rfl (by decide) (by decide) hk1 hFc hP1 hD1
        generalize H1 = H at hP hS ⊢
        have hP : va_P (dC, dI) classes [(Qs.qq, .inl (cI, (8 * Qs.C), .inl Qs.qf)), (Qs.qe, .inl (cL, (3 * Qs.C), .inr (.inl Qs.ef))), (tv, .inr (12, MF 13 (tw V))), (V.au, .inl (cC, V.U, .inl V.un)), (mo, .inr (13, MF 30 (rf (rs v Qs o) (skipH f n (j0 + 1)) b0))), (qx, .inl (cB, NN, .inl f))] H := hP
        have hD : va_D A [(Qs.qq, .inl (cI, (8 * Qs.C), .inl Qs.qf)), (Qs.qe, .inl (cL, (3 * Qs.C), .inr (.inl Qs.ef))), (tv, .inr (12, MF 13 (tw V))), (V.au, .inl (cC, V.U, .inl V.un)), (mo, .inr (13, MF 30 (rf (rs v Qs o) (skipH f n (j0 + 1)) b0))), (qx, .inl (cB, NN, .inl f))] := hD
        have hP := hP.sub (ws' := [(mo, .inr (13, MF 30 (rf (rs v Qs o) (skipH f n (j0 + 1)) b0))), (qx, .inl (cB, NN, .inl f)), (Qs.qq, .inl (cI, (8 * Qs.C), .inl Qs.qf)), (Qs.qe, .inl (cL, (3 * Qs.C), .inr (.inl Qs.ef))), (tv, .inr (12, MF 13 (tw V))), (V.au, .inl (cC, V.U, .inl V.un))]) [4, 5, 0, 1, 2, 3] rfl
        have hD := hD.sub (ws' := [(mo, .inr (13, MF 30 (rf (rs v Qs o) (skipH f n (j0 + 1)) b0))), (qx, .inl (cB, NN, .inl f)), (Qs.qq, .inl (cI, (8 * Qs.C), .inl Qs.qf)), (Qs.qe, .inl (cL, (3 * Qs.C), .inr (.inl Qs.ef))), (tv, .inr (12, MF 13 (tw V))), (V.au, .inl (cC, V.U, .inl V.un))]) [4, 5, 0, 1, 2, 3] (by decide) rfl
        have h_r3 : r3 = hereV f n (skipH f n (j0 + 1)) := hw
        refine lv_bipush (v := 45) hx hb d_Mo_selector_271 (by decide) ?_
        refine lv_icmp_eq (tgt := 286) hx hb d_Mo_selector_273 (by decide) (fun c273 => ?_) (fun c273 => ?_)
        · refine lv_aload_n hx hb d_Mo_selector_286 rfl (lv_at hl 0 rfl) ?_
          refine lv_iload_n hx hb d_Mo_selector_287 rfl (lv_at hl 3 rfl) ?_
          refine lv_iconst (v := 1) hx hb d_Mo_selector_288 (by decide) ?_
          refine W.eq (g2 := F0 m 289 ls [.int (nI 1), .int (nI Q.R), .ref mo]) rfl ?_
          have hPc := hP.sub (ws' := [(mo, .inr (13, MF 30 (rf (rs v Qs o) (skipH f n (j0 + 1)) b0))), (qx, .inl (cB, NN, .inl f)), (Qs.qq, .inl (cI, (8 * Qs.C), .inl Qs.qf)), (Qs.qe, .inl (cL, (3 * Qs.C), .inr (.inl Qs.ef)))]) [0, 1, 2, 3] rfl
          have hDc := hD.sub (ws' := [(mo, .inr (13, MF 30 (rf (rs v Qs o) (skipH f n (j0 + 1)) b0))), (qx, .inl (cB, NN, .inl f)), (Qs.qq, .inl (cI, (8 * Qs.C), .inl Qs.qf)), (Qs.qe, .inl (cL, (3 * Qs.C), .inr (.inl Qs.ef)))]) [0, 1, 2, 3] (by decide) rfl
          have hKc := hK.sub (tys' := [(cB, .byte), (cI, .int), (cL, .long)]) [0, 1, 2] rfl
          have hFc := va_free (wc := [(mo, .inr (13, MF 30 (rf (rs v Qs o) (skipH f n (j0 + 1)) b0))), (qx, .inl (cB, NN, .inl f)), (Qs.qq, .inl (cI, (8 * Qs.C), .inl Qs.qf)), (Qs.qe, .inl (cL, (3 * Qs.C), .inr (.inl Qs.ef)))]) hD hS hA [0, 1, 2, 3] rfl
          refine va_calli (va_runV (As := [.int (nI Q.R), .int (nI 1)]) (rest := []) ⟨hx, hb, hml, hown, hts⟩ (c_Mo_whole l dC dI mo H v cB cI cL qx NN f n Qs o (skipH f n (j0 + 1)) b0 Q.R 1 hnN (by omega) (by omega) h6 h8 hQk_Qs (by omega) (by decide)) (cwV 2 hts (gt_V (own := R_Mo) (C := R_Mo) (i := 303) (y := y_Mo_whole) i_Mo_whole w_1465 w_1467 (gt_sel (y := y_Mo_whole) (n := 30) (by decide +kernel)) w_7) rfl rfl rfl (by decide +kernel) ⟨Nat.le_trans (m := 7) (Nat.le_of_ble_eq_true rfl) (Nat.le_add_right 7 F), Nat.le_trans (m := 200) (Nat.le_of_ble_eq_true rfl) (Nat.le_add_right 200 L)⟩) ⟨mp_blind, va_recv hKc hPc (ci := 13) (q0 := 0) rfl rfl, fun U hU hW => ⟨rfl, hU, by rw [hU]; exact hPc, va_K.moved hW.alike hKc, hDc.weaken (fun _ _ _ _ => trivial)⟩⟩ rfl rfl hl.1 rfl (lv_room (Nat.le_of_ble_eq_true rfl)) d_Mo_selector_289 ⟨hfit_QsV.1, hfit_QsV.2⟩) hS (fun q _ h => hFc q h) hFc (fun r0 ⟨j4, b_j4, qf2, ef2⟩ t9 H1 locs ht hvm hw hB hz1 hk1 hS => ?_)
          obtain ⟨hP1, hK1, hD1⟩ := hB
          rw [ht] at hP1
          obtain ⟨hP, hD⟩ := va_join (wr := [(tv, .inr (12, MF 13 (tw V))), (V.au, .inl (cC, V.U, .inl V.un))]) (w1 := [(mo, .inr (13, MF 30 (rf (rs v Qs o) j4 b_j4))), (qx, .inl (cB, NN, .inl f)), (Qs.qq, .inl (cI, (8 * Qs.C), .inl qf2)), (Qs.qe, .inl (cL, (3 * Qs.C), .inr (.inl ef2)))]) hP hD [0, 1, 2, 3] [4, 5] rfl rfl (by decide) (by decide) hk1 hFc hP1 hD1
          generalize H1 = H at hP hS ⊢
          have hP : va_P (dC, dI) classes [(tv, .inr (12, MF 13 (tw V))), (V.au, .inl (cC, V.U, .inl V.un)), (mo, .inr (13, MF 30 (rf (rs v Qs o) j4 b_j4))), (qx, .inl (cB, NN, .inl f)), (Qs.qq, .inl (cI, (8 * Qs.C), .inl qf2)), (Qs.qe, .inl (cL, (3 * Qs.C), .inr (.inl ef2)))] H := hP
          have hD : va_D A [(tv, .inr (12, MF 13 (tw V))), (V.au, .inl (cC, V.U, .inl V.un)), (mo, .inr (13, MF 30 (rf (rs v Qs o) j4 b_j4))), (qx, .inl (cB, NN, .inl f)), (Qs.qq, .inl (cI, (8 * Qs.C), .inl qf2)), (Qs.qe, .inl (cL, (3 * Qs.C), .inr (.inl ef2)))] := hD
          have hP := hP.sub (ws' := [(mo, .inr (13, MF 30 (rf (rs v Qs o) j4 b_j4))), (qx, .inl (cB, NN, .inl f)), (Qs.qq, .inl (cI, (8 * Qs.C), .inl qf2)), (Qs.qe, .inl (cL, (3 * Qs.C), .inr (.inl ef2))), (tv, .inr (12, MF 13 (tw V))), (V.au, .inl (cC, V.U, .inl V.un))]) [2, 3, 4, 5, 0, 1] rfl
          have hD := hD.sub (ws' := [(mo, .inr (13, MF 30 (rf (rs v Qs o) j4 b_j4))), (qx, .inl (cB, NN, .inl f)), (Qs.qq, .inl (cI, (8 * Qs.C), .inl qf2)), (Qs.qe, .inl (cL, (3 * Qs.C), .inr (.inl ef2))), (tv, .inr (12, MF 13 (tw V))), (V.au, .inl (cC, V.U, .inl V.un))]) [2, 3, 4, 5, 0, 1] (by decide) rfl
          rcases hw with ⟨hw1, val_j4, hw2, hw3, hw4, hw5⟩ | ⟨hw1, hw2, hw3, hw4⟩
          · have hw_j4 : whM f n (skipH f n (j0 + 1)) = some (val_j4, j4) := hw2
            have hw3 : qf2 = upd Qs.qf (8 * Q.R + 2) (Qs.qf (8 * Q.R + 2) ||| 1 <<< (nI 1 &&& 31)) := hw3
            have hw4 : ef2 = vp_updL Qs.ef (3 * Q.R + 1) val_j4 := hw4
            have hn_j4 : j4 ≤ n := hw5
            have hlt_j4 := whM_lt hw_j4
            subst hw1
            obtain ⟨Qb, e_Qb⟩ : ∃ z : QS, z = QS.mk Qs.C Qs.R Qs.qq Qs.qe qf2 ef2 := ⟨_, rfl⟩
            have hP : va_P (dC, dI) classes [(mo, .inr (13, MF 30 (rf (rs v Qb o) j4 b_j4))), (qx, .inl (cB, NN, .inl f)), (Qb.qq, .inl (cI, (8 * Qb.C), .inl Qb.qf)), (Qb.qe, .inl (cL, (3 * Qb.C), .inr (.inl Qb.ef))), (tv, .inr (12, MF 13 (tw V))), (V.au, .inl (cC, V.U, .inl V.un))] H := by subst e_Qb; exact hP
            have hD : va_D A [(mo, .inr (13, MF 30 (rf (rs v Qb o) j4 b_j4))), (qx, .inl (cB, NN, .inl f)), (Qb.qq, .inl (cI, (8 * Qb.C), .inl Qb.qf)), (Qb.qe, .inl (cL, (3 * Qb.C), .inr (.inl Qb.ef))), (tv, .inr (12, MF 13 (tw V))), (V.au, .inl (cC, V.U, .inl V.un))] := by subst e_Qb; exact hD
            have hf_Qb : Qb.C = Qs.C ∧ Qb.R = Qs.R ∧ Qb.qf = qf2 := by rw [e_Qb]; exact ⟨rfl, rfl, rfl⟩
            have he_Qb : Qb.ef = vp_updL Qs.ef (3 * Q.R + 1) val_j4 := by rw [e_Qb]; exact hw4
            have h2_Qb : Qb.qf (8 * Q.R + 2) = Qs.qf (8 * Q.R + 2) ||| 1 <<< (nI 1 &&& 31) := by rw [hf_Qb.2.2, hw3]; exact pk_us
            have hev_Qb : Qb.ef (3 * Q.R + 1) = val_j4 := by rw [he_Qb]; exact updL_s
            have hQk_Qb : QOK Qb := by rw [e_Qb, hw4]; exact ⟨hQk_Qs.1, hQk_Qs.2.1, hQk_Qs.2.2.1, QOK_upd hQk_Qs.2.2.2 (whM_gL hw_j4)⟩
            have hG_QbV : GQ (Q.R + 8 * (n - i) + 4) (V.us + (n + 12 - i)) Q V Qb V := by unfold GQ at hG_QsV ⊢; rw [hf_Qb.1]; exact hG_QsV
            refine w_same (fun hq => ?_)
            refine w_tight (k := cQ Q V Qb V) (n := sQ Q V Qb V) (by unfold cQ sQ at hq ⊢; rw [hf_Qb.1]; exact hq) ?_
            have hR_Qb := hf_Qb.2.1
            have hqb_QbV : Qb.R ≤ Qb.C ∧ Qb.C ≤ 100000 := ⟨hQk_Qb.2.2.1, hQk_Qb.2.1⟩
            have hfit_QbV := hG_QbV.fits
            have hk0_Qb : Qb.qf (8 * Q.R + 0) = 4 := by rw [hf_Qb.2.2, hw3, pk_un (by omega)]; exact hk0_Qs
            have hl1_Qb : Qb.qf (8 * Q.R + 1) = -1 := by rw [hf_Qb.2.2, hw3, pk_un (by omega)]; exact hl1_Qs
            have hEx_QbV : alr Q V Qb V 0 Q.R := hEx_QsV.tr (alr_who (hf_Qb.2.2.trans hw3) he_Qb (by decide) (by omega))
            refine lv_if_ne (tgt := 297) hx hb d_Mo_selector_292 (by decide) (fun _ => ?_) (fun h => absurd h (by decide))
            have hs9 : selP f n (orL f n) false i = (slT f n (some val_j4) j4).map (fun j => (j.1, false, slcS a0 j.2.1 j.2.2)) := by rw [hsl, slP_y (Or.inl (h_r3.symm.trans c273)) hw_j4]
            exact jn297 (Qb, j4, b_j4, some val_j4) _ _ _ ⟨hQk_Qb, hG_QbV, by show Qb.R = Q.R + 1; omega, hl1_Qb, hEx_QbV, hk0_Qb, by show i + 1 ≤ j4; omega, by show j4 ≤ n; omega, hs9, hsas.b1 h2_Qb (by rw [he_Qb]; exact updL_n (by omega)) hev_Qb⟩ hP hD hS (lv_sub hl [0, 1, 2, 3] rfl)
          · have hw_j4 : whM f n (skipH f n (j0 + 1)) = none := hw2
            have hw3 : qf2 = Qs.qf := hw3
            have hw4 : ef2 = Qs.ef := hw4
            subst hw1
            subst hw3
            subst hw4
            have hP : va_P (dC, dI) classes [(mo, .inr (13, MF 30 (rf (rs v Qs o) j4 b_j4))), (qx, .inl (cB, NN, .inl f)), (Qs.qq, .inl (cI, (8 * Qs.C), .inl Qs.qf)), (Qs.qe, .inl (cL, (3 * Qs.C), .inr (.inl Qs.ef))), (tv, .inr (12, MF 13 (tw V))), (V.au, .inl (cC, V.U, .inl V.un))] H := hP
            have hD : va_D A [(mo, .inr (13, MF 30 (rf (rs v Qs o) j4 b_j4))), (qx, .inl (cB, NN, .inl f)), (Qs.qq, .inl (cI, (8 * Qs.C), .inl Qs.qf)), (Qs.qe, .inl (cL, (3 * Qs.C), .inr (.inl Qs.ef))), (tv, .inr (12, MF 13 (tw V))), (V.au, .inl (cC, V.U, .inl V.un))] := hD
            refine lv_if_ne (tgt := 297) hx hb d_Mo_selector_292 (by decide) (fun h => absurd h (by decide)) (fun _ => ?_)
            refine lv_iconst (v := (-1)) hx hb d_Mo_selector_295 (by decide) ?_
            have hfin : selP f n (orL f n) false i = none := by rw [hsl, slP_f (Or.inl (h_r3.symm.trans c273)) hw_j4]; rfl
            refine w_same (fun hq => ?_)
            refine W.widen (k := kcap Q (Q.R + 8 * (n - i) + 4) + qcap V (V.us + (n + 12 - i))) (n := 22 * kcap Q (Q.R + 8 * (n - i) + 4) + 2 * qcap V (V.us + (n + 12 - i))) hfit_QsV.1 hfit_QsV.2 ?_
            have hPo : QPo n i 4 Q V (Qs, V, j4, b_j4, o) := ⟨hQk_Qs, hG_QsV, ⟨[], TX.rf hTk_V, Nat.zero_le _⟩, by show Q.R ≤ Qs.R; omega, by show Qs.R ≤ Q.R + 8 * (n - i) + 4; omega⟩
            exact W.iret (v := -1) hx hb hr (fun t9 ht hW => ⟨⟨-1, (Qs, V, j4, b_j4, o), rfl, ⟨hPo, Or.inr ⟨rfl, hfin⟩⟩, ⟨by rw [ht]; exact hP, va_K.moved hW.alike hK, hD⟩, by rw [ht]; exact hq⟩, hS.F ht⟩) hS.2.2 d_Mo_selector_296
        · refine lv_aload_n hx hb d_Mo_selector_276 rfl (lv_at hl 0 rfl) ?_
          have hPc := hP.sub (ws' := [(mo, .inr (13, MF 30 (rf (rs v Qs o) (skipH f n (j0 + 1)) b0))), (qx, .inl (cB, NN, .inl f))]) [0, 1] rfl
          have hDc := hD.sub (ws' := [(mo, .inr (13, MF 30 (rf (rs v Qs o) (skipH f n (j0 + 1)) b0))), (qx, .inl (cB, NN, .inl f))]) [0, 1] (by decide) rfl
          have hKc := hK.sub (tys' := [(cB, .byte)]) [0] rfl
          have hFc := va_free (wc := [(mo, .inr (13, MF 30 (rf (rs v Qs o) (skipH f n (j0 + 1)) b0))), (qx, .inl (cB, NN, .inl f))]) hD hS hA [0, 1] rfl
          refine va_calli (va_runV (As := []) (rest := []) ⟨hx, hb, hml, hown, hts⟩ (c_Mo_c l dC dI mo H (rf (rs v Qs o) (skipH f n (j0 + 1)) b0) cB qx NN f n (skipH f n (j0 + 1)) (by omega) (by omega) (by omega) ((rf_ne (by decide) (by decide)).trans ((rs_ne (by decide) (by decide) (by decide) (by decide)).trans h6)) rf_7 ((rf_ne (by decide) (by decide)).trans ((rs_ne (by decide) (by decide) (by decide) (by decide)).trans h8))) (cwV 0 hts (gt_V (own := R_Mo) (C := R_Mo) (i := 147) (y := y_Mo_c) i_Mo_c w_1233 w_1235 (gt_sel (y := y_Mo_c) (n := 30) (by decide +kernel)) w_7) rfl rfl rfl (by decide +kernel) ⟨Nat.le_trans (m := 7) (Nat.le_of_ble_eq_true rfl) (Nat.le_add_right 7 F), Nat.le_trans (m := 200) (Nat.le_of_ble_eq_true rfl) (Nat.le_add_right 200 L)⟩) ⟨mp_blind, va_recv hKc hPc (ci := 13) (q0 := 0) rfl rfl, fun U hU hW => ⟨rfl, hU, by rw [hU]; exact hPc, va_K.moved hW.alike hKc, hDc.weaken (fun _ _ _ _ => trivial)⟩⟩ rfl rfl hl.1 rfl (lv_room (Nat.le_of_ble_eq_true rfl)) d_Mo_selector_277 ⟨hfit_QsV.1, hfit_QsV.2⟩) hS (fun q _ h => hFc q h) hFc (fun r4 _u t9 H1 locs ht hvm hw hB hz1 hk1 hS => ?_)
          obtain ⟨hP1, hK1, hD1⟩ := hB
          rw [ht] at hP1
          obtain ⟨hP, hD⟩ := va_join (wr := [(Qs.qq, .inl (cI, (8 * Qs.C), .inl Qs.qf)), (Qs.qe, .inl (cL, (3 * Qs.C), .inr (.inl Qs.ef))), (tv, .inr (12, MF 13 (tw V))), (V.au, .inl (cC, V.U, .inl V.un))]) (w1 := [(mo, .inr (13, MF 30 (rf (rs v Qs o) (skipH f n (j0 + 1)) b0))), (qx, .inl (cB, NN, .inl f))]) hP hD [0, 1] [2, 3, 4, 5] rfl rfl (by decide) (by decide) hk1 hFc hP1 hD1
          generalize H1 = H at hP hS ⊢
          have hP : va_P (dC, dI) classes [(Qs.qq, .inl (cI, (8 * Qs.C), .inl Qs.qf)), (Qs.qe, .inl (cL, (3 * Qs.C), .inr (.inl Qs.ef))), (tv, .inr (12, MF 13 (tw V))), (V.au, .inl (cC, V.U, .inl V.un)), (mo, .inr (13, MF 30 (rf (rs v Qs o) (skipH f n (j0 + 1)) b0))), (qx, .inl (cB, NN, .inl f))] H := hP
          have hD : va_D A [(Qs.qq, .inl (cI, (8 * Qs.C), .inl Qs.qf)), (Qs.qe, .inl (cL, (3 * Qs.C), .inr (.inl Qs.ef))), (tv, .inr (12, MF 13 (tw V))), (V.au, .inl (cC, V.U, .inl V.un)), (mo, .inr (13, MF 30 (rf (rs v Qs o) (skipH f n (j0 + 1)) b0))), (qx, .inl (cB, NN, .inl f))] := hD
          have hP := hP.sub (ws' := [(mo, .inr (13, MF 30 (rf (rs v Qs o) (skipH f n (j0 + 1)) b0))), (qx, .inl (cB, NN, .inl f)), (Qs.qq, .inl (cI, (8 * Qs.C), .inl Qs.qf)), (Qs.qe, .inl (cL, (3 * Qs.C), .inr (.inl Qs.ef))), (tv, .inr (12, MF 13 (tw V))), (V.au, .inl (cC, V.U, .inl V.un))]) [4, 5, 0, 1, 2, 3] rfl
          have hD := hD.sub (ws' := [(mo, .inr (13, MF 30 (rf (rs v Qs o) (skipH f n (j0 + 1)) b0))), (qx, .inl (cB, NN, .inl f)), (Qs.qq, .inl (cI, (8 * Qs.C), .inl Qs.qf)), (Qs.qe, .inl (cL, (3 * Qs.C), .inr (.inl Qs.ef))), (tv, .inr (12, MF 13 (tw V))), (V.au, .inl (cC, V.U, .inl V.un))]) [4, 5, 0, 1, 2, 3] (by decide) rfl
          have h_r4 : r4 = hereV f n (skipH f n (j0 + 1)) := hw
          have hPc := hP.sub (ws' := []) [] rfl
          have hDc := hD.sub (ws' := []) [] (by decide) rfl
          have hKc := hK.sub (tys' := []) [] rfl
          have hFc := va_free (wc := []) hD hS hA [] rfl
          refine va_calli (va_runS (As := [.int r4]) (rest := []) ⟨hx, hb, hml, hown, hts⟩ (c_Mo_digit l dC dI H r4) (va_cwS 1 hts (gt_S (own := R_Mo) (i := 166) (y := y_Mo_digit) i_Mo_digit w_1332 w_1333 w_7) rfl rfl rfl (by decide +kernel) ⟨Nat.le_trans (m := 7) (Nat.le_of_ble_eq_true rfl) (Nat.le_add_right 7 F), Nat.le_trans (m := 200) (Nat.le_of_ble_eq_true rfl) (Nat.le_add_right 200 L)⟩) ⟨mp_blind, fun U hU hW => ⟨rfl, hU, by rw [hU]; exact hPc, va_K.moved hW.alike hKc, hDc.weaken (fun _ _ _ _ => trivial)⟩⟩ rfl rfl hl.1 rfl (lv_room (Nat.le_of_ble_eq_true rfl)) d_Mo_selector_280 ⟨hfit_QsV.1, hfit_QsV.2⟩) hS (fun q _ h => hFc q h) hFc (fun d4 _u t9 H1 locs ht hvm hw hB hz1 hk1 hS => ?_)
          obtain ⟨hP1, hK1, hD1⟩ := hB
          rw [ht] at hP1
          obtain ⟨hP, hD⟩ := va_join (wr := [(mo, .inr (13, MF 30 (rf (rs v Qs o) (skipH f n (j0 + 1)) b0))), (qx, .inl (cB, NN, .inl f)), (Qs.qq, .inl (cI, (8 * Qs.C), .inl Qs.qf)), (Qs.qe, .inl (cL, (3 * Qs.C), .inr (.inl Qs.ef))), (tv, .inr (12, MF 13 (tw V))), (V.au, .inl (cC, V.U, .inl V.un))]) (w1 := []) hP hD [] [0, 1, 2, 3, 4, 5] rfl rfl (by decide) (by decide) hk1 hFc hP1 hD1
          generalize H1 = H at hP hS ⊢
          have hP : va_P (dC, dI) classes [(mo, .inr (13, MF 30 (rf (rs v Qs o) (skipH f n (j0 + 1)) b0))), (qx, .inl (cB, NN, .inl f)), (Qs.qq, .inl (cI, (8 * Qs.C), .inl Qs.qf)), (Qs.qe, .inl (cL, (3 * Qs.C), .inr (.inl Qs.ef))), (tv, .inr (12, MF 13 (tw V))), (V.au, .inl (cC, V.U, .inl V.un))] H := hP
          have hD : va_D A [(mo, .inr (13, MF 30 (rf (rs v Qs o) (skipH f n (j0 + 1)) b0))), (qx, .inl (cB, NN, .inl f)), (Qs.qq, .inl (cI, (8 * Qs.C), .inl Qs.qf)), (Qs.qe, .inl (cL, (3 * Qs.C), .inr (.inl Qs.ef))), (tv, .inr (12, MF 13 (tw V))), (V.au, .inl (cC, V.U, .inl V.un))] := hD
          have h_d4 := dg_01 hw
          refine lv_if_eq (tgt := 297) hx hb d_Mo_selector_283 (by decide) (fun c283 => ?_) (fun c283 => ?_)
          · have hs9 : selP f n (orL f n) false i = (slT f n none (skipH f n (j0 + 1))).map (fun j => (j.1, false, slcS a0 j.2.1 j.2.2)) := by rw [hsl, slP_n (fun h => h.elim (fun h => c273 (h_r3.trans h)) (by rw [← h_r4]; exact h_d4.2 c283))]
            exact jn297 (Qs, (skipH f n (j0 + 1)), b0, none) _ _ _ ⟨hQk_Qs, hG_QsV, by show Qs.R = Q.R + 1; omega, hl1_Qs, hEx_QsV, hk0_Qs, by show i + 1 ≤ (skipH f n (j0 + 1)); omega, by show (skipH f n (j0 + 1)) ≤ n; omega, hs9, hsas.b0⟩ hP hD hS (lv_sub hl [0, 1, 2, 3] rfl)
          · refine lv_aload_n hx hb d_Mo_selector_286 rfl (lv_at hl 0 rfl) ?_
            refine lv_iload_n hx hb d_Mo_selector_287 rfl (lv_at hl 3 rfl) ?_
            refine lv_iconst (v := 1) hx hb d_Mo_selector_288 (by decide) ?_
            refine W.eq (g2 := F0 m 289 ls [.int (nI 1), .int (nI Q.R), .ref mo]) rfl ?_
            have hPc := hP.sub (ws' := [(mo, .inr (13, MF 30 (rf (rs v Qs o) (skipH f n (j0 + 1)) b0))), (qx, .inl (cB, NN, .inl f)), (Qs.qq, .inl (cI, (8 * Qs.C), .inl Qs.qf)), (Qs.qe, .inl (cL, (3 * Qs.C), .inr (.inl Qs.ef)))]) [0, 1, 2, 3] rfl
            have hDc := hD.sub (ws' := [(mo, .inr (13, MF 30 (rf (rs v Qs o) (skipH f n (j0 + 1)) b0))), (qx, .inl (cB, NN, .inl f)), (Qs.qq, .inl (cI, (8 * Qs.C), .inl Qs.qf)), (Qs.qe, .inl (cL, (3 * Qs.C), .inr (.inl Qs.ef)))]) [0, 1, 2, 3] (by decide) rfl
            have hKc := hK.sub (tys' := [(cB, .byte), (cI, .int), (cL, .long)]) [0, 1, 2] rfl
            have hFc := va_free (wc := [(mo, .inr (13, MF 30 (rf (rs v Qs o) (skipH f n (j0 + 1)) b0))), (qx, .inl (cB, NN, .inl f)), (Qs.qq, .inl (cI, (8 * Qs.C), .inl Qs.qf)), (Qs.qe, .inl (cL, (3 * Qs.C), .inr (.inl Qs.ef)))]) hD hS hA [0, 1, 2, 3] rfl
            refine va_calli (va_runV (As := [.int (nI Q.R), .int (nI 1)]) (rest := []) ⟨hx, hb, hml, hown, hts⟩ (c_Mo_whole l dC dI mo H v cB cI cL qx NN f n Qs o (skipH f n (j0 + 1)) b0 Q.R 1 hnN (by omega) (by omega) h6 h8 hQk_Qs (by omega) (by decide)) (cwV 2 hts (gt_V (own := R_Mo) (C := R_Mo) (i := 303) (y := y_Mo_whole) i_Mo_whole w_1465 w_1467 (gt_sel (y := y_Mo_whole) (n := 30) (by decide +kernel)) w_7) rfl rfl rfl (by decide +kernel) ⟨Nat.le_trans (m := 7) (Nat.le_of_ble_eq_true rfl) (Nat.le_add_right 7 F), Nat.le_trans (m := 200) (Nat.le_of_ble_eq_true rfl) (Nat.le_add_right 200 L)⟩) ⟨mp_blind, va_recv hKc hPc (ci := 13) (q0 := 0) rfl rfl, fun U hU hW => ⟨rfl, hU, by rw [hU]; exact hPc, va_K.moved hW.alike hKc, hDc.weaken (fun _ _ _ _ => trivial)⟩⟩ rfl rfl hl.1 rfl (lv_room (Nat.le_of_ble_eq_true rfl)) d_Mo_selector_289 ⟨hfit_QsV.1, hfit_QsV.2⟩) hS (fun q _ h => hFc q h) hFc (fun r0 ⟨j4, b_j4, qf2, ef2⟩ t9 H1 locs ht hvm hw hB hz1 hk1 hS => ?_)
            obtain ⟨hP1, hK1, hD1⟩ := hB
            rw [ht] at hP1
            obtain ⟨hP, hD⟩ := va_join (wr := [(tv, .inr (12, MF 13 (tw V))), (V.au, .inl (cC, V.U, .inl V.un))]) (w1 := [(mo, .inr (13, MF 30 (rf (rs v Qs o) j4 b_j4))), (qx, .inl (cB, NN, .inl f)), (Qs.qq, .inl (cI, (8 * Qs.C), .inl qf2)), (Qs.qe, .inl (cL, (3 * Qs.C), .inr (.inl ef2)))]) hP hD [0, 1, 2, 3] [4, 5] rfl rfl (by decide) (by decide) hk1 hFc hP1 hD1
            generalize H1 = H at hP hS ⊢
            have hP : va_P (dC, dI) classes [(tv, .inr (12, MF 13 (tw V))), (V.au, .inl (cC, V.U, .inl V.un)), (mo, .inr (13, MF 30 (rf (rs v Qs o) j4 b_j4))), (qx, .inl (cB, NN, .inl f)), (Qs.qq, .inl (cI, (8 * Qs.C), .inl qf2)), (Qs.qe, .inl (cL, (3 * Qs.C), .inr (.inl ef2)))] H := hP
            have hD : va_D A [(tv, .inr (12, MF 13 (tw V))), (V.au, .inl (cC, V.U, .inl V.un)), (mo, .inr (13, MF 30 (rf (rs v Qs o) j4 b_j4))), (qx, .inl (cB, NN, .inl f)), (Qs.qq, .inl (cI, (8 * Qs.C), .inl qf2)), (Qs.qe, .inl (cL, (3 * Qs.C), .inr (.inl ef2)))] := hD
            have hP := hP.sub (ws' := [(mo, .inr (13, MF 30 (rf (rs v Qs o) j4 b_j4))), (qx, .inl (cB, NN, .inl f)), (Qs.qq, .inl (cI, (8 * Qs.C), .inl qf2)), (Qs.qe, .inl (cL, (3 * Qs.C), .inr (.inl ef2))), (tv, .inr (12, MF 13 (tw V))), (V.au, .inl (cC, V.U, .inl V.un))]) [2, 3, 4, 5, 0, 1] rfl
            have hD := hD.sub (ws' := [(mo, .inr (13, MF 30 (rf (rs v Qs o) j4 b_j4))), (qx, .inl (cB, NN, .inl f)), (Qs.qq, .inl (cI, (8 * Qs.C), .inl qf2)), (Qs.qe, .inl (cL, (3 * Qs.C), .inr (.inl ef2))), (tv, .inr (12, MF 13 (tw V))), (V.au, .inl (cC, V.U, .inl V.un))]) [2, 3, 4, 5, 0, 1] (by decide) rfl
            rcases hw with ⟨hw1, val_j4, hw2, hw3, hw4, hw5⟩ | ⟨hw1, hw2, hw3, hw4⟩
            · have hw_j4 : whM f n (skipH f n (j0 + 1)) = some (val_j4, j4) := hw2
              have hw3 : qf2 = upd Qs.qf (8 * Q.R + 2) (Qs.qf (8 * Q.R + 2) ||| 1 <<< (nI 1 &&& 31)) := hw3
              have hw4 : ef2 = vp_updL Qs.ef (3 * Q.R + 1) val_j4 := hw4
              have hn_j4 : j4 ≤ n := hw5
              have hlt_j4 := whM_lt hw_j4
              subst hw1
              obtain ⟨Qb, e_Qb⟩ : ∃ z : QS, z = QS.mk Qs.C Qs.R Qs.qq Qs.qe qf2 ef2 := ⟨_, rfl⟩
              have hP : va_P (dC, dI) classes [(mo, .inr (13, MF 30 (rf (rs v Qb o) j4 b_j4))), (qx, .inl (cB, NN, .inl f)), (Qb.qq, .inl (cI, (8 * Qb.C), .inl Qb.qf)), (Qb.qe, .inl (cL, (3 * Qb.C), .inr (.inl Qb.ef))), (tv, .inr (12, MF 13 (tw V))), (V.au, .inl (cC, V.U, .inl V.un))] H := by subst e_Qb; exact hP
              have hD : va_D A [(mo, .inr (13, MF 30 (rf (rs v Qb o) j4 b_j4))), (qx, .inl (cB, NN, .inl f)), (Qb.qq, .inl (cI, (8 * Qb.C), .inl Qb.qf)), (Qb.qe, .inl (cL, (3 * Qb.C), .inr (.inl Qb.ef))), (tv, .inr (12, MF 13 (tw V))), (V.au, .inl (cC, V.U, .inl V.un))] := by subst e_Qb; exact hD
              have hf_Qb : Qb.C = Qs.C ∧ Qb.R = Qs.R ∧ Qb.qf = qf2 := by rw [e_Qb]; exact ⟨rfl, rfl, rfl⟩
              have he_Qb : Qb.ef = vp_updL Qs.ef (3 * Q.R + 1) val_j4 := by rw [e_Qb]; exact hw4
              have h2_Qb : Qb.qf (8 * Q.R + 2) = Qs.qf (8 * Q.R + 2) ||| 1 <<< (nI 1 &&& 31) := by rw [hf_Qb.2.2, hw3]; exact pk_us
              have hev_Qb : Qb.ef (3 * Q.R + 1) = val_j4 := by rw [he_Qb]; exact updL_s
              have hQk_Qb : QOK Qb := by rw [e_Qb, hw4]; exact ⟨hQk_Qs.1, hQk_Qs.2.1, hQk_Qs.2.2.1, QOK_upd hQk_Qs.2.2.2 (whM_gL hw_j4)⟩
              have hG_QbV : GQ (Q.R + 8 * (n - i) + 4) (V.us + (n + 12 - i)) Q V Qb V := by unfold GQ at hG_QsV ⊢; rw [hf_Qb.1]; exact hG_QsV
              refine w_same (fun hq => ?_)
              refine w_tight (k := cQ Q V Qb V) (n := sQ Q V Qb V) (by unfold cQ sQ at hq ⊢; rw [hf_Qb.1]; exact hq) ?_
              have hR_Qb := hf_Qb.2.1
              have hqb_QbV : Qb.R ≤ Qb.C ∧ Qb.C ≤ 100000 := ⟨hQk_Qb.2.2.1, hQk_Qb.2.1⟩
              have hfit_QbV := hG_QbV.fits
              have hk0_Qb : Qb.qf (8 * Q.R + 0) = 4 := by rw [hf_Qb.2.2, hw3, pk_un (by omega)]; exact hk0_Qs
              have hl1_Qb : Qb.qf (8 * Q.R + 1) = -1 := by rw [hf_Qb.2.2, hw3, pk_un (by omega)]; exact hl1_Qs
              have hEx_QbV : alr Q V Qb V 0 Q.R := hEx_QsV.tr (alr_who (hf_Qb.2.2.trans hw3) he_Qb (by decide) (by omega))
              refine lv_if_ne (tgt := 297) hx hb d_Mo_selector_292 (by decide) (fun _ => ?_) (fun h => absurd h (by decide))
              have hs9 : selP f n (orL f n) false i = (slT f n (some val_j4) j4).map (fun j => (j.1, false, slcS a0 j.2.1 j.2.2)) := by rw [hsl, slP_y (Or.inr (by rw [← h_r4]; exact h_d4.1 c283)) hw_j4]
              exact jn297 (Qb, j4, b_j4, some val_j4) _ _ _ ⟨hQk_Qb, hG_QbV, by show Qb.R = Q.R + 1; omega, hl1_Qb, hEx_QbV, hk0_Qb, by show i + 1 ≤ j4; omega, by show j4 ≤ n; omega, hs9, hsas.b1 h2_Qb (by rw [he_Qb]; exact updL_n (by omega)) hev_Qb⟩ hP hD hS (lv_sub hl [0, 1, 2, 3] rfl)
            · have hw_j4 : whM f n (skipH f n (j0 + 1)) = none := hw2
              have hw3 : qf2 = Qs.qf := hw3
              have hw4 : ef2 = Qs.ef := hw4
              subst hw1
              subst hw3
              subst hw4
              have hP : va_P (dC, dI) classes [(mo, .inr (13, MF 30 (rf (rs v Qs o) j4 b_j4))), (qx, .inl (cB, NN, .inl f)), (Qs.qq, .inl (cI, (8 * Qs.C), .inl Qs.qf)), (Qs.qe, .inl (cL, (3 * Qs.C), .inr (.inl Qs.ef))), (tv, .inr (12, MF 13 (tw V))), (V.au, .inl (cC, V.U, .inl V.un))] H := hP
              have hD : va_D A [(mo, .inr (13, MF 30 (rf (rs v Qs o) j4 b_j4))), (qx, .inl (cB, NN, .inl f)), (Qs.qq, .inl (cI, (8 * Qs.C), .inl Qs.qf)), (Qs.qe, .inl (cL, (3 * Qs.C), .inr (.inl Qs.ef))), (tv, .inr (12, MF 13 (tw V))), (V.au, .inl (cC, V.U, .inl V.un))] := hD
              refine lv_if_ne (tgt := 297) hx hb d_Mo_selector_292 (by decide) (fun h => absurd h (by decide)) (fun _ => ?_)
              refine lv_iconst (v := (-1)) hx hb d_Mo_selector_295 (by decide) ?_
              have hfin : selP f n (orL f n) false i = none := by rw [hsl, slP_f (Or.inr (by rw [← h_r4]; exact h_d4.1 c283)) hw_j4]; rfl
              refine w_same (fun hq => ?_)
              refine W.widen (k := kcap Q (Q.R + 8 * (n - i) + 4) + qcap V (V.us + (n + 12 - i))) (n := 22 * kcap Q (Q.R + 8 * (n - i) + 4) + 2 * qcap V (V.us + (n + 12 - i))) hfit_QsV.1 hfit_QsV.2 ?_
              have hPo : QPo n i 4 Q V (Qs, V, j4, b_j4, o) := ⟨hQk_Qs, hG_QsV, ⟨[], TX.rf hTk_V, Nat.zero_le _⟩, by show Q.R ≤ Qs.R; omega, by show Qs.R ≤ Q.R + 8 * (n - i) + 4; omega⟩
              exact W.iret (v := -1) hx hb hr (fun t9 ht hW => ⟨⟨-1, (Qs, V, j4, b_j4, o), rfl, ⟨hPo, Or.inr ⟨rfl, hfin⟩⟩, ⟨by rw [ht]; exact hP, va_K.moved hW.alike hK, hD⟩, by rw [ht]; exact hq⟩, hS.F ht⟩) hS.2.2 d_Mo_selector_296
      · rintro ⟨Qz, j2, b3, e0⟩ H locs ls hI297 hP hD hS hl
        have hP : va_P (dC, dI) classes [(mo, .inr (13, MF 30 (rf (rs v Qz o) j2 b3))), (qx, .inl (cB, NN, .inl f)), (Qz.qq, .inl (cI, (8 * Qz.C), .inl Qz.qf)), (Qz.qe, .inl (cL, (3 * Qz.C), .inr (.inl Qz.ef))), (tv, .inr (12, MF 13 (tw V))), (V.au, .inl (cC, V.U, .inl V.un))] H := hP
        have hD : va_D A [(mo, .inr (13, MF 30 (rf (rs v Qz o) j2 b3))), (qx, .inl (cB, NN, .inl f)), (Qz.qq, .inl (cI, (8 * Qz.C), .inl Qz.qf)), (Qz.qe, .inl (cL, (3 * Qz.C), .inr (.inl Qz.ef))), (tv, .inr (12, MF 13 (tw V))), (V.au, .inl (cC, V.U, .inl V.un))] := hD
        have hl : lv_has ls 5 [(0, .ref mo), (1, .int 0), (2, .int r1), (3, .int (nI Q.R))] := hl
        obtain ⟨hQk_Qz, hG_QzV, hR_Qz, hl1_Qz, hEx_QzV, hk0_Qz, hj3, hj4, hsl2, hsb⟩ := hI297
        have hqb_QzV : Qz.R ≤ Qz.C ∧ Qz.C ≤ 100000 := ⟨hQk_Qz.2.2.1, hQk_Qz.2.1⟩
        have hfit_QzV := hG_QzV.fits
        clear hsl hj1 hj2 hsas hsa
        refine lv_aload_n hx hb d_Mo_selector_297 rfl (lv_at hl 0 rfl) ?_
        refine va_get (D := (dC, dI)) (ci := 13) (v := .int (nI j2)) (C := R_Mo) (T := F_Mo) (N := 30) hx hb hts in_Mo hown hK hP 0 rfl rfl 7 (by decide) (hts _ w_1096) (fun _ h9 => h9) (MFg (by decide) rf_7) d_Mo_selector_298 ?_
        refine lv_istore (lv' := [(4, .int (nI j2)), (0, .ref mo), (1, .int 0), (2, .int r1), (3, .int (nI Q.R))]) hx hb d_Mo_selector_301 hl (by decide) rfl (fun ls hl => ?_)
        refine lv_aload_n hx hb d_Mo_selector_303 rfl (lv_at hl 1 rfl) ?_
        have hPc := hP.sub (ws' := [(mo, .inr (13, MF 30 (rf (rs v Qz o) j2 b3))), (qx, .inl (cB, NN, .inl f))]) [0, 1] rfl
        have hDc := hD.sub (ws' := [(mo, .inr (13, MF 30 (rf (rs v Qz o) j2 b3))), (qx, .inl (cB, NN, .inl f))]) [0, 1] (by decide) rfl
        have hKc := hK.sub (tys' := [(cB, .byte)]) [0] rfl
        have hFc := va_free (wc := [(mo, .inr (13, MF 30 (rf (rs v Qz o) j2 b3))), (qx, .inl (cB, NN, .inl f))]) hD hS hA [0, 1] rfl
        refine va_callv (va_runV (As := []) (rest := []) ⟨hx, hb, hml, hown, hts⟩ (c_Mo_blanks l dC dI mo H (rf (rs v Qz o) j2 b3) cB qx NN f n j2 (by omega) (by omega) (by omega) ((rf_ne (by decide) (by decide)).trans ((rs_ne (by decide) (by decide) (by decide) (by decide)).trans h6)) rf_7 ((rf_ne (by decide) (by decide)).trans ((rs_ne (by decide) (by decide) (by decide) (by decide)).trans h8))) (cwV 0 hts (gt_V (own := R_Mo) (C := R_Mo) (i := 184) (y := y_Mo_blanks) i_Mo_blanks w_1229 w_1231 (gt_sel (y := y_Mo_blanks) (n := 30) (by decide +kernel)) w_7) rfl rfl rfl (by decide +kernel) ⟨Nat.le_trans (m := 7) (Nat.le_of_ble_eq_true rfl) (Nat.le_add_right 7 F), Nat.le_trans (m := 200) (Nat.le_of_ble_eq_true rfl) (Nat.le_add_right 200 L)⟩) ⟨mp_blind, va_recv hKc hPc (ci := 13) (q0 := 0) rfl rfl, fun U hU hW => ⟨rfl, hU, by rw [hU]; exact hPc, va_K.moved hW.alike hKc, hDc.weaken (fun _ _ _ _ => trivial)⟩⟩ rfl rfl hl.1 rfl (lv_room (Nat.le_of_ble_eq_true rfl)) d_Mo_selector_304 ⟨hfit_QzV.1, hfit_QzV.2⟩) hS (fun q _ h => hFc q h) hFc (fun _u t9 H1 locs ht hvm hw hB hz1 hk1 hS => ?_)
        obtain ⟨hP1, hK1, hD1⟩ := hB
        rw [ht] at hP1
        obtain ⟨hP, hD⟩ := va_join (wr := [(Qz.qq, .inl (cI, (8 * Qz.C), .inl Qz.qf)), (Qz.qe, .inl (cL, (3 * Qz.C), .inr (.inl Qz.ef))), (tv, .inr (12, MF 13 (tw V))), (V.au, .inl (cC, V.U, .inl V.un))]) (w1 := [(mo, .inr (13, MF 30 (va_up (rf (rs v Qz o) j2 b3) 7 (.int (nI (skipH f n j2)))))), (qx, .inl (cB, NN, .inl f))]) hP hD [0, 1] [2, 3, 4, 5] rfl rfl (by decide) (by decide) hk1 hFc hP1 hD1
        generalize H1 = H at hP hS ⊢
        have hP : va_P (dC, dI) classes [(Qz.qq, .inl (cI, (8 * Qz.C), .inl Qz.qf)), (Qz.qe, .inl (cL, (3 * Qz.C), .inr (.inl Qz.ef))), (tv, .inr (12, MF 13 (tw V))), (V.au, .inl (cC, V.U, .inl V.un)), (mo, .inr (13, MF 30 (va_up (rf (rs v Qz o) j2 b3) 7 (.int (nI (skipH f n j2)))))), (qx, .inl (cB, NN, .inl f))] H := hP
        have hD : va_D A [(Qz.qq, .inl (cI, (8 * Qz.C), .inl Qz.qf)), (Qz.qe, .inl (cL, (3 * Qz.C), .inr (.inl Qz.ef))), (tv, .inr (12, MF 13 (tw V))), (V.au, .inl (cC, V.U, .inl V.un)), (mo, .inr (13, MF 30 (va_up (rf (rs v Qz o) j2 b3) 7 (.int (nI (skipH f n j2)))))), (qx, .inl (cB, NN, .inl f))] := hD
        have hP := hP.sub (ws' := [(mo, .inr (13, MF 30 (va_up (rf (rs v Qz o) j2 b3) 7 (.int (nI (skipH f n j2)))))), (qx, .inl (cB, NN, .inl f)), (Qz.qq, .inl (cI, (8 * Qz.C), .inl Qz.qf)), (Qz.qe, .inl (cL, (3 * Qz.C), .inr (.inl Qz.ef))), (tv, .inr (12, MF 13 (tw V))), (V.au, .inl (cC, V.U, .inl V.un))]) [4, 5, 0, 1, 2, 3] rfl
        have hD := hD.sub (ws' := [(mo, .inr (13, MF 30 (va_up (rf (rs v Qz o) j2 b3) 7 (.int (nI (skipH f n j2)))))), (qx, .inl (cB, NN, .inl f)), (Qz.qq, .inl (cI, (8 * Qz.C), .inl Qz.qf)), (Qz.qe, .inl (cL, (3 * Qz.C), .inr (.inl Qz.ef))), (tv, .inr (12, MF 13 (tw V))), (V.au, .inl (cC, V.U, .inl V.un))]) [4, 5, 0, 1, 2, 3] (by decide) rfl
        rw [rf_u7] at hP hD
        have hP : va_P (dC, dI) classes [(mo, .inr (13, MF 30 (rf (rs v Qz o) (skipH f n j2) b3))), (qx, .inl (cB, NN, .inl f)), (Qz.qq, .inl (cI, (8 * Qz.C), .inl Qz.qf)), (Qz.qe, .inl (cL, (3 * Qz.C), .inr (.inl Qz.ef))), (tv, .inr (12, MF 13 (tw V))), (V.au, .inl (cC, V.U, .inl V.un))] H := hP
        have hD : va_D A [(mo, .inr (13, MF 30 (rf (rs v Qz o) (skipH f n j2) b3))), (qx, .inl (cB, NN, .inl f)), (Qz.qq, .inl (cI, (8 * Qz.C), .inl Qz.qf)), (Qz.qe, .inl (cL, (3 * Qz.C), .inr (.inl Qz.ef))), (tv, .inr (12, MF 13 (tw V))), (V.au, .inl (cC, V.U, .inl V.un))] := hD
        have hsk_307 := skipH_n (f := f) (show j2 ≤ n by omega)
        refine lv_aload_n hx hb d_Mo_selector_307 rfl (lv_at hl 1 rfl) ?_
        have hPc := hP.sub (ws' := [(mo, .inr (13, MF 30 (rf (rs v Qz o) (skipH f n j2) b3))), (qx, .inl (cB, NN, .inl f))]) [0, 1] rfl
        have hDc := hD.sub (ws' := [(mo, .inr (13, MF 30 (rf (rs v Qz o) (skipH f n j2) b3))), (qx, .inl (cB, NN, .inl f))]) [0, 1] (by decide) rfl
        have hKc := hK.sub (tys' := [(cB, .byte)]) [0] rfl
        have hFc := va_free (wc := [(mo, .inr (13, MF 30 (rf (rs v Qz o) (skipH f n j2) b3))), (qx, .inl (cB, NN, .inl f))]) hD hS hA [0, 1] rfl
        refine va_calli (va_runV (As := []) (rest := []) ⟨hx, hb, hml, hown, hts⟩ (c_Mo_c l dC dI mo H (rf (rs v Qz o) (skipH f n j2) b3) cB qx NN f n (skipH f n j2) (by omega) (by omega) (by omega) ((rf_ne (by decide) (by decide)).trans ((rs_ne (by decide) (by decide) (by decide) (by decide)).trans h6)) rf_7 ((rf_ne (by decide) (by decide)).trans ((rs_ne (by decide) (by decide) (by decide) (by decide)).trans h8))) (cwV 0 hts (gt_V (own := R_Mo) (C := R_Mo) (i := 147) (y := y_Mo_c) i_Mo_c w_1233 w_1235 (gt_sel (y := y_Mo_c) (n := 30) (by decide +kernel)) w_7) rfl rfl rfl (by decide +kernel) ⟨Nat.le_trans (m := 7) (Nat.le_of_ble_eq_true rfl) (Nat.le_add_right 7 F), Nat.le_trans (m := 200) (Nat.le_of_ble_eq_true rfl) (Nat.le_add_right 200 L)⟩) ⟨mp_blind, va_recv hKc hPc (ci := 13) (q0 := 0) rfl rfl, fun U hU hW => ⟨rfl, hU, by rw [hU]; exact hPc, va_K.moved hW.alike hKc, hDc.weaken (fun _ _ _ _ => trivial)⟩⟩ rfl rfl hl.1 rfl (lv_room (Nat.le_of_ble_eq_true rfl)) d_Mo_selector_308 ⟨hfit_QzV.1, hfit_QzV.2⟩) hS (fun q _ h => hFc q h) hFc (fun r5 _u t9 H1 locs ht hvm hw hB hz1 hk1 hS => ?_)
        obtain ⟨hP1, hK1, hD1⟩ := hB
        rw [ht] at hP1
        obtain ⟨hP, hD⟩ := va_join (wr := [(Qz.qq, .inl (cI, (8 * Qz.C), .inl Qz.qf)), (Qz.qe, .inl (cL, (3 * Qz.C), .inr (.inl Qz.ef))), (tv, .inr (12, MF 13 (tw V))), (V.au, .inl (cC, V.U, .inl V.un))]) (w1 := [(mo, .inr (13, MF 30 (rf (rs v Qz o) (skipH f n j2) b3))), (qx, .inl (cB, NN, .inl f))]) hP hD [0, 1] [2, 3, 4, 5] rfl rfl (by decide) (by decide) hk1 hFc hP1 hD1
        generalize H1 = H at hP hS ⊢
        have hP : va_P (dC, dI) classes [(Qz.qq, .inl (cI, (8 * Qz.C), .inl Qz.qf)), (Qz.qe, .inl (cL, (3 * Qz.C), .inr (.inl Qz.ef))), (tv, .inr (12, MF 13 (tw V))), (V.au, .inl (cC, V.U, .inl V.un)), (mo, .inr (13, MF 30 (rf (rs v Qz o) (skipH f n j2) b3))), (qx, .inl (cB, NN, .inl f))] H := hP
        have hD : va_D A [(Qz.qq, .inl (cI, (8 * Qz.C), .inl Qz.qf)), (Qz.qe, .inl (cL, (3 * Qz.C), .inr (.inl Qz.ef))), (tv, .inr (12, MF 13 (tw V))), (V.au, .inl (cC, V.U, .inl V.un)), (mo, .inr (13, MF 30 (rf (rs v Qz o) (skipH f n j2) b3))), (qx, .inl (cB, NN, .inl f))] := hD
        have hP := hP.sub (ws' := [(mo, .inr (13, MF 30 (rf (rs v Qz o) (skipH f n j2) b3))), (qx, .inl (cB, NN, .inl f)), (Qz.qq, .inl (cI, (8 * Qz.C), .inl Qz.qf)), (Qz.qe, .inl (cL, (3 * Qz.C), .inr (.inl Qz.ef))), (tv, .inr (12, MF 13 (tw V))), (V.au, .inl (cC, V.U, .inl V.un))]) [4, 5, 0, 1, 2, 3] rfl
        have hD := hD.sub (ws' := [(mo, .inr (13, MF 30 (rf (rs v Qz o) (skipH f n j2) b3))), (qx, .inl (cB, NN, .inl f)), (Qz.qq, .inl (cI, (8 * Qz.C), .inl Qz.qf)), (Qz.qe, .inl (cL, (3 * Qz.C), .inr (.inl Qz.ef))), (tv, .inr (12, MF 13 (tw V))), (V.au, .inl (cC, V.U, .inl V.un))]) [4, 5, 0, 1, 2, 3] (by decide) rfl
        have h_r5 : r5 = hereV f n (skipH f n j2) := hw
        refine lv_bipush (v := 58) hx hb d_Mo_selector_311 (by decide) ?_
        refine lv_icmp_eq (tgt := 324) hx hb d_Mo_selector_313 (by decide) (fun c313 => ?_) (fun c313 => ?_)
        · refine lv_aload_n hx hb d_Mo_selector_324 rfl (lv_at hl 1 rfl) ?_
          refine lv_dup hx hb d_Mo_selector_325 rfl ?_
          refine va_get (D := (dC, dI)) (ci := 13) (v := .int (nI (skipH f n j2))) (C := R_Mo) (T := F_Mo) (N := 30) hx hb hts in_Mo hown hK hP 0 rfl rfl 7 (by decide) (hts _ w_1096) (fun _ h9 => h9) (MFg (by decide) rf_7) d_Mo_selector_326 ?_
          refine lv_iconst (v := 1) hx hb d_Mo_selector_329 (by decide) ?_
          refine lv_iadd hx hb d_Mo_selector_330 ?_
          have hlt331 := here_in (h_r5.symm.trans c313) (by decide)
          refine W.eq (g2 := F0 m 331 ls [.int (nI ((skipH f n j2) + 1)), .ref mo]) (by rw [show ((nI (skipH f n j2)) + 1) = (nI ((skipH f n j2) + 1)) from nI_1 _]) ?_
          refine va_put (D := (dC, dI)) (ci := 13) (v := .int (nI ((skipH f n j2) + 1))) (ty := .int) (C := R_Mo) (T := F_Mo) (N := 30) hx hb hts in_Mo t_Mo t_Mo_ok n_Mo hown hK hP hD hS 0 rfl rfl 7 (by decide) (hts _ w_1096) (fun _ h9 => h9) rfl (by decide +kernel) rfl rfl (by rw [MFl]; decide) d_Mo_selector_331 (fun H locs hP hD hS => ?_)
          rw [MFs (n := 30) (k := 7) (by decide)] at hP hD
          have hP : va_P (dC, dI) classes [(mo, .inr (13, MF 30 (va_up (rf (rs v Qz o) (skipH f n j2) b3) 7 (.int (nI ((skipH f n j2) + 1)))))), (qx, .inl (cB, NN, .inl f)), (Qz.qq, .inl (cI, (8 * Qz.C), .inl Qz.qf)), (Qz.qe, .inl (cL, (3 * Qz.C), .inr (.inl Qz.ef))), (tv, .inr (12, MF 13 (tw V))), (V.au, .inl (cC, V.U, .inl V.un))] H := hP
          have hD : va_D A [(mo, .inr (13, MF 30 (va_up (rf (rs v Qz o) (skipH f n j2) b3) 7 (.int (nI ((skipH f n j2) + 1)))))), (qx, .inl (cB, NN, .inl f)), (Qz.qq, .inl (cI, (8 * Qz.C), .inl Qz.qf)), (Qz.qe, .inl (cL, (3 * Qz.C), .inr (.inl Qz.ef))), (tv, .inr (12, MF 13 (tw V))), (V.au, .inl (cC, V.U, .inl V.un))] := hD
          rw [rf_u7] at hP hD
          have hP : va_P (dC, dI) classes [(mo, .inr (13, MF 30 (rf (rs v Qz o) ((skipH f n j2) + 1) b3))), (qx, .inl (cB, NN, .inl f)), (Qz.qq, .inl (cI, (8 * Qz.C), .inl Qz.qf)), (Qz.qe, .inl (cL, (3 * Qz.C), .inr (.inl Qz.ef))), (tv, .inr (12, MF 13 (tw V))), (V.au, .inl (cC, V.U, .inl V.un))] H := hP
          have hD : va_D A [(mo, .inr (13, MF 30 (rf (rs v Qz o) ((skipH f n j2) + 1) b3))), (qx, .inl (cB, NN, .inl f)), (Qz.qq, .inl (cI, (8 * Qz.C), .inl Qz.qf)), (Qz.qe, .inl (cL, (3 * Qz.C), .inr (.inl Qz.ef))), (tv, .inr (12, MF 13 (tw V))), (V.au, .inl (cC, V.U, .inl V.un))] := hD
          refine lv_aload_n hx hb d_Mo_selector_334 rfl (lv_at hl 1 rfl) ?_
          refine va_get (D := (dC, dI)) (ci := 13) (v := .int (nI ((skipH f n j2) + 1))) (C := R_Mo) (T := F_Mo) (N := 30) hx hb hts in_Mo hown hK hP 0 rfl rfl 7 (by decide) (hts _ w_1096) (fun _ h9 => h9) (MFg (by decide) rf_7) d_Mo_selector_335 ?_
          refine lv_istore (lv' := [(4, .int (nI ((skipH f n j2) + 1))), (0, .ref mo), (1, .int 0), (2, .int r1), (3, .int (nI Q.R))]) hx hb d_Mo_selector_338 hl (by decide) rfl (fun ls hl => ?_)
          refine lv_aload_n hx hb d_Mo_selector_340 rfl (lv_at hl 1 rfl) ?_
          have hPc := hP.sub (ws' := [(mo, .inr (13, MF 30 (rf (rs v Qz o) ((skipH f n j2) + 1) b3))), (qx, .inl (cB, NN, .inl f))]) [0, 1] rfl
          have hDc := hD.sub (ws' := [(mo, .inr (13, MF 30 (rf (rs v Qz o) ((skipH f n j2) + 1) b3))), (qx, .inl (cB, NN, .inl f))]) [0, 1] (by decide) rfl
          have hKc := hK.sub (tys' := [(cB, .byte)]) [0] rfl
          have hFc := va_free (wc := [(mo, .inr (13, MF 30 (rf (rs v Qz o) ((skipH f n j2) + 1) b3))), (qx, .inl (cB, NN, .inl f))]) hD hS hA [0, 1] rfl
          refine va_callv (va_runV (As := []) (rest := []) ⟨hx, hb, hml, hown, hts⟩ (c_Mo_blanks l dC dI mo H (rf (rs v Qz o) ((skipH f n j2) + 1) b3) cB qx NN f n ((skipH f n j2) + 1) (by omega) (by omega) (by omega) ((rf_ne (by decide) (by decide)).trans ((rs_ne (by decide) (by decide) (by decide) (by decide)).trans h6)) rf_7 ((rf_ne (by decide) (by decide)).trans ((rs_ne (by decide) (by decide) (by decide) (by decide)).trans h8))) (cwV 0 hts (gt_V (own := R_Mo) (C := R_Mo) (i := 184) (y := y_Mo_blanks) i_Mo_blanks w_1229 w_1231 (gt_sel (y := y_Mo_blanks) (n := 30) (by decide +kernel)) w_7) rfl rfl rfl (by decide +kernel) ⟨Nat.le_trans (m := 7) (Nat.le_of_ble_eq_true rfl) (Nat.le_add_right 7 F), Nat.le_trans (m := 200) (Nat.le_of_ble_eq_true rfl) (Nat.le_add_right 200 L)⟩) ⟨mp_blind, va_recv hKc hPc (ci := 13) (q0 := 0) rfl rfl, fun U hU hW => ⟨rfl, hU, by rw [hU]; exact hPc, va_K.moved hW.alike hKc, hDc.weaken (fun _ _ _ _ => trivial)⟩⟩ rfl rfl hl.1 rfl (lv_room (Nat.le_of_ble_eq_true rfl)) d_Mo_selector_341 ⟨hfit_QzV.1, hfit_QzV.2⟩) hS (fun q _ h => hFc q h) hFc (fun _u t9 H1 locs ht hvm hw hB hz1 hk1 hS => ?_)
          obtain ⟨hP1, hK1, hD1⟩ := hB
          rw [ht] at hP1
          obtain ⟨hP, hD⟩ := va_join (wr := [(Qz.qq, .inl (cI, (8 * Qz.C), .inl Qz.qf)), (Qz.qe, .inl (cL, (3 * Qz.C), .inr (.inl Qz.ef))), (tv, .inr (12, MF 13 (tw V))), (V.au, .inl (cC, V.U, .inl V.un))]) (w1 := [(mo, .inr (13, MF 30 (va_up (rf (rs v Qz o) ((skipH f n j2) + 1) b3) 7 (.int (nI (skipH f n ((skipH f n j2) + 1))))))), (qx, .inl (cB, NN, .inl f))]) hP hD [0, 1] [2, 3, 4, 5] rfl rfl (by decide) (by decide) hk1 hFc hP1 hD1
          generalize H1 = H at hP hS ⊢
          have hP : va_P (dC, dI) classes [(Qz.qq, .inl (cI, (8 * Qz.C), .inl Qz.qf)), (Qz.qe, .inl (cL, (3 * Qz.C), .inr (.inl Qz.ef))), (tv, .inr (12, MF 13 (tw V))), (V.au, .inl (cC, V.U, .inl V.un)), (mo, .inr (13, MF 30 (va_up (rf (rs v Qz o) ((skipH f n j2) + 1) b3) 7 (.int (nI (skipH f n ((skipH f n j2) + 1))))))), (qx, .inl (cB, NN, .inl f))] H := hP
          have hD : va_D A [(Qz.qq, .inl (cI, (8 * Qz.C), .inl Qz.qf)), (Qz.qe, .inl (cL, (3 * Qz.C), .inr (.inl Qz.ef))), (tv, .inr (12, MF 13 (tw V))), (V.au, .inl (cC, V.U, .inl V.un)), (mo, .inr (13, MF 30 (va_up (rf (rs v Qz o) ((skipH f n j2) + 1) b3) 7 (.int (nI (skipH f n ((skipH f n j2) + 1))))))), (qx, .inl (cB, NN, .inl f))] := hD
          have hP := hP.sub (ws' := [(mo, .inr (13, MF 30 (va_up (rf (rs v Qz o) ((skipH f n j2) + 1) b3) 7 (.int (nI (skipH f n ((skipH f n j2) + 1))))))), (qx, .inl (cB, NN, .inl f)), (Qz.qq, .inl (cI, (8 * Qz.C), .inl Qz.qf)), (Qz.qe, .inl (cL, (3 * Qz.C), .inr (.inl Qz.ef))), (tv, .inr (12, MF 13 (tw V))), (V.au, .inl (cC, V.U, .inl V.un))]) [4, 5, 0, 1, 2, 3] rfl
          have hD := hD.sub (ws' := [(mo, .inr (13, MF 30 (va_up (rf (rs v Qz o) ((skipH f n j2) + 1) b3) 7 (.int (nI (skipH f n ((skipH f n j2) + 1))))))), (qx, .inl (cB, NN, .inl f)), (Qz.qq, .inl (cI, (8 * Qz.C), .inl Qz.qf)), (Qz.qe, .inl (cL, (3 * Qz.C), .inr (.inl Qz.ef))), (tv, .inr (12, MF 13 (tw V))), (V.au, .inl (cC, V.U, .inl V.un))]) [4, 5, 0, 1, 2, 3] (by decide) rfl
          rw [rf_u7] at hP hD
          have hP : va_P (dC, dI) classes [(mo, .inr (13, MF 30 (rf (rs v Qz o) (skipH f n ((skipH f n j2) + 1)) b3))), (qx, .inl (cB, NN, .inl f)), (Qz.qq, .inl (cI, (8 * Qz.C), .inl Qz.qf)), (Qz.qe, .inl (cL, (3 * Qz.C), .inr (.inl Qz.ef))), (tv, .inr (12, MF 13 (tw V))), (V.au, .inl (cC, V.U, .inl V.un))] H := hP
          have hD : va_D A [(mo, .inr (13, MF 30 (rf (rs v Qz o) (skipH f n ((skipH f n j2) + 1)) b3))), (qx, .inl (cB, NN, .inl f)), (Qz.qq, .inl (cI, (8 * Qz.C), .inl Qz.qf)), (Qz.qe, .inl (cL, (3 * Qz.C), .inr (.inl Qz.ef))), (tv, .inr (12, MF 13 (tw V))), (V.au, .inl (cC, V.U, .inl V.un))] := hD
          have hsk_344 := skipH_n (f := f) (show ((skipH f n j2) + 1) ≤ n by omega)
          refine lv_aload_n hx hb d_Mo_selector_344 rfl (lv_at hl 1 rfl) ?_
          have hPc := hP.sub (ws' := [(mo, .inr (13, MF 30 (rf (rs v Qz o) (skipH f n ((skipH f n j2) + 1)) b3))), (qx, .inl (cB, NN, .inl f))]) [0, 1] rfl
          have hDc := hD.sub (ws' := [(mo, .inr (13, MF 30 (rf (rs v Qz o) (skipH f n ((skipH f n j2) + 1)) b3))), (qx, .inl (cB, NN, .inl f))]) [0, 1] (by decide) rfl
          have hKc := hK.sub (tys' := [(cB, .byte)]) [0] rfl
          have hFc := va_free (wc := [(mo, .inr (13, MF 30 (rf (rs v Qz o) (skipH f n ((skipH f n j2) + 1)) b3))), (qx, .inl (cB, NN, .inl f))]) hD hS hA [0, 1] rfl
          refine va_calli (va_runV (As := []) (rest := []) ⟨hx, hb, hml, hown, hts⟩ (c_Mo_c l dC dI mo H (rf (rs v Qz o) (skipH f n ((skipH f n j2) + 1)) b3) cB qx NN f n (skipH f n ((skipH f n j2) + 1)) (by omega) (by omega) (by omega) ((rf_ne (by decide) (by decide)).trans ((rs_ne (by decide) (by decide) (by decide) (by decide)).trans h6)) rf_7 ((rf_ne (by decide) (by decide)).trans ((rs_ne (by decide) (by decide) (by decide) (by decide)).trans h8))) (cwV 0 hts (gt_V (own := R_Mo) (C := R_Mo) (i := 147) (y := y_Mo_c) i_Mo_c w_1233 w_1235 (gt_sel (y := y_Mo_c) (n := 30) (by decide +kernel)) w_7) rfl rfl rfl (by decide +kernel) ⟨Nat.le_trans (m := 7) (Nat.le_of_ble_eq_true rfl) (Nat.le_add_right 7 F), Nat.le_trans (m := 200) (Nat.le_of_ble_eq_true rfl) (Nat.le_add_right 200 L)⟩) ⟨mp_blind, va_recv hKc hPc (ci := 13) (q0 := 0) rfl rfl, fun U hU hW => ⟨rfl, hU, by rw [hU]; exact hPc, va_K.moved hW.alike hKc, hDc.weaken (fun _ _ _ _ => trivial)⟩⟩ rfl rfl hl.1 rfl (lv_room (Nat.le_of_ble_eq_true rfl)) d_Mo_selector_345 ⟨hfit_QzV.1, hfit_QzV.2⟩) hS (fun q _ h => hFc q h) hFc (fun r6 _u t9 H1 locs ht hvm hw hB hz1 hk1 hS => ?_)
          obtain ⟨hP1, hK1, hD1⟩ := hB
          rw [ht] at hP1
          obtain ⟨hP, hD⟩ := va_join (wr := [(Qz.qq, .inl (cI, (8 * Qz.C), .inl Qz.qf)), (Qz.qe, .inl (cL, (3 * Qz.C), .inr (.inl Qz.ef))), (tv, .inr (12, MF 13 (tw V))), (V.au, .inl (cC, V.U, .inl V.un))]) (w1 := [(mo, .inr (13, MF 30 (rf (rs v Qz o) (skipH f n ((skipH f n j2) + 1)) b3))), (qx, .inl (cB, NN, .inl f))]) hP hD [0, 1] [2, 3, 4, 5] rfl rfl (by decide) (by decide) hk1 hFc hP1 hD1
          generalize H1 = H at hP hS ⊢
          have hP : va_P (dC, dI) classes [(Qz.qq, .inl (cI, (8 * Qz.C), .inl Qz.qf)), (Qz.qe, .inl (cL, (3 * Qz.C), .inr (.inl Qz.ef))), (tv, .inr (12, MF 13 (tw V))), (V.au, .inl (cC, V.U, .inl V.un)), (mo, .inr (13, MF 30 (rf (rs v Qz o) (skipH f n ((skipH f n j2) + 1)) b3))), (qx, .inl (cB, NN, .inl f))] H := hP
          have hD : va_D A [(Qz.qq, .inl (cI, (8 * Qz.C), .inl Qz.qf)), (Qz.qe, .inl (cL, (3 * Qz.C), .inr (.inl Qz.ef))), (tv, .inr (12, MF 13 (tw V))), (V.au, .inl (cC, V.U, .inl V.un)), (mo, .inr (13, MF 30 (rf (rs v Qz o) (skipH f n ((skipH f n j2) + 1)) b3))), (qx, .inl (cB, NN, .inl f))] := hD
          have hP := hP.sub (ws' := [(mo, .inr (13, MF 30 (rf (rs v Qz o) (skipH f n ((skipH f n j2) + 1)) b3))), (qx, .inl (cB, NN, .inl f)), (Qz.qq, .inl (cI, (8 * Qz.C), .inl Qz.qf)), (Qz.qe, .inl (cL, (3 * Qz.C), .inr (.inl Qz.ef))), (tv, .inr (12, MF 13 (tw V))), (V.au, .inl (cC, V.U, .inl V.un))]) [4, 5, 0, 1, 2, 3] rfl
          have hD := hD.sub (ws' := [(mo, .inr (13, MF 30 (rf (rs v Qz o) (skipH f n ((skipH f n j2) + 1)) b3))), (qx, .inl (cB, NN, .inl f)), (Qz.qq, .inl (cI, (8 * Qz.C), .inl Qz.qf)), (Qz.qe, .inl (cL, (3 * Qz.C), .inr (.inl Qz.ef))), (tv, .inr (12, MF 13 (tw V))), (V.au, .inl (cC, V.U, .inl V.un))]) [4, 5, 0, 1, 2, 3] (by decide) rfl
          have h_r6 : r6 = hereV f n (skipH f n ((skipH f n j2) + 1)) := hw
          refine lv_bipush (v := 45) hx hb d_Mo_selector_348 (by decide) ?_
          refine lv_icmp_eq (tgt := 363) hx hb d_Mo_selector_350 (by decide) (fun c350 => ?_) (fun c350 => ?_)
          · refine lv_aload_n hx hb d_Mo_selector_363 rfl (lv_at hl 1 rfl) ?_
            refine lv_iload_n hx hb d_Mo_selector_364 rfl (lv_at hl 4 rfl) ?_
            refine lv_iconst (v := 2) hx hb d_Mo_selector_365 (by decide) ?_
            refine W.eq (g2 := F0 m 366 ls [.int (nI 2), .int (nI Q.R), .ref mo]) rfl ?_
            have hPc := hP.sub (ws' := [(mo, .inr (13, MF 30 (rf (rs v Qz o) (skipH f n ((skipH f n j2) + 1)) b3))), (qx, .inl (cB, NN, .inl f)), (Qz.qq, .inl (cI, (8 * Qz.C), .inl Qz.qf)), (Qz.qe, .inl (cL, (3 * Qz.C), .inr (.inl Qz.ef)))]) [0, 1, 2, 3] rfl
            have hDc := hD.sub (ws' := [(mo, .inr (13, MF 30 (rf (rs v Qz o) (skipH f n ((skipH f n j2) + 1)) b3))), (qx, .inl (cB, NN, .inl f)), (Qz.qq, .inl (cI, (8 * Qz.C), .inl Qz.qf)), (Qz.qe, .inl (cL, (3 * Qz.C), .inr (.inl Qz.ef)))]) [0, 1, 2, 3] (by decide) rfl
            have hKc := hK.sub (tys' := [(cB, .byte), (cI, .int), (cL, .long)]) [0, 1, 2] rfl
            have hFc := va_free (wc := [(mo, .inr (13, MF 30 (rf (rs v Qz o) (skipH f n ((skipH f n j2) + 1)) b3))), (qx, .inl (cB, NN, .inl f)), (Qz.qq, .inl (cI, (8 * Qz.C), .inl Qz.qf)), (Qz.qe, .inl (cL, (3 * Qz.C), .inr (.inl Qz.ef)))]) hD hS hA [0, 1, 2, 3] rfl
            refine va_calli (va_runV (As := [.int (nI Q.R), .int (nI 2)]) (rest := []) ⟨hx, hb, hml, hown, hts⟩ (c_Mo_whole l dC dI mo H v cB cI cL qx NN f n Qz o (skipH f n ((skipH f n j2) + 1)) b3 Q.R 2 hnN (by omega) (by omega) h6 h8 hQk_Qz (by omega) (by decide)) (cwV 2 hts (gt_V (own := R_Mo) (C := R_Mo) (i := 303) (y := y_Mo_whole) i_Mo_whole w_1465 w_1467 (gt_sel (y := y_Mo_whole) (n := 30) (by decide +kernel)) w_7) rfl rfl rfl (by decide +kernel) ⟨Nat.le_trans (m := 7) (Nat.le_of_ble_eq_true rfl) (Nat.le_add_right 7 F), Nat.le_trans (m := 200) (Nat.le_of_ble_eq_true rfl) (Nat.le_add_right 200 L)⟩) ⟨mp_blind, va_recv hKc hPc (ci := 13) (q0 := 0) rfl rfl, fun U hU hW => ⟨rfl, hU, by rw [hU]; exact hPc, va_K.moved hW.alike hKc, hDc.weaken (fun _ _ _ _ => trivial)⟩⟩ rfl rfl hl.1 rfl (lv_room (Nat.le_of_ble_eq_true rfl)) d_Mo_selector_366 ⟨hfit_QzV.1, hfit_QzV.2⟩) hS (fun q _ h => hFc q h) hFc (fun r0 ⟨j5, b_j5, qf2, ef2⟩ t9 H1 locs ht hvm hw hB hz1 hk1 hS => ?_)
            obtain ⟨hP1, hK1, hD1⟩ := hB
            rw [ht] at hP1
            obtain ⟨hP, hD⟩ := va_join (wr := [(tv, .inr (12, MF 13 (tw V))), (V.au, .inl (cC, V.U, .inl V.un))]) (w1 := [(mo, .inr (13, MF 30 (rf (rs v Qz o) j5 b_j5))), (qx, .inl (cB, NN, .inl f)), (Qz.qq, .inl (cI, (8 * Qz.C), .inl qf2)), (Qz.qe, .inl (cL, (3 * Qz.C), .inr (.inl ef2)))]) hP hD [0, 1, 2, 3] [4, 5] rfl rfl (by decide) (by decide) hk1 hFc hP1 hD1
            generalize H1 = H at hP hS ⊢
            have hP : va_P (dC, dI) classes [(tv, .inr (12, MF 13 (tw V))), (V.au, .inl (cC, V.U, .inl V.un)), (mo, .inr (13, MF 30 (rf (rs v Qz o) j5 b_j5))), (qx, .inl (cB, NN, .inl f)), (Qz.qq, .inl (cI, (8 * Qz.C), .inl qf2)), (Qz.qe, .inl (cL, (3 * Qz.C), .inr (.inl ef2)))] H := hP
            have hD : va_D A [(tv, .inr (12, MF 13 (tw V))), (V.au, .inl (cC, V.U, .inl V.un)), (mo, .inr (13, MF 30 (rf (rs v Qz o) j5 b_j5))), (qx, .inl (cB, NN, .inl f)), (Qz.qq, .inl (cI, (8 * Qz.C), .inl qf2)), (Qz.qe, .inl (cL, (3 * Qz.C), .inr (.inl ef2)))] := hD
            have hP := hP.sub (ws' := [(mo, .inr (13, MF 30 (rf (rs v Qz o) j5 b_j5))), (qx, .inl (cB, NN, .inl f)), (Qz.qq, .inl (cI, (8 * Qz.C), .inl qf2)), (Qz.qe, .inl (cL, (3 * Qz.C), .inr (.inl ef2))), (tv, .inr (12, MF 13 (tw V))), (V.au, .inl (cC, V.U, .inl V.un))]) [2, 3, 4, 5, 0, 1] rfl
            have hD := hD.sub (ws' := [(mo, .inr (13, MF 30 (rf (rs v Qz o) j5 b_j5))), (qx, .inl (cB, NN, .inl f)), (Qz.qq, .inl (cI, (8 * Qz.C), .inl qf2)), (Qz.qe, .inl (cL, (3 * Qz.C), .inr (.inl ef2))), (tv, .inr (12, MF 13 (tw V))), (V.au, .inl (cC, V.U, .inl V.un))]) [2, 3, 4, 5, 0, 1] (by decide) rfl
            rcases hw with ⟨hw1, val_j5, hw2, hw3, hw4, hw5⟩ | ⟨hw1, hw2, hw3, hw4⟩
            · have hw_j5 : whM f n (skipH f n ((skipH f n j2) + 1)) = some (val_j5, j5) := hw2
              have hw3 : qf2 = upd Qz.qf (8 * Q.R + 2) (Qz.qf (8 * Q.R + 2) ||| 1 <<< (nI 2 &&& 31)) := hw3
              have hw4 : ef2 = vp_updL Qz.ef (3 * Q.R + 2) val_j5 := hw4
              have hn_j5 : j5 ≤ n := hw5
              have hlt_j5 := whM_lt hw_j5
              subst hw1
              obtain ⟨Qd, e_Qd⟩ : ∃ z : QS, z = QS.mk Qz.C Qz.R Qz.qq Qz.qe qf2 ef2 := ⟨_, rfl⟩
              have hP : va_P (dC, dI) classes [(mo, .inr (13, MF 30 (rf (rs v Qd o) j5 b_j5))), (qx, .inl (cB, NN, .inl f)), (Qd.qq, .inl (cI, (8 * Qd.C), .inl Qd.qf)), (Qd.qe, .inl (cL, (3 * Qd.C), .inr (.inl Qd.ef))), (tv, .inr (12, MF 13 (tw V))), (V.au, .inl (cC, V.U, .inl V.un))] H := by subst e_Qd; exact hP
              have hD : va_D A [(mo, .inr (13, MF 30 (rf (rs v Qd o) j5 b_j5))), (qx, .inl (cB, NN, .inl f)), (Qd.qq, .inl (cI, (8 * Qd.C), .inl Qd.qf)), (Qd.qe, .inl (cL, (3 * Qd.C), .inr (.inl Qd.ef))), (tv, .inr (12, MF 13 (tw V))), (V.au, .inl (cC, V.U, .inl V.un))] := by subst e_Qd; exact hD
              have hf_Qd : Qd.C = Qz.C ∧ Qd.R = Qz.R ∧ Qd.qf = qf2 := by rw [e_Qd]; exact ⟨rfl, rfl, rfl⟩
              have he_Qd : Qd.ef = vp_updL Qz.ef (3 * Q.R + 2) val_j5 := by rw [e_Qd]; exact hw4
              have h2_Qd : Qd.qf (8 * Q.R + 2) = Qz.qf (8 * Q.R + 2) ||| 1 <<< (nI 2 &&& 31) := by rw [hf_Qd.2.2, hw3]; exact pk_us
              have hev_Qd : Qd.ef (3 * Q.R + 2) = val_j5 := by rw [he_Qd]; exact updL_s
              have hQk_Qd : QOK Qd := by rw [e_Qd, hw4]; exact ⟨hQk_Qz.1, hQk_Qz.2.1, hQk_Qz.2.2.1, QOK_upd hQk_Qz.2.2.2 (whM_gL hw_j5)⟩
              have hG_QdV : GQ (Q.R + 8 * (n - i) + 4) (V.us + (n + 12 - i)) Q V Qd V := by unfold GQ at hG_QzV ⊢; rw [hf_Qd.1]; exact hG_QzV
              refine w_same (fun hq => ?_)
              refine w_tight (k := cQ Q V Qd V) (n := sQ Q V Qd V) (by unfold cQ sQ at hq ⊢; rw [hf_Qd.1]; exact hq) ?_
              have hR_Qd := hf_Qd.2.1
              have hqb_QdV : Qd.R ≤ Qd.C ∧ Qd.C ≤ 100000 := ⟨hQk_Qd.2.2.1, hQk_Qd.2.1⟩
              have hfit_QdV := hG_QdV.fits
              have hk0_Qd : Qd.qf (8 * Q.R + 0) = 4 := by rw [hf_Qd.2.2, hw3, pk_un (by omega)]; exact hk0_Qz
              have hl1_Qd : Qd.qf (8 * Q.R + 1) = -1 := by rw [hf_Qd.2.2, hw3, pk_un (by omega)]; exact hl1_Qz
              have hEx_QdV : alr Q V Qd V 0 Q.R := hEx_QzV.tr (alr_who (hf_Qd.2.2.trans hw3) he_Qd (by decide) (by omega))
              refine lv_if_eq (tgt := 376) hx hb d_Mo_selector_369 (by decide) (fun h => absurd h (by decide)) (fun _ => ?_)
              refine lv_iload_n hx hb d_Mo_selector_372 rfl (lv_at hl 4 rfl) ?_
              refine lv_goto (tgt := 377) hx hb d_Mo_selector_373 (by decide) ?_
              have hfin : selP f n (orL f n) false i = some (j5, false, slcS a0 e0 val_j5) := by rw [hsl2]; unfold slT; rw [if_neg (fun h => h (h_r5.symm.trans c313)), if_pos (Or.inl (h_r6.symm.trans c350)), hw_j5]; rfl
              have hSE : SELp O Qd V Q.R Qd.R Q.R (slcS a0 e0 val_j5) := ⟨Nat.le_refl _, by omega, Or.inr (Or.inr (Or.inr (Or.inl ⟨hk0_Qd, hsb.c1 h2_Qd (by rw [he_Qd]; exact updL_n (by omega)) (by rw [he_Qd]; exact updL_n (by omega)) hev_Qd⟩)))⟩
              refine w_same (fun hq => ?_)
              refine W.widen (k := kcap Q (Q.R + 8 * (n - i) + 4) + qcap V (V.us + (n + 12 - i))) (n := 22 * kcap Q (Q.R + 8 * (n - i) + 4) + 2 * qcap V (V.us + (n + 12 - i))) hfit_QdV.1 hfit_QdV.2 ?_
              have hPo : QPo n i 4 Q V (Qd, V, j5, b_j5, o) := ⟨hQk_Qd, hG_QdV, ⟨[], TX.rf hTk_V, Nat.zero_le _⟩, by show Q.R ≤ Qd.R; omega, by show Qd.R ≤ Q.R + 8 * (n - i) + 4; omega⟩
              exact W.iret (v := nI Q.R) hx hb hr (fun t9 ht hW => ⟨⟨nI Q.R, (Qd, V, j5, b_j5, o), rfl, ⟨hPo, Or.inl ⟨false, slcS a0 e0 val_j5, rfl, hfin, hSE, ⟨fun h => absurd h (by decide), fun h => absurd h (by rw [hk0_Qd]; decide)⟩, hl1_Qd, hEx_QdV, by show Qd.R + 8 * i + 7 ≤ Q.R + 8 * j5; omega, by show V.us + i ≤ V.us + j5; omega, by show j5 ≤ n; omega, by show Q.R < Qd.R; omega, rfl⟩⟩, ⟨by rw [ht]; exact hP, va_K.moved hW.alike hK, hD⟩, by rw [ht]; exact hq⟩, hS.F ht⟩) hS.2.2 d_Mo_selector_377
            · have hw_j5 : whM f n (skipH f n ((skipH f n j2) + 1)) = none := hw2
              have hw3 : qf2 = Qz.qf := hw3
              have hw4 : ef2 = Qz.ef := hw4
              subst hw1
              subst hw3
              subst hw4
              have hP : va_P (dC, dI) classes [(mo, .inr (13, MF 30 (rf (rs v Qz o) j5 b_j5))), (qx, .inl (cB, NN, .inl f)), (Qz.qq, .inl (cI, (8 * Qz.C), .inl Qz.qf)), (Qz.qe, .inl (cL, (3 * Qz.C), .inr (.inl Qz.ef))), (tv, .inr (12, MF 13 (tw V))), (V.au, .inl (cC, V.U, .inl V.un))] H := hP
              have hD : va_D A [(mo, .inr (13, MF 30 (rf (rs v Qz o) j5 b_j5))), (qx, .inl (cB, NN, .inl f)), (Qz.qq, .inl (cI, (8 * Qz.C), .inl Qz.qf)), (Qz.qe, .inl (cL, (3 * Qz.C), .inr (.inl Qz.ef))), (tv, .inr (12, MF 13 (tw V))), (V.au, .inl (cC, V.U, .inl V.un))] := hD
              refine lv_if_eq (tgt := 376) hx hb d_Mo_selector_369 (by decide) (fun _ => ?_) (fun h => absurd (by decide) h)
              refine lv_iconst (v := (-1)) hx hb d_Mo_selector_376 (by decide) ?_
              have hfin : selP f n (orL f n) false i = none := by rw [hsl2]; unfold slT; rw [if_neg (fun h => h (h_r5.symm.trans c313)), if_pos (Or.inl (h_r6.symm.trans c350)), hw_j5]; rfl
              refine w_same (fun hq => ?_)
              refine W.widen (k := kcap Q (Q.R + 8 * (n - i) + 4) + qcap V (V.us + (n + 12 - i))) (n := 22 * kcap Q (Q.R + 8 * (n - i) + 4) + 2 * qcap V (V.us + (n + 12 - i))) hfit_QzV.1 hfit_QzV.2 ?_
              have hPo : QPo n i 4 Q V (Qz, V, j5, b_j5, o) := ⟨hQk_Qz, hG_QzV, ⟨[], TX.rf hTk_V, Nat.zero_le _⟩, by show Q.R ≤ Qz.R; omega, by show Qz.R ≤ Q.R + 8 * (n - i) + 4; omega⟩
              exact W.iret (v := -1) hx hb hr (fun t9 ht hW => ⟨⟨-1, (Qz, V, j5, b_j5, o), rfl, ⟨hPo, Or.inr ⟨rfl, hfin⟩⟩, ⟨by rw [ht]; exact hP, va_K.moved hW.alike hK, hD⟩, by rw [ht]; exact hq⟩, hS.F ht⟩) hS.2.2 d_Mo_selector_377
          · refine lv_aload_n hx hb d_Mo_selector_353 rfl (lv_at hl 1 rfl) ?_
            have hPc := hP.sub (ws' := [(mo, .inr (13, MF 30 (rf (rs v Qz o) (skipH f n ((skipH f n j2) + 1)) b3))), (qx, .inl (cB, NN, .inl f))]) [0, 1] rfl
            have hDc := hD.sub (ws' := [(mo, .inr (13, MF 30 (rf (rs v Qz o) (skipH f n ((skipH f n j2) + 1)) b3))), (qx, .inl (cB, NN, .inl f))]) [0, 1] (by decide) rfl
            have hKc := hK.sub (tys' := [(cB, .byte)]) [0] rfl
            have hFc := va_free (wc := [(mo, .inr (13, MF 30 (rf (rs v Qz o) (skipH f n ((skipH f n j2) + 1)) b3))), (qx, .inl (cB, NN, .inl f))]) hD hS hA [0, 1] rfl
            refine va_calli (va_runV (As := []) (rest := []) ⟨hx, hb, hml, hown, hts⟩ (c_Mo_c l dC dI mo H (rf (rs v Qz o) (skipH f n ((skipH f n j2) + 1)) b3) cB qx NN f n (skipH f n ((skipH f n j2) + 1)) (by omega) (by omega) (by omega) ((rf_ne (by decide) (by decide)).trans ((rs_ne (by decide) (by decide) (by decide) (by decide)).trans h6)) rf_7 ((rf_ne (by decide) (by decide)).trans ((rs_ne (by decide) (by decide) (by decide) (by decide)).trans h8))) (cwV 0 hts (gt_V (own := R_Mo) (C := R_Mo) (i := 147) (y := y_Mo_c) i_Mo_c w_1233 w_1235 (gt_sel (y := y_Mo_c) (n := 30) (by decide +kernel)) w_7) rfl rfl rfl (by decide +kernel) ⟨Nat.le_trans (m := 7) (Nat.le_of_ble_eq_true rfl) (Nat.le_add_right 7 F), Nat.le_trans (m := 200) (Nat.le_of_ble_eq_true rfl) (Nat.le_add_right 200 L)⟩) ⟨mp_blind, va_recv hKc hPc (ci := 13) (q0 := 0) rfl rfl, fun U hU hW => ⟨rfl, hU, by rw [hU]; exact hPc, va_K.moved hW.alike hKc, hDc.weaken (fun _ _ _ _ => trivial)⟩⟩ rfl rfl hl.1 rfl (lv_room (Nat.le_of_ble_eq_true rfl)) d_Mo_selector_354 ⟨hfit_QzV.1, hfit_QzV.2⟩) hS (fun q _ h => hFc q h) hFc (fun r8 _u t9 H1 locs ht hvm hw hB hz1 hk1 hS => ?_)
            obtain ⟨hP1, hK1, hD1⟩ := hB
            rw [ht] at hP1
            obtain ⟨hP, hD⟩ := va_join (wr := [(Qz.qq, .inl (cI, (8 * Qz.C), .inl Qz.qf)), (Qz.qe, .inl (cL, (3 * Qz.C), .inr (.inl Qz.ef))), (tv, .inr (12, MF 13 (tw V))), (V.au, .inl (cC, V.U, .inl V.un))]) (w1 := [(mo, .inr (13, MF 30 (rf (rs v Qz o) (skipH f n ((skipH f n j2) + 1)) b3))), (qx, .inl (cB, NN, .inl f))]) hP hD [0, 1] [2, 3, 4, 5] rfl rfl (by decide) (by decide) hk1 hFc hP1 hD1
            generalize H1 = H at hP hS ⊢
            have hP : va_P (dC, dI) classes [(Qz.qq, .inl (cI, (8 * Qz.C), .inl Qz.qf)), (Qz.qe, .inl (cL, (3 * Qz.C), .inr (.inl Qz.ef))), (tv, .inr (12, MF 13 (tw V))), (V.au, .inl (cC, V.U, .inl V.un)), (mo, .inr (13, MF 30 (rf (rs v Qz o) (skipH f n ((skipH f n j2) + 1)) b3))), (qx, .inl (cB, NN, .inl f))] H := hP
            have hD : va_D A [(Qz.qq, .inl (cI, (8 * Qz.C), .inl Qz.qf)), (Qz.qe, .inl (cL, (3 * Qz.C), .inr (.inl Qz.ef))), (tv, .inr (12, MF 13 (tw V))), (V.au, .inl (cC, V.U, .inl V.un)), (mo, .inr (13, MF 30 (rf (rs v Qz o) (skipH f n ((skipH f n j2) + 1)) b3))), (qx, .inl (cB, NN, .inl f))] := hD
            have hP := hP.sub (ws' := [(mo, .inr (13, MF 30 (rf (rs v Qz o) (skipH f n ((skipH f n j2) + 1)) b3))), (qx, .inl (cB, NN, .inl f)), (Qz.qq, .inl (cI, (8 * Qz.C), .inl Qz.qf)), (Qz.qe, .inl (cL, (3 * Qz.C), .inr (.inl Qz.ef))), (tv, .inr (12, MF 13 (tw V))), (V.au, .inl (cC, V.U, .inl V.un))]) [4, 5, 0, 1, 2, 3] rfl
            have hD := hD.sub (ws' := [(mo, .inr (13, MF 30 (rf (rs v Qz o) (skipH f n ((skipH f n j2) + 1)) b3))), (qx, .inl (cB, NN, .inl f)), (Qz.qq, .inl (cI, (8 * Qz.C), .inl Qz.qf)), (Qz.qe, .inl (cL, (3 * Qz.C), .inr (.inl Qz.ef))), (tv, .inr (12, MF 13 (tw V))), (V.au, .inl (cC, V.U, .inl V.un))]) [4, 5, 0, 1, 2, 3] (by decide) rfl
            have h_r8 : r8 = hereV f n (skipH f n ((skipH f n j2) + 1)) := hw
            have hPc := hP.sub (ws' := []) [] rfl
            have hDc := hD.sub (ws' := []) [] (by decide) rfl
            have hKc := hK.sub (tys' := []) [] rfl
            have hFc := va_free (wc := []) hD hS hA [] rfl
            refine va_calli (va_runS (As := [.int r8]) (rest := []) ⟨hx, hb, hml, hown, hts⟩ (c_Mo_digit l dC dI H r8) (va_cwS 1 hts (gt_S (own := R_Mo) (i := 166) (y := y_Mo_digit) i_Mo_digit w_1332 w_1333 w_7) rfl rfl rfl (by decide +kernel) ⟨Nat.le_trans (m := 7) (Nat.le_of_ble_eq_true rfl) (Nat.le_add_right 7 F), Nat.le_trans (m := 200) (Nat.le_of_ble_eq_true rfl) (Nat.le_add_right 200 L)⟩) ⟨mp_blind, fun U hU hW => ⟨rfl, hU, by rw [hU]; exact hPc, va_K.moved hW.alike hKc, hDc.weaken (fun _ _ _ _ => trivial)⟩⟩ rfl rfl hl.1 rfl (lv_room (Nat.le_of_ble_eq_true rfl)) d_Mo_selector_357 ⟨hfit_QzV.1, hfit_QzV.2⟩) hS (fun q _ h => hFc q h) hFc (fun d8 _u t9 H1 locs ht hvm hw hB hz1 hk1 hS => ?_)
            obtain ⟨hP1, hK1, hD1⟩ := hB
            rw [ht] at hP1
            obtain ⟨hP, hD⟩ := va_join (wr := [(mo, .inr (13, MF 30 (rf (rs v Qz o) (skipH f n ((skipH f n j2) + 1)) b3))), (qx, .inl (cB, NN, .inl f)), (Qz.qq, .inl (cI, (8 * Qz.C), .inl Qz.qf)), (Qz.qe, .inl (cL, (3 * Qz.C), .inr (.inl Qz.ef))), (tv, .inr (12, MF 13 (tw V))), (V.au, .inl (cC, V.U, .inl V.un))]) (w1 := []) hP hD [] [0, 1, 2, 3, 4, 5] rfl rfl (by decide) (by decide) hk1 hFc hP1 hD1
            generalize H1 = H at hP hS ⊢
            have hP : va_P (dC, dI) classes [(mo, .inr (13, MF 30 (rf (rs v Qz o) (skipH f n ((skipH f n j2) + 1)) b3))), (qx, .inl (cB, NN, .inl f)), (Qz.qq, .inl (cI, (8 * Qz.C), .inl Qz.qf)), (Qz.qe, .inl (cL, (3 * Qz.C), .inr (.inl Qz.ef))), (tv, .inr (12, MF 13 (tw V))), (V.au, .inl (cC, V.U, .inl V.un))] H := hP
            have hD : va_D A [(mo, .inr (13, MF 30 (rf (rs v Qz o) (skipH f n ((skipH f n j2) + 1)) b3))), (qx, .inl (cB, NN, .inl f)), (Qz.qq, .inl (cI, (8 * Qz.C), .inl Qz.qf)), (Qz.qe, .inl (cL, (3 * Qz.C), .inr (.inl Qz.ef))), (tv, .inr (12, MF 13 (tw V))), (V.au, .inl (cC, V.U, .inl V.un))] := hD
            have h_d8 := dg_01 hw
            refine lv_if_eq (tgt := 378) hx hb d_Mo_selector_360 (by decide) (fun c360 => ?_) (fun c360 => ?_)
            · refine lv_aload_n hx hb d_Mo_selector_378 rfl (lv_at hl 1 rfl) ?_
              refine lv_iload hx hb d_Mo_selector_379 (lv_at hl 0 rfl) ?_
              refine va_put (D := (dC, dI)) (ci := 13) (v := .int (nI ((skipH f n j2) + 1))) (ty := .int) (C := R_Mo) (T := F_Mo) (N := 30) hx hb hts in_Mo t_Mo t_Mo_ok n_Mo hown hK hP hD hS 0 rfl rfl 7 (by decide) (hts _ w_1096) (fun _ h9 => h9) rfl (by decide +kernel) rfl rfl (by rw [MFl]; decide) d_Mo_selector_381 (fun H locs hP hD hS => ?_)
              rw [MFs (n := 30) (k := 7) (by decide)] at hP hD
              have hP : va_P (dC, dI) classes [(mo, .inr (13, MF 30 (va_up (rf (rs v Qz o) (skipH f n ((skipH f n j2) + 1)) b3) 7 (.int (nI ((skipH f n j2) + 1)))))), (qx, .inl (cB, NN, .inl f)), (Qz.qq, .inl (cI, (8 * Qz.C), .inl Qz.qf)), (Qz.qe, .inl (cL, (3 * Qz.C), .inr (.inl Qz.ef))), (tv, .inr (12, MF 13 (tw V))), (V.au, .inl (cC, V.U, .inl V.un))] H := hP
              have hD : va_D A [(mo, .inr (13, MF 30 (va_up (rf (rs v Qz o) (skipH f n ((skipH f n j2) + 1)) b3) 7 (.int (nI ((skipH f n j2) + 1)))))), (qx, .inl (cB, NN, .inl f)), (Qz.qq, .inl (cI, (8 * Qz.C), .inl Qz.qf)), (Qz.qe, .inl (cL, (3 * Qz.C), .inr (.inl Qz.ef))), (tv, .inr (12, MF 13 (tw V))), (V.au, .inl (cC, V.U, .inl V.un))] := hD
              rw [rf_u7] at hP hD
              have hP : va_P (dC, dI) classes [(mo, .inr (13, MF 30 (rf (rs v Qz o) ((skipH f n j2) + 1) b3))), (qx, .inl (cB, NN, .inl f)), (Qz.qq, .inl (cI, (8 * Qz.C), .inl Qz.qf)), (Qz.qe, .inl (cL, (3 * Qz.C), .inr (.inl Qz.ef))), (tv, .inr (12, MF 13 (tw V))), (V.au, .inl (cC, V.U, .inl V.un))] H := hP
              have hD : va_D A [(mo, .inr (13, MF 30 (rf (rs v Qz o) ((skipH f n j2) + 1) b3))), (qx, .inl (cB, NN, .inl f)), (Qz.qq, .inl (cI, (8 * Qz.C), .inl Qz.qf)), (Qz.qe, .inl (cL, (3 * Qz.C), .inr (.inl Qz.ef))), (tv, .inr (12, MF 13 (tw V))), (V.au, .inl (cC, V.U, .inl V.un))] := hD
              refine lv_iload_n hx hb d_Mo_selector_384 rfl (lv_at hl 4 rfl) ?_
              have hfin : selP f n (orL f n) false i = some (((skipH f n j2) + 1), false, slcS a0 e0 1) := by rw [hsl2]; unfold slT; rw [if_neg (fun h => h (h_r5.symm.trans c313)), if_neg (fun h => h.elim (fun h => c350 (h_r6.trans h)) (by rw [← h_r8]; exact h_d8.2 c360))]; rfl
              have hSE : SELp O Qz V Q.R Qz.R Q.R (slcS a0 e0 1) := ⟨Nat.le_refl _, by omega, Or.inr (Or.inr (Or.inr (Or.inl ⟨hk0_Qz, hsb.c0⟩)))⟩
              refine w_same (fun hq => ?_)
              refine W.widen (k := kcap Q (Q.R + 8 * (n - i) + 4) + qcap V (V.us + (n + 12 - i))) (n := 22 * kcap Q (Q.R + 8 * (n - i) + 4) + 2 * qcap V (V.us + (n + 12 - i))) hfit_QzV.1 hfit_QzV.2 ?_
              have hPo : QPo n i 4 Q V (Qz, V, ((skipH f n j2) + 1), b3, o) := ⟨hQk_Qz, hG_QzV, ⟨[], TX.rf hTk_V, Nat.zero_le _⟩, by show Q.R ≤ Qz.R; omega, by show Qz.R ≤ Q.R + 8 * (n - i) + 4; omega⟩
              exact W.iret (v := nI Q.R) hx hb hr (fun t9 ht hW => ⟨⟨nI Q.R, (Qz, V, ((skipH f n j2) + 1), b3, o), rfl, ⟨hPo, Or.inl ⟨false, slcS a0 e0 1, rfl, hfin, hSE, ⟨fun h => absurd h (by decide), fun h => absurd h (by rw [hk0_Qz]; decide)⟩, hl1_Qz, hEx_QzV, by show Qz.R + 8 * i + 7 ≤ Q.R + 8 * ((skipH f n j2) + 1); omega, by show V.us + i ≤ V.us + ((skipH f n j2) + 1); omega, by show ((skipH f n j2) + 1) ≤ n; omega, by show Q.R < Qz.R; omega, rfl⟩⟩, ⟨by rw [ht]; exact hP, va_K.moved hW.alike hK, hD⟩, by rw [ht]; exact hq⟩, hS.F ht⟩) hS.2.2 d_Mo_selector_385
            · refine lv_aload_n hx hb d_Mo_selector_363 rfl (lv_at hl 1 rfl) ?_
              refine lv_iload_n hx hb d_Mo_selector_364 rfl (lv_at hl 4 rfl) ?_
              refine lv_iconst (v := 2) hx hb d_Mo_selector_365 (by decide) ?_
              refine W.eq (g2 := F0 m 366 ls [.int (nI 2), .int (nI Q.R), .ref mo]) rfl ?_
              have hPc := hP.sub (ws' := [(mo, .inr (13, MF 30 (rf (rs v Qz o) (skipH f n ((skipH f n j2) + 1)) b3))), (qx, .inl (cB, NN, .inl f)), (Qz.qq, .inl (cI, (8 * Qz.C), .inl Qz.qf)), (Qz.qe, .inl (cL, (3 * Qz.C), .inr (.inl Qz.ef)))]) [0, 1, 2, 3] rfl
              have hDc := hD.sub (ws' := [(mo, .inr (13, MF 30 (rf (rs v Qz o) (skipH f n ((skipH f n j2) + 1)) b3))), (qx, .inl (cB, NN, .inl f)), (Qz.qq, .inl (cI, (8 * Qz.C), .inl Qz.qf)), (Qz.qe, .inl (cL, (3 * Qz.C), .inr (.inl Qz.ef)))]) [0, 1, 2, 3] (by decide) rfl
              have hKc := hK.sub (tys' := [(cB, .byte), (cI, .int), (cL, .long)]) [0, 1, 2] rfl
              have hFc := va_free (wc := [(mo, .inr (13, MF 30 (rf (rs v Qz o) (skipH f n ((skipH f n j2) + 1)) b3))), (qx, .inl (cB, NN, .inl f)), (Qz.qq, .inl (cI, (8 * Qz.C), .inl Qz.qf)), (Qz.qe, .inl (cL, (3 * Qz.C), .inr (.inl Qz.ef)))]) hD hS hA [0, 1, 2, 3] rfl
              refine va_calli (va_runV (As := [.int (nI Q.R), .int (nI 2)]) (rest := []) ⟨hx, hb, hml, hown, hts⟩ (c_Mo_whole l dC dI mo H v cB cI cL qx NN f n Qz o (skipH f n ((skipH f n j2) + 1)) b3 Q.R 2 hnN (by omega) (by omega) h6 h8 hQk_Qz (by omega) (by decide)) (cwV 2 hts (gt_V (own := R_Mo) (C := R_Mo) (i := 303) (y := y_Mo_whole) i_Mo_whole w_1465 w_1467 (gt_sel (y := y_Mo_whole) (n := 30) (by decide +kernel)) w_7) rfl rfl rfl (by decide +kernel) ⟨Nat.le_trans (m := 7) (Nat.le_of_ble_eq_true rfl) (Nat.le_add_right 7 F), Nat.le_trans (m := 200) (Nat.le_of_ble_eq_true rfl) (Nat.le_add_right 200 L)⟩) ⟨mp_blind, va_recv hKc hPc (ci := 13) (q0 := 0) rfl rfl, fun U hU hW => ⟨rfl, hU, by rw [hU]; exact hPc, va_K.moved hW.alike hKc, hDc.weaken (fun _ _ _ _ => trivial)⟩⟩ rfl rfl hl.1 rfl (lv_room (Nat.le_of_ble_eq_true rfl)) d_Mo_selector_366 ⟨hfit_QzV.1, hfit_QzV.2⟩) hS (fun q _ h => hFc q h) hFc (fun r0 ⟨j5, b_j5, qf2, ef2⟩ t9 H1 locs ht hvm hw hB hz1 hk1 hS => ?_)
              obtain ⟨hP1, hK1, hD1⟩ := hB
              rw [ht] at hP1
              obtain ⟨hP, hD⟩ := va_join (wr := [(tv, .inr (12, MF 13 (tw V))), (V.au, .inl (cC, V.U, .inl V.un))]) (w1 := [(mo, .inr (13, MF 30 (rf (rs v Qz o) j5 b_j5))), (qx, .inl (cB, NN, .inl f)), (Qz.qq, .inl (cI, (8 * Qz.C), .inl qf2)), (Qz.qe, .inl (cL, (3 * Qz.C), .inr (.inl ef2)))]) hP hD [0, 1, 2, 3] [4, 5] rfl rfl (by decide) (by decide) hk1 hFc hP1 hD1
              generalize H1 = H at hP hS ⊢
              have hP : va_P (dC, dI) classes [(tv, .inr (12, MF 13 (tw V))), (V.au, .inl (cC, V.U, .inl V.un)), (mo, .inr (13, MF 30 (rf (rs v Qz o) j5 b_j5))), (qx, .inl (cB, NN, .inl f)), (Qz.qq, .inl (cI, (8 * Qz.C), .inl qf2)), (Qz.qe, .inl (cL, (3 * Qz.C), .inr (.inl ef2)))] H := hP
              have hD : va_D A [(tv, .inr (12, MF 13 (tw V))), (V.au, .inl (cC, V.U, .inl V.un)), (mo, .inr (13, MF 30 (rf (rs v Qz o) j5 b_j5))), (qx, .inl (cB, NN, .inl f)), (Qz.qq, .inl (cI, (8 * Qz.C), .inl qf2)), (Qz.qe, .inl (cL, (3 * Qz.C), .inr (.inl ef2)))] := hD
              have hP := hP.sub (ws' := [(mo, .inr (13, MF 30 (rf (rs v Qz o) j5 b_j5))), (qx, .inl (cB, NN, .inl f)), (Qz.qq, .inl (cI, (8 * Qz.C), .inl qf2)), (Qz.qe, .inl (cL, (3 * Qz.C), .inr (.inl ef2))), (tv, .inr (12, MF 13 (tw V))), (V.au, .inl (cC, V.U, .inl V.un))]) [2, 3, 4, 5, 0, 1] rfl
              have hD := hD.sub (ws' := [(mo, .inr (13, MF 30 (rf (rs v Qz o) j5 b_j5))), (qx, .inl (cB, NN, .inl f)), (Qz.qq, .inl (cI, (8 * Qz.C), .inl qf2)), (Qz.qe, .inl (cL, (3 * Qz.C), .inr (.inl ef2))), (tv, .inr (12, MF 13 (tw V))), (V.au, .inl (cC, V.U, .inl V.un))]) [2, 3, 4, 5, 0, 1] (by decide) rfl
              rcases hw with ⟨hw1, val_j5, hw2, hw3, hw4, hw5⟩ | ⟨hw1, hw2, hw3, hw4⟩
              · have hw_j5 : whM f n (skipH f n ((skipH f n j2) + 1)) = some (val_j5, j5) := hw2
                have hw3 : qf2 = upd Qz.qf (8 * Q.R + 2) (Qz.qf (8 * Q.R + 2) ||| 1 <<< (nI 2 &&& 31)) := hw3
                have hw4 : ef2 = vp_updL Qz.ef (3 * Q.R + 2) val_j5 := hw4
                have hn_j5 : j5 ≤ n := hw5
                have hlt_j5 := whM_lt hw_j5
                subst hw1
                obtain ⟨Qd, e_Qd⟩ : ∃ z : QS, z = QS.mk Qz.C Qz.R Qz.qq Qz.qe qf2 ef2 := ⟨_, rfl⟩
                have hP : va_P (dC, dI) classes [(mo, .inr (13, MF 30 (rf (rs v Qd o) j5 b_j5))), (qx, .inl (cB, NN, .inl f)), (Qd.qq, .inl (cI, (8 * Qd.C), .inl Qd.qf)), (Qd.qe, .inl (cL, (3 * Qd.C), .inr (.inl Qd.ef))), (tv, .inr (12, MF 13 (tw V))), (V.au, .inl (cC, V.U, .inl V.un))] H := by subst e_Qd; exact hP
                have hD : va_D A [(mo, .inr (13, MF 30 (rf (rs v Qd o) j5 b_j5))), (qx, .inl (cB, NN, .inl f)), (Qd.qq, .inl (cI, (8 * Qd.C), .inl Qd.qf)), (Qd.qe, .inl (cL, (3 * Qd.C), .inr (.inl Qd.ef))), (tv, .inr (12, MF 13 (tw V))), (V.au, .inl (cC, V.U, .inl V.un))] := by subst e_Qd; exact hD
                have hf_Qd : Qd.C = Qz.C ∧ Qd.R = Qz.R ∧ Qd.qf = qf2 := by rw [e_Qd]; exact ⟨rfl, rfl, rfl⟩
                have he_Qd : Qd.ef = vp_updL Qz.ef (3 * Q.R + 2) val_j5 := by rw [e_Qd]; exact hw4
                have h2_Qd : Qd.qf (8 * Q.R + 2) = Qz.qf (8 * Q.R + 2) ||| 1 <<< (nI 2 &&& 31) := by rw [hf_Qd.2.2, hw3]; exact pk_us
                have hev_Qd : Qd.ef (3 * Q.R + 2) = val_j5 := by rw [he_Qd]; exact updL_s
                have hQk_Qd : QOK Qd := by rw [e_Qd, hw4]; exact ⟨hQk_Qz.1, hQk_Qz.2.1, hQk_Qz.2.2.1, QOK_upd hQk_Qz.2.2.2 (whM_gL hw_j5)⟩
                have hG_QdV : GQ (Q.R + 8 * (n - i) + 4) (V.us + (n + 12 - i)) Q V Qd V := by unfold GQ at hG_QzV ⊢; rw [hf_Qd.1]; exact hG_QzV
                refine w_same (fun hq => ?_)
                refine w_tight (k := cQ Q V Qd V) (n := sQ Q V Qd V) (by unfold cQ sQ at hq ⊢; rw [hf_Qd.1]; exact hq) ?_
                have hR_Qd := hf_Qd.2.1
                have hqb_QdV : Qd.R ≤ Qd.C ∧ Qd.C ≤ 100000 := ⟨hQk_Qd.2.2.1, hQk_Qd.2.1⟩
                have hfit_QdV := hG_QdV.fits
                have hk0_Qd : Qd.qf (8 * Q.R + 0) = 4 := by rw [hf_Qd.2.2, hw3, pk_un (by omega)]; exact hk0_Qz
                have hl1_Qd : Qd.qf (8 * Q.R + 1) = -1 := by rw [hf_Qd.2.2, hw3, pk_un (by omega)]; exact hl1_Qz
                have hEx_QdV : alr Q V Qd V 0 Q.R := hEx_QzV.tr (alr_who (hf_Qd.2.2.trans hw3) he_Qd (by decide) (by omega))
                refine lv_if_eq (tgt := 376) hx hb d_Mo_selector_369 (by decide) (fun h => absurd h (by decide)) (fun _ => ?_)
                refine lv_iload_n hx hb d_Mo_selector_372 rfl (lv_at hl 4 rfl) ?_
                refine lv_goto (tgt := 377) hx hb d_Mo_selector_373 (by decide) ?_
                have hfin : selP f n (orL f n) false i = some (j5, false, slcS a0 e0 val_j5) := by rw [hsl2]; unfold slT; rw [if_neg (fun h => h (h_r5.symm.trans c313)), if_pos (Or.inr (by rw [← h_r8]; exact h_d8.1 c360)), hw_j5]; rfl
                have hSE : SELp O Qd V Q.R Qd.R Q.R (slcS a0 e0 val_j5) := ⟨Nat.le_refl _, by omega, Or.inr (Or.inr (Or.inr (Or.inl ⟨hk0_Qd, hsb.c1 h2_Qd (by rw [he_Qd]; exact updL_n (by omega)) (by rw [he_Qd]; exact updL_n (by omega)) hev_Qd⟩)))⟩
                refine w_same (fun hq => ?_)
                refine W.widen (k := kcap Q (Q.R + 8 * (n - i) + 4) + qcap V (V.us + (n + 12 - i))) (n := 22 * kcap Q (Q.R + 8 * (n - i) + 4) + 2 * qcap V (V.us + (n + 12 - i))) hfit_QdV.1 hfit_QdV.2 ?_
                have hPo : QPo n i 4 Q V (Qd, V, j5, b_j5, o) := ⟨hQk_Qd, hG_QdV, ⟨[], TX.rf hTk_V, Nat.zero_le _⟩, by show Q.R ≤ Qd.R; omega, by show Qd.R ≤ Q.R + 8 * (n - i) + 4; omega⟩
                exact W.iret (v := nI Q.R) hx hb hr (fun t9 ht hW => ⟨⟨nI Q.R, (Qd, V, j5, b_j5, o), rfl, ⟨hPo, Or.inl ⟨false, slcS a0 e0 val_j5, rfl, hfin, hSE, ⟨fun h => absurd h (by decide), fun h => absurd h (by rw [hk0_Qd]; decide)⟩, hl1_Qd, hEx_QdV, by show Qd.R + 8 * i + 7 ≤ Q.R + 8 * j5; omega, by show V.us + i ≤ V.us + j5; omega, by show j5 ≤ n; omega, by show Q.R < Qd.R; omega, rfl⟩⟩, ⟨by rw [ht]; exact hP, va_K.moved hW.alike hK, hD⟩, by rw [ht]; exact hq⟩, hS.F ht⟩) hS.2.2 d_Mo_selector_377
              · have hw_j5 : whM f n (skipH f n ((skipH f n j2) + 1)) = none := hw2
                have hw3 : qf2 = Qz.qf := hw3
                have hw4 : ef2 = Qz.ef := hw4
                subst hw1
                subst hw3
                subst hw4
                have hP : va_P (dC, dI) classes [(mo, .inr (13, MF 30 (rf (rs v Qz o) j5 b_j5))), (qx, .inl (cB, NN, .inl f)), (Qz.qq, .inl (cI, (8 * Qz.C), .inl Qz.qf)), (Qz.qe, .inl (cL, (3 * Qz.C), .inr (.inl Qz.ef))), (tv, .inr (12, MF 13 (tw V))), (V.au, .inl (cC, V.U, .inl V.un))] H := hP
                have hD : va_D A [(mo, .inr (13, MF 30 (rf (rs v Qz o) j5 b_j5))), (qx, .inl (cB, NN, .inl f)), (Qz.qq, .inl (cI, (8 * Qz.C), .inl Qz.qf)), (Qz.qe, .inl (cL, (3 * Qz.C), .inr (.inl Qz.ef))), (tv, .inr (12, MF 13 (tw V))), (V.au, .inl (cC, V.U, .inl V.un))] := hD
                refine lv_if_eq (tgt := 376) hx hb d_Mo_selector_369 (by decide) (fun _ => ?_) (fun h => absurd (by decide) h)
                refine lv_iconst (v := (-1)) hx hb d_Mo_selector_376 (by decide) ?_
                have hfin : selP f n (orL f n) false i = none := by rw [hsl2]; unfold slT; rw [if_neg (fun h => h (h_r5.symm.trans c313)), if_pos (Or.inr (by rw [← h_r8]; exact h_d8.1 c360)), hw_j5]; rfl
                refine w_same (fun hq => ?_)
                refine W.widen (k := kcap Q (Q.R + 8 * (n - i) + 4) + qcap V (V.us + (n + 12 - i))) (n := 22 * kcap Q (Q.R + 8 * (n - i) + 4) + 2 * qcap V (V.us + (n + 12 - i))) hfit_QzV.1 hfit_QzV.2 ?_
                have hPo : QPo n i 4 Q V (Qz, V, j5, b_j5, o) := ⟨hQk_Qz, hG_QzV, ⟨[], TX.rf hTk_V, Nat.zero_le _⟩, by show Q.R ≤ Qz.R; omega, by show Qz.R ≤ Q.R + 8 * (n - i) + 4; omega⟩
                exact W.iret (v := -1) hx hb hr (fun t9 ht hW => ⟨⟨-1, (Qz, V, j5, b_j5, o), rfl, ⟨hPo, Or.inr ⟨rfl, hfin⟩⟩, ⟨by rw [ht]; exact hP, va_K.moved hW.alike hK, hD⟩, by rw [ht]; exact hq⟩, hS.F ht⟩) hS.2.2 d_Mo_selector_377
        · refine lv_aload_n hx hb d_Mo_selector_316 rfl (lv_at hl 1 rfl) ?_
          refine lv_iload hx hb d_Mo_selector_317 (lv_at hl 0 rfl) ?_
          refine va_put (D := (dC, dI)) (ci := 13) (v := .int (nI j2)) (ty := .int) (C := R_Mo) (T := F_Mo) (N := 30) hx hb hts in_Mo t_Mo t_Mo_ok n_Mo hown hK hP hD hS 0 rfl rfl 7 (by decide) (hts _ w_1096) (fun _ h9 => h9) rfl (by decide +kernel) rfl rfl (by rw [MFl]; decide) d_Mo_selector_319 (fun H locs hP hD hS => ?_)
          rw [MFs (n := 30) (k := 7) (by decide)] at hP hD
          have hP : va_P (dC, dI) classes [(mo, .inr (13, MF 30 (va_up (rf (rs v Qz o) (skipH f n j2) b3) 7 (.int (nI j2))))), (qx, .inl (cB, NN, .inl f)), (Qz.qq, .inl (cI, (8 * Qz.C), .inl Qz.qf)), (Qz.qe, .inl (cL, (3 * Qz.C), .inr (.inl Qz.ef))), (tv, .inr (12, MF 13 (tw V))), (V.au, .inl (cC, V.U, .inl V.un))] H := hP
          have hD : va_D A [(mo, .inr (13, MF 30 (va_up (rf (rs v Qz o) (skipH f n j2) b3) 7 (.int (nI j2))))), (qx, .inl (cB, NN, .inl f)), (Qz.qq, .inl (cI, (8 * Qz.C), .inl Qz.qf)), (Qz.qe, .inl (cL, (3 * Qz.C), .inr (.inl Qz.ef))), (tv, .inr (12, MF 13 (tw V))), (V.au, .inl (cC, V.U, .inl V.un))] := hD
          rw [rf_u7] at hP hD
          have hP : va_P (dC, dI) classes [(mo, .inr (13, MF 30 (rf (rs v Qz o) j2 b3))), (qx, .inl (cB, NN, .inl f)), (Qz.qq, .inl (cI, (8 * Qz.C), .inl Qz.qf)), (Qz.qe, .inl (cL, (3 * Qz.C), .inr (.inl Qz.ef))), (tv, .inr (12, MF 13 (tw V))), (V.au, .inl (cC, V.U, .inl V.un))] H := hP
          have hD : va_D A [(mo, .inr (13, MF 30 (rf (rs v Qz o) j2 b3))), (qx, .inl (cB, NN, .inl f)), (Qz.qq, .inl (cI, (8 * Qz.C), .inl Qz.qf)), (Qz.qe, .inl (cL, (3 * Qz.C), .inr (.inl Qz.ef))), (tv, .inr (12, MF 13 (tw V))), (V.au, .inl (cC, V.U, .inl V.un))] := hD
          refine lv_iload_n hx hb d_Mo_selector_322 rfl (lv_at hl 4 rfl) ?_
          have hfin : selP f n (orL f n) false i = some (j2, false, slcS a0 e0 1) := by rw [hsl2]; unfold slT; rw [if_pos (fun h => c313 (h_r5.trans h))]; rfl
          have hSE : SELp O Qz V Q.R Qz.R Q.R (slcS a0 e0 1) := ⟨Nat.le_refl _, by omega, Or.inr (Or.inr (Or.inr (Or.inl ⟨hk0_Qz, hsb.c0⟩)))⟩
          refine w_same (fun hq => ?_)
          refine W.widen (k := kcap Q (Q.R + 8 * (n - i) + 4) + qcap V (V.us + (n + 12 - i))) (n := 22 * kcap Q (Q.R + 8 * (n - i) + 4) + 2 * qcap V (V.us + (n + 12 - i))) hfit_QzV.1 hfit_QzV.2 ?_
          have hPo : QPo n i 4 Q V (Qz, V, j2, b3, o) := ⟨hQk_Qz, hG_QzV, ⟨[], TX.rf hTk_V, Nat.zero_le _⟩, by show Q.R ≤ Qz.R; omega, by show Qz.R ≤ Q.R + 8 * (n - i) + 4; omega⟩
          exact W.iret (v := nI Q.R) hx hb hr (fun t9 ht hW => ⟨⟨nI Q.R, (Qz, V, j2, b3, o), rfl, ⟨hPo, Or.inl ⟨false, slcS a0 e0 1, rfl, hfin, hSE, ⟨fun h => absurd h (by decide), fun h => absurd h (by rw [hk0_Qz]; decide)⟩, hl1_Qz, hEx_QzV, by show Qz.R + 8 * i + 7 ≤ Q.R + 8 * j2; omega, by show V.us + i ≤ V.us + j2; omega, by show j2 ≤ n; omega, by show Q.R < Qz.R; omega, rfl⟩⟩, ⟨by rw [ht]; exact hP, va_K.moved hW.alike hK, hD⟩, by rw [ht]; exact hq⟩, hS.F ht⟩) hS.2.2 d_Mo_selector_323
set_option maxHeartbeats 4000000 in
set_option maxRecDepth 100000 in
/-- the reference: selector -/
theorem c_sel1 (orL : (Nat → Int32) → Nat → Nat → Option (Nat × CT)) (O : QP CT) (F L : Nat) (hOf : Frm 8 O) (l : Launch) (dC : Nat → ClassId) (dI : Nat → Nat → Nat) (mo : Nat) (sz : Heap) (v : Nat → Value) (cB cI cL cC : ClassId) (qx NN : Nat) (f : Nat → Int32) (n : Nat) (K : Nat → Nat × Nat) (tv : Nat) (Q : QS) (V : TS) (o i : Nat) (br : Int32) (hOR : ORC orL O o F L) (hnN : n ≤ NN) (hNN : NN ≤ 4096) (hi0 : i ≤ n) (h6 : v 6 = .ref qx) (h8 : v 8 = .int (nI n)) (h22 : v 22 = .ref tv) (hQ : QOK Q) (hV : TOK V) (hcu : V.us + (n + 12 - i) ≤ 400000) (hcr : Q.R + 8 * (n - i) + 4 ≤ 40000) : Met l y_Mo_selector (k_Mo_selector :: gtbl) ({ frames := 7 + F, cells := kcap Q (Q.R + 8 * (n - i) + 4) + qcap V (V.us + (n + 12 - i)), slots := 22 * kcap Q (Q.R + 8 * (n - i) + 4) + 2 * qcap V (V.us + (n + 12 - i)), locals := 200 + L }) (va_Pc [.ref mo, .int 1] (me K dC dI [(mo, .inr (13, MF 30 (rf (rs v Q o) i br))), (qx, .inl (cB, NN, .inl f)), (Q.qq, .inl (cI, (8 * Q.C), .inl Q.qf)), (Q.qe, .inl (cL, (3 * Q.C), .inr (.inl Q.ef))), (tv, .inr (12, MF 13 (tw V))), (V.au, .inl (cC, V.U, .inl V.un))] [(cB, .byte), (cI, .int), (cL, .long), (cC, .char)] sz)) (va_Qi (fun (res : Int32) (u : QS × TS × Nat × Int32 × Nat) => SELo f (orL f n) O true n i o Q V res u) (fun u t9 => mz dC dI [(mo, .inr (13, MF 30 (rf (rs v u.1 u.2.2.2.2) u.2.2.1 u.2.2.2.1))), (qx, .inl (cB, NN, .inl f)), (u.1.qq, .inl (cI, (8 * u.1.C), .inl u.1.qf)), (u.1.qe, .inl (cL, (3 * u.1.C), .inr (.inl u.1.ef))), (tv, .inr (12, MF 13 (tw u.2.1))), (u.2.1.au, .inl (cC, u.2.1.U, .inl u.2.1.un))] [(cB, .byte), (cI, .int), (cL, .long), (cC, .char)] (va_A [(mo, .inr (13, MF 30 (rf (rs v Q o) i br))), (qx, .inl (cB, NN, .inl f)), (Q.qq, .inl (cI, (8 * Q.C), .inl Q.qf)), (Q.qe, .inl (cL, (3 * Q.C), .inr (.inl Q.ef))), (tv, .inr (12, MF 13 (tw V))), (V.au, .inl (cC, V.U, .inl V.un))] sz.size) t9 ∧ szk sz t9.heap (cQ Q V u.1 u.2.1) (sQ Q V u.1 u.2.1)) (va_A [(mo, .inr (13, MF 30 (rf (rs v Q o) i br))), (qx, .inl (cB, NN, .inl f)), (Q.qq, .inl (cI, (8 * Q.C), .inl Q.qf)), (Q.qe, .inl (cL, (3 * Q.C), .inr (.inl Q.ef))), (tv, .inr (12, MF 13 (tw V))), (V.au, .inl (cC, V.U, .inl V.un))] sz.size)) (kcap Q (Q.R + 8 * (n - i) + 4) + qcap V (V.us + (n + 12 - i))) (22 * kcap Q (Q.R + 8 * (n - i) + 4) + 2 * qcap V (V.us + (n + 12 - i))) (va_A [(mo, .inr (13, MF 30 (rf (rs v Q o) i br))), (qx, .inl (cB, NN, .inl f)), (Q.qq, .inl (cI, (8 * Q.C), .inl Q.qf)), (Q.qe, .inl (cL, (3 * Q.C), .inr (.inl Q.ef))), (tv, .inr (12, MF 13 (tw V))), (V.au, .inl (cC, V.U, .inl V.un))] sz.size) := by
  refine Met.ofW (cc := b_Mo_selector) (maxL := 5) (ret := (some .int)) (by decide) rfl ?_
  intro p e s m args below meth c s₁ B hml hv
  obtain ⟨rfl, ⟨hsz, hP, hK, hD0⟩, hM⟩ := hv
  have hx := B.exec
  have hb := B.bytes
  have hr := B.returns
  have hts0 := atoms_spec (ws := k_Mo_selector :: gtbl) B.pre
  have hts := fun w h => hts0 w (List.mem_cons_of_mem _ h)
  have hown : s.vm.findClass R_Mo = some m.cls := findClass_of_methodNamed B.named
  have hlocks := B.notSynchronized
  subst hsz
  have hD := hD0.self (sz := s.heap.size)
  generalize hAe : va_A [(mo, .inr (13, MF 30 (rf (rs v Q o) i br))), (qx, .inl (cB, NN, .inl f)), (Q.qq, .inl (cI, (8 * Q.C), .inl Q.qf)), (Q.qe, .inl (cL, (3 * Q.C), .inr (.inl Q.ef))), (tv, .inr (12, MF 13 (tw V))), (V.au, .inl (cC, V.U, .inl V.un))] s.heap.size = A at hD hM ⊢
  have hA : ∀ q : Nat, s.heap.size ≤ q → A q := fun q h => by rw [← hAe]; exact Or.inr h
  have hS : va_S A s.heap s.heap [] := va_S.rf
  have hP : va_P (dC, dI) classes [(mo, .inr (13, MF 30 (rf (rs v Q o) i br))), (qx, .inl (cB, NN, .inl f)), (Q.qq, .inl (cI, (8 * Q.C), .inl Q.qf)), (Q.qe, .inl (cL, (3 * Q.C), .inr (.inl Q.ef))), (tv, .inr (12, MF 13 (tw V))), (V.au, .inl (cC, V.U, .inl V.un))] s.heap := hP
  have hl := lv_entry ([.ref mo, .int 1]) (n := 5) (Nat.le_of_ble_eq_true rfl)
  rw [lg_entry_eq]
  generalize (lg_sl ([.ref mo, .int 1]) ++ List.replicate (5 - (lg_sl ([.ref mo, .int 1])).length) Slot.unset).toArray = ls at hl ⊢
  have hl : lv_has ls 5 [(0, .ref mo), (1, .int 1)] := hl
  have hQk_Q := hQ
  have hTk_V := hV
  have hCo := hQ.2.2.1
  have hCo2 := hQ.2.1
  clear hQ hV
  have hG_QV : GQ (Q.R + 8 * (n - i) + 4) (V.us + (n + 12 - i)) Q V Q V := GQ.rf
  refine w_same (fun hq => ?_)
  refine w_tight (k := cQ Q V Q V) (n := sQ Q V Q V) (by rw [cQ_rf.1, cQ_rf.2]; exact hq) ?_
  have hqb_QV : Q.R ≤ Q.C ∧ Q.C ≤ 100000 := ⟨hQk_Q.2.2.1, hQk_Q.2.1⟩
  have hfit_QV := hG_QV.fits
  refine lv_aload_n hx hb d_Mo_selector_0 rfl (lv_at hl 0 rfl) ?_
  have hPc := hP.sub (ws' := [(mo, .inr (13, MF 30 (rf (rs v Q o) i br))), (qx, .inl (cB, NN, .inl f))]) [0, 1] rfl
  have hDc := hD.sub (ws' := [(mo, .inr (13, MF 30 (rf (rs v Q o) i br))), (qx, .inl (cB, NN, .inl f))]) [0, 1] (by decide) rfl
  have hKc := hK.sub (tys' := [(cB, .byte)]) [0] rfl
  have hFc := va_free (wc := [(mo, .inr (13, MF 30 (rf (rs v Q o) i br))), (qx, .inl (cB, NN, .inl f))]) hD hS hA [0, 1] rfl
  refine va_calli (va_runV (As := []) (rest := []) ⟨hx, hb, hml, hown, hts⟩ (c_Mo_c l dC dI mo s.heap (rf (rs v Q o) i br) cB qx NN f n i (by omega) (by omega) (by omega) ((rf_ne (by decide) (by decide)).trans ((rs_ne (by decide) (by decide) (by decide) (by decide)).trans h6)) rf_7 ((rf_ne (by decide) (by decide)).trans ((rs_ne (by decide) (by decide) (by decide) (by decide)).trans h8))) (cwV 0 hts (gt_V (own := R_Mo) (C := R_Mo) (i := 147) (y := y_Mo_c) i_Mo_c w_1233 w_1235 (gt_sel (y := y_Mo_c) (n := 30) (by decide +kernel)) w_7) rfl rfl rfl (by decide +kernel) ⟨Nat.le_trans (m := 7) (Nat.le_of_ble_eq_true rfl) (Nat.le_add_right 7 F), Nat.le_trans (m := 200) (Nat.le_of_ble_eq_true rfl) (Nat.le_add_right 200 L)⟩) ⟨mp_blind, va_recv hKc hPc (ci := 13) (q0 := 0) rfl rfl, fun U hU hW => ⟨rfl, hU, by rw [hU]; exact hPc, va_K.moved hW.alike hKc, hDc.weaken (fun _ _ _ _ => trivial)⟩⟩ rfl rfl hl.1 rfl (lv_room (Nat.le_of_ble_eq_true rfl)) d_Mo_selector_1 ⟨hfit_QV.1, hfit_QV.2⟩) hS (fun q _ h => hFc q h) hFc (fun r1 _u t9 H1 locs ht hvm hw hB hz1 hk1 hS => ?_)
  obtain ⟨hP1, hK1, hD1⟩ := hB
  rw [ht] at hP1
  obtain ⟨hP, hD⟩ := va_join (wr := [(Q.qq, .inl (cI, (8 * Q.C), .inl Q.qf)), (Q.qe, .inl (cL, (3 * Q.C), .inr (.inl Q.ef))), (tv, .inr (12, MF 13 (tw V))), (V.au, .inl (cC, V.U, .inl V.un))]) (w1 := [(mo, .inr (13, MF 30 (rf (rs v Q o) i br))), (qx, .inl (cB, NN, .inl f))]) hP hD [0, 1] [2, 3, 4, 5] rfl rfl (by decide) (by decide) hk1 hFc hP1 hD1
  generalize H1 = H at hP hS ⊢
  have hP : va_P (dC, dI) classes [(Q.qq, .inl (cI, (8 * Q.C), .inl Q.qf)), (Q.qe, .inl (cL, (3 * Q.C), .inr (.inl Q.ef))), (tv, .inr (12, MF 13 (tw V))), (V.au, .inl (cC, V.U, .inl V.un)), (mo, .inr (13, MF 30 (rf (rs v Q o) i br))), (qx, .inl (cB, NN, .inl f))] H := hP
  have hD : va_D A [(Q.qq, .inl (cI, (8 * Q.C), .inl Q.qf)), (Q.qe, .inl (cL, (3 * Q.C), .inr (.inl Q.ef))), (tv, .inr (12, MF 13 (tw V))), (V.au, .inl (cC, V.U, .inl V.un)), (mo, .inr (13, MF 30 (rf (rs v Q o) i br))), (qx, .inl (cB, NN, .inl f))] := hD
  have hP := hP.sub (ws' := [(mo, .inr (13, MF 30 (rf (rs v Q o) i br))), (qx, .inl (cB, NN, .inl f)), (Q.qq, .inl (cI, (8 * Q.C), .inl Q.qf)), (Q.qe, .inl (cL, (3 * Q.C), .inr (.inl Q.ef))), (tv, .inr (12, MF 13 (tw V))), (V.au, .inl (cC, V.U, .inl V.un))]) [4, 5, 0, 1, 2, 3] rfl
  have hD := hD.sub (ws' := [(mo, .inr (13, MF 30 (rf (rs v Q o) i br))), (qx, .inl (cB, NN, .inl f)), (Q.qq, .inl (cI, (8 * Q.C), .inl Q.qf)), (Q.qe, .inl (cL, (3 * Q.C), .inr (.inl Q.ef))), (tv, .inr (12, MF 13 (tw V))), (V.au, .inl (cC, V.U, .inl V.un))]) [4, 5, 0, 1, 2, 3] (by decide) rfl
  have h_r1 : r1 = hereV f n i := hw
  refine lv_istore_n (lv' := [(2, .int r1), (0, .ref mo), (1, .int 1)]) hx hb d_Mo_selector_4 rfl hl (by decide) rfl (fun ls hl => ?_)
  refine w_join (D := (dC, dI)) (cl := classes) (A := A) (H0 := s.heap) (nL := 5) 185 (σ := Unit) (fun _ => selP f n (orL f n) true i = selT f n true i ∧ (r1 = 45 ∨ digH r1 ∨ r1 = 58)) (fun _ => cQ Q V Q V) (fun _ => sQ Q V Q V) (fun _ => [(mo, .inr (13, MF 30 (rf (rs v Q o) i br))), (qx, .inl (cB, NN, .inl f)), (Q.qq, .inl (cI, (8 * Q.C), .inl Q.qf)), (Q.qe, .inl (cL, (3 * Q.C), .inr (.inl Q.ef))), (tv, .inr (12, MF 13 (tw V))), (V.au, .inl (cC, V.U, .inl V.un))]) (fun _ => [(0, .ref mo), (1, .int 1), (2, .int r1)]) (fun jn185 => ?_) ?_
  · refine lv_iload_n hx hb d_Mo_selector_5 rfl (lv_at hl 0 rfl) ?_
    refine lv_bipush (v := 39) hx hb d_Mo_selector_6 (by decide) ?_
    refine lv_icmp_eq (tgt := 17) hx hb d_Mo_selector_8 (by decide) (fun c8 => ?_) (fun c8 => ?_)
    · refine lv_aload_n hx hb d_Mo_selector_17 rfl (lv_at hl 1 rfl) ?_
      refine lv_iconst (v := 1) hx hb d_Mo_selector_18 (by decide) ?_
      have hPc := hP.sub (ws' := [(mo, .inr (13, MF 30 (rf (rs v Q o) i br))), (Q.qq, .inl (cI, (8 * Q.C), .inl Q.qf)), (Q.qe, .inl (cL, (3 * Q.C), .inr (.inl Q.ef)))]) [0, 2, 3] rfl
      have hDc := hD.sub (ws' := [(mo, .inr (13, MF 30 (rf (rs v Q o) i br))), (Q.qq, .inl (cI, (8 * Q.C), .inl Q.qf)), (Q.qe, .inl (cL, (3 * Q.C), .inr (.inl Q.ef)))]) [0, 2, 3] (by decide) rfl
      have hKc := hK.sub (tys' := [(cI, .int), (cL, .long)]) [1, 2] rfl
      have hFc := va_free (wc := [(mo, .inr (13, MF 30 (rf (rs v Q o) i br))), (Q.qq, .inl (cI, (8 * Q.C), .inl Q.qf)), (Q.qe, .inl (cL, (3 * Q.C), .inr (.inl Q.ef)))]) hD hS hA [0, 2, 3] rfl
      refine w_same (fun hq0 => ?_)
      refine va_calli (va_runV (As := [.int 1]) (rest := []) ⟨hx, hb, hml, hown, hts⟩ (c_Mo_row l dC dI mo H v cI cL Q o i br 1 hQk_Q) (cwV 1 hts (gt_V (own := R_Mo) (C := R_Mo) (i := 269) (y := y_Mo_row) i_Mo_row w_1407 w_1409 (gt_sel (y := y_Mo_row) (n := 30) (by decide +kernel)) w_7) rfl rfl rfl (by decide +kernel) ⟨Nat.le_trans (m := 7) (Nat.le_of_ble_eq_true rfl) (Nat.le_add_right 7 F), Nat.le_trans (m := 200) (Nat.le_of_ble_eq_true rfl) (Nat.le_add_right 200 L)⟩) ⟨mp_blind, va_recv hKc hPc (ci := 13) (q0 := 0) rfl rfl, fun U hU hW => ⟨rfl, hU, by rw [hU]; exact hPc, va_K.moved hW.alike hKc, hDc.weaken (fun _ _ _ _ => trivial)⟩⟩ rfl rfl hl.1 rfl (lv_room (Nat.le_of_ble_eq_true rfl)) d_Mo_selector_19 ⟨(QAd.fit hG_QV hQk_Q (by omega)).1, (QAd.fit hG_QV hQk_Q (by omega)).2⟩) hS (fun q _ h => hFc q h) hFc (fun r0 Q1 t9 H1 locs ht hvm hw hB hz1 hk1 hS => ?_)
      obtain ⟨⟨hP1, hK1, hD1⟩, hz9⟩ := hB
      rw [ht] at hP1
      rw [ht] at hz9
      obtain ⟨hr0, hA_Q1⟩ := hw
      have hA_Q1 : QAd Q Q1 1 := hA_Q1
      obtain ⟨hQk_Q1, hGa, hGb, hGd, hR_Q1⟩ := hA_Q1.gq hQk_Q (by omega) V
      obtain ⟨hG_Q1V, hGc, hGs⟩ := hG_QV.tr hGa (show Q.R + 1 ≤ Q.R + 8 * (n - i) + 4 by omega) (Nat.zero_le _)
      have hGc := Nat.le_trans (Nat.add_le_add_left hGb _) hGc
      have hGs := Nat.le_trans (Nat.add_le_add_left hGd _) hGs
      have hq1 : szk s.heap H1 (cQ Q V Q1 V) (sQ Q V Q1 V) := (hq0.trans hz9).mono hGc hGs
      refine w_tight hq1 ?_
      obtain ⟨hP, hD⟩ := va_join (wr := [(qx, .inl (cB, NN, .inl f)), (tv, .inr (12, MF 13 (tw V))), (V.au, .inl (cC, V.U, .inl V.un))]) (w1 := [(mo, .inr (13, MF 30 (rf (rs v Q1 o) i br))), (Q1.qq, .inl (cI, (8 * Q1.C), .inl Q1.qf)), (Q1.qe, .inl (cL, (3 * Q1.C), .inr (.inl Q1.ef)))]) hP hD [0, 2, 3] [1, 4, 5] rfl rfl (by decide) (by decide) hk1 hFc hP1 hD1
      generalize H1 = H at hP hS ⊢
      have hP : va_P (dC, dI) classes [(qx, .inl (cB, NN, .inl f)), (tv, .inr (12, MF 13 (tw V))), (V.au, .inl (cC, V.U, .inl V.un)), (mo, .inr (13, MF 30 (rf (rs v Q1 o) i br))), (Q1.qq, .inl (cI, (8 * Q1.C), .inl Q1.qf)), (Q1.qe, .inl (cL, (3 * Q1.C), .inr (.inl Q1.ef)))] H := hP
      have hD : va_D A [(qx, .inl (cB, NN, .inl f)), (tv, .inr (12, MF 13 (tw V))), (V.au, .inl (cC, V.U, .inl V.un)), (mo, .inr (13, MF 30 (rf (rs v Q1 o) i br))), (Q1.qq, .inl (cI, (8 * Q1.C), .inl Q1.qf)), (Q1.qe, .inl (cL, (3 * Q1.C), .inr (.inl Q1.ef)))] := hD
      have hP := hP.sub (ws' := [(mo, .inr (13, MF 30 (rf (rs v Q1 o) i br))), (qx, .inl (cB, NN, .inl f)), (tv, .inr (12, MF 13 (tw V))), (V.au, .inl (cC, V.U, .inl V.un)), (Q1.qq, .inl (cI, (8 * Q1.C), .inl Q1.qf)), (Q1.qe, .inl (cL, (3 * Q1.C), .inr (.inl Q1.ef)))]) [3, 0, 1, 2, 4, 5] rfl
      have hD := hD.sub (ws' := [(mo, .inr (13, MF 30 (rf (rs v Q1 o) i br))), (qx, .inl (cB, NN, .inl f)), (tv, .inr (12, MF 13 (tw V))), (V.au, .inl (cC, V.U, .inl V.un)), (Q1.qq, .inl (cI, (8 * Q1.C), .inl Q1.qf)), (Q1.qe, .inl (cL, (3 * Q1.C), .inr (.inl Q1.ef)))]) [3, 0, 1, 2, 4, 5] (by decide) rfl
      have hP := hP.sub (ws' := [(mo, .inr (13, MF 30 (rf (rs v Q1 o) i br))), (qx, .inl (cB, NN, .inl f)), (Q1.qq, .inl (cI, (8 * Q1.C), .inl Q1.qf)), (Q1.qe, .inl (cL, (3 * Q1.C), .inr (.inl Q1.ef))), (tv, .inr (12, MF 13 (tw V))), (V.au, .inl (cC, V.U, .inl V.un))]) [0, 1, 4, 5, 2, 3] rfl
      have hD := hD.sub (ws' := [(mo, .inr (13, MF 30 (rf (rs v Q1 o) i br))), (qx, .inl (cB, NN, .inl f)), (Q1.qq, .inl (cI, (8 * Q1.C), .inl Q1.qf)), (Q1.qe, .inl (cL, (3 * Q1.C), .inr (.inl Q1.ef))), (tv, .inr (12, MF 13 (tw V))), (V.au, .inl (cC, V.U, .inl V.un))]) [0, 1, 4, 5, 2, 3] (by decide) rfl
      have hr0 : r0 = nI Q.R := hr0
      subst hr0
      have hqb_Q1V : Q1.R ≤ Q1.C ∧ Q1.C ≤ 100000 := ⟨hQk_Q1.2.2.1, hQk_Q1.2.1⟩
      have hfit_Q1V := hG_Q1V.fits
      have hE_Q1 : alr Q V Q1 V 0 Q.R := ⟨fun r9 k9 _ h1 h2 => hA_Q1.2.2.1 _ (by omega), ⟨fun r9 k9 _ h1 h2 => hA_Q1.2.2.2.1.2 _ (by omega), Nat.le_refl _, fun _ _ => rfl⟩⟩
      have hk0_Q1 : Q1.qf (8 * Q.R + 0) = 1 := hA_Q1.2.2.2.2.1
      have hl1_Q1 : Q1.qf (8 * Q.R + 1) = -1 := hA_Q1.2.2.2.2.2 1 (by decide) (by decide)
      have hEx_Q1V : alr Q V Q1 V 0 Q.R := hE_Q1
      refine lv_istore_n (lv' := [(3, .int (nI Q.R)), (2, .int r1), (0, .ref mo), (1, .int 1)]) hx hb d_Mo_selector_22 rfl hl (by decide) rfl (fun ls hl => ?_)
      refine lv_aload_n hx hb d_Mo_selector_23 rfl (lv_at hl 2 rfl) ?_
      refine lv_iload_n hx hb d_Mo_selector_24 rfl (lv_at hl 0 rfl) ?_
      refine lv_iconst (v := 2) hx hb d_Mo_selector_25 (by decide) ?_
      refine lv_aload_n hx hb d_Mo_selector_26 rfl (lv_at hl 2 rfl) ?_
      refine va_get (D := (dC, dI)) (ci := 13) (v := .ref tv) (C := R_Mo) (T := F_Mo) (N := 30) hx hb hts in_Mo hown hK hP 0 rfl rfl 22 (by decide) (hts _ w_1111) (fun _ h9 => h9) (MFg (by decide) ((rf_ne (by decide) (by decide)).trans ((rs_ne (by decide) (by decide) (by decide) (by decide)).trans h22))) d_Mo_selector_27 ?_
      refine va_get (D := (dC, dI)) (ci := 12) (v := .int (nI V.us)) (C := R_Tree) (T := F_Tree) (N := 13) hx hb hts in_Tree hown hK hP 4 rfl rfl 12 (by decide) (hts _ w_1058) (fun _ h9 => h9) (MFg (by decide) rfl) d_Mo_selector_30 ?_
      refine W.eq (g2 := F0 m 33 ls [.int (nI V.us), .int (nI 2), .int (nI Q.R), .ref mo]) rfl ?_
      have hPc := hP.sub (ws' := [(mo, .inr (13, MF 30 (rf (rs v Q1 o) i br))), (Q1.qq, .inl (cI, (8 * Q1.C), .inl Q1.qf))]) [0, 2] rfl
      have hDc := hD.sub (ws' := [(mo, .inr (13, MF 30 (rf (rs v Q1 o) i br))), (Q1.qq, .inl (cI, (8 * Q1.C), .inl Q1.qf))]) [0, 2] (by decide) rfl
      have hKc := hK.sub (tys' := [(cI, .int)]) [1] rfl
      have hFc := va_free (wc := [(mo, .inr (13, MF 30 (rf (rs v Q1 o) i br))), (Q1.qq, .inl (cI, (8 * Q1.C), .inl Q1.qf))]) hD hS hA [0, 2] rfl
      refine va_callv (va_runV (As := [.int (nI Q.R), .int (nI 2), .int (nI V.us)]) (rest := []) ⟨hx, hb, hml, hown, hts⟩ (c_Mo_set l dC dI mo H (rf (rs v Q1 o) i br) cI Q1.qq (8 * Q1.C) Q1.qf Q.R 2 ((nI V.us)) (by omega) (by omega) ((rf_ne (by decide) (by decide)).trans rs_19)) (cwV 3 hts (gt_V (own := R_Mo) (C := R_Mo) (i := 272) (y := y_Mo_set) i_Mo_set w_1411 w_1413 (gt_sel (y := y_Mo_set) (n := 30) (by decide +kernel)) w_7) rfl rfl rfl (by decide +kernel) ⟨Nat.le_trans (m := 7) (Nat.le_of_ble_eq_true rfl) (Nat.le_add_right 7 F), Nat.le_trans (m := 200) (Nat.le_of_ble_eq_true rfl) (Nat.le_add_right 200 L)⟩) ⟨mp_blind, va_recv hKc hPc (ci := 13) (q0 := 0) rfl rfl, fun U hU hW => ⟨rfl, hU, by rw [hU]; exact hPc, va_K.moved hW.alike hKc, hDc.weaken (fun _ _ _ _ => trivial)⟩⟩ rfl rfl hl.1 rfl (lv_room (Nat.le_of_ble_eq_true rfl)) d_Mo_selector_33 ⟨hfit_Q1V.1, hfit_Q1V.2⟩) hS (fun q _ h => hFc q h) hFc (fun _u t9 H1 locs ht hvm hw hB hz1 hk1 hS => ?_)
      obtain ⟨hP1, hK1, hD1⟩ := hB
      rw [ht] at hP1
      obtain ⟨hP, hD⟩ := va_join (wr := [(qx, .inl (cB, NN, .inl f)), (Q1.qe, .inl (cL, (3 * Q1.C), .inr (.inl Q1.ef))), (tv, .inr (12, MF 13 (tw V))), (V.au, .inl (cC, V.U, .inl V.un))]) (w1 := [(mo, .inr (13, MF 30 (rf (rs v Q1 o) i br))), (Q1.qq, .inl (cI, (8 * Q1.C), .inl (upd Q1.qf (8 * Q.R + 2) ((nI V.us)))))]) hP hD [0, 2] [1, 3, 4, 5] rfl rfl (by decide) (by decide) hk1 hFc hP1 hD1
      generalize H1 = H at hP hS ⊢
      have hP : va_P (dC, dI) classes [(qx, .inl (cB, NN, .inl f)), (Q1.qe, .inl (cL, (3 * Q1.C), .inr (.inl Q1.ef))), (tv, .inr (12, MF 13 (tw V))), (V.au, .inl (cC, V.U, .inl V.un)), (mo, .inr (13, MF 30 (rf (rs v Q1 o) i br))), (Q1.qq, .inl (cI, (8 * Q1.C), .inl (upd Q1.qf (8 * Q.R + 2) ((nI V.us)))))] H := hP
      have hD : va_D A [(qx, .inl (cB, NN, .inl f)), (Q1.qe, .inl (cL, (3 * Q1.C), .inr (.inl Q1.ef))), (tv, .inr (12, MF 13 (tw V))), (V.au, .inl (cC, V.U, .inl V.un)), (mo, .inr (13, MF 30 (rf (rs v Q1 o) i br))), (Q1.qq, .inl (cI, (8 * Q1.C), .inl (upd Q1.qf (8 * Q.R + 2) ((nI V.us)))))] := hD
      have hP := hP.sub (ws' := [(mo, .inr (13, MF 30 (rf (rs v Q1 o) i br))), (qx, .inl (cB, NN, .inl f)), (Q1.qq, .inl (cI, (8 * Q1.C), .inl (upd Q1.qf (8 * Q.R + 2) ((nI V.us))))), (Q1.qe, .inl (cL, (3 * Q1.C), .inr (.inl Q1.ef))), (tv, .inr (12, MF 13 (tw V))), (V.au, .inl (cC, V.U, .inl V.un))]) [4, 0, 5, 1, 2, 3] rfl
      have hD := hD.sub (ws' := [(mo, .inr (13, MF 30 (rf (rs v Q1 o) i br))), (qx, .inl (cB, NN, .inl f)), (Q1.qq, .inl (cI, (8 * Q1.C), .inl (upd Q1.qf (8 * Q.R + 2) ((nI V.us))))), (Q1.qe, .inl (cL, (3 * Q1.C), .inr (.inl Q1.ef))), (tv, .inr (12, MF 13 (tw V))), (V.au, .inl (cC, V.U, .inl V.un))]) [4, 0, 5, 1, 2, 3] (by decide) rfl
      obtain ⟨Q2, e_Q2⟩ : ∃ z : QS, z = QS.wf Q1 (upd Q1.qf (8 * Q.R + 2) ((nI V.us))) := ⟨_, rfl⟩
      have hP : va_P (dC, dI) classes [(mo, .inr (13, MF 30 (rf (rs v Q2 o) i br))), (qx, .inl (cB, NN, .inl f)), (Q2.qq, .inl (cI, (8 * Q2.C), .inl Q2.qf)), (Q2.qe, .inl (cL, (3 * Q2.C), .inr (.inl Q2.ef))), (tv, .inr (12, MF 13 (tw V))), (V.au, .inl (cC, V.U, .inl V.un))] H := by subst e_Q2; exact hP
      have hD : va_D A [(mo, .inr (13, MF 30 (rf (rs v Q2 o) i br))), (qx, .inl (cB, NN, .inl f)), (Q2.qq, .inl (cI, (8 * Q2.C), .inl Q2.qf)), (Q2.qe, .inl (cL, (3 * Q2.C), .inr (.inl Q2.ef))), (tv, .inr (12, MF 13 (tw V))), (V.au, .inl (cC, V.U, .inl V.un))] := by subst e_Q2; exact hD
      have hf_Q2 : Q2.C = Q1.C ∧ Q2.R = Q1.R ∧ Q2.qf = upd Q1.qf (8 * Q.R + 2) ((nI V.us)) := by rw [e_Q2]; exact ⟨rfl, rfl, rfl⟩
      have he_Q2 : Q2.ef = Q1.ef := by rw [e_Q2]; rfl
      have hQk_Q2 : QOK Q2 := by rw [e_Q2]; exact hQk_Q1
      have hG_Q2V : GQ (Q.R + 8 * (n - i) + 4) (V.us + (n + 12 - i)) Q V Q2 V := by unfold GQ at hG_Q1V ⊢; rw [hf_Q2.1]; exact hG_Q1V
      refine w_same (fun hq => ?_)
      refine w_tight (k := cQ Q V Q2 V) (n := sQ Q V Q2 V) (by unfold cQ sQ at hq ⊢; rw [hf_Q2.1]; exact hq) ?_
      have hR_Q2 := hf_Q2.2.1
      have hqb_Q2V : Q2.R ≤ Q2.C ∧ Q2.C ≤ 100000 := ⟨hQk_Q2.2.2.1, hQk_Q2.2.1⟩
      have hfit_Q2V := hG_Q2V.fits
      have hk0_Q2 : Q2.qf (8 * Q.R + 0) = 1 := by rw [hf_Q2.2.2, pk_un (by omega)]; exact hk0_Q1
      have hl1_Q2 : Q2.qf (8 * Q.R + 1) = -1 := by rw [hf_Q2.2.2, pk_un (by omega)]; exact hl1_Q1
      have hEx_Q2V : alr Q V Q2 V 0 Q.R := hEx_Q1V.tr (alr.upd hf_Q2.2.2 he_Q2 (by decide) (by omega))
      refine lv_aload_n hx hb d_Mo_selector_36 rfl (lv_at hl 2 rfl) ?_
      refine lv_iload_n hx hb d_Mo_selector_37 rfl (lv_at hl 1 rfl) ?_
      refine lv_aload_n hx hb d_Mo_selector_38 rfl (lv_at hl 2 rfl) ?_
      refine va_get (D := (dC, dI)) (ci := 13) (v := .ref tv) (C := R_Mo) (T := F_Mo) (N := 30) hx hb hts in_Mo hown hK hP 0 rfl rfl 22 (by decide) (hts _ w_1111) (fun _ h9 => h9) (MFg (by decide) ((rf_ne (by decide) (by decide)).trans ((rs_ne (by decide) (by decide) (by decide) (by decide)).trans h22))) d_Mo_selector_39 ?_
      have hqr : 0 ≤ r1 := by rw [c8]; decide
      have hlt0 := here_in h_r1.symm hqr
      have hPc := hP.sub (ws' := [(mo, .inr (13, MF 30 (rf (rs v Q2 o) i br))), (qx, .inl (cB, NN, .inl f)), (tv, .inr (12, MF 13 (tw V))), (V.au, .inl (cC, V.U, .inl V.un))]) [0, 1, 4, 5] rfl
      have hDc := hD.sub (ws' := [(mo, .inr (13, MF 30 (rf (rs v Q2 o) i br))), (qx, .inl (cB, NN, .inl f)), (tv, .inr (12, MF 13 (tw V))), (V.au, .inl (cC, V.U, .inl V.un))]) [0, 1, 4, 5] (by decide) rfl
      have hKc := hK.sub (tys' := [(cB, .byte), (cC, .char)]) [0, 3] rfl
      have hFc := va_free (wc := [(mo, .inr (13, MF 30 (rf (rs v Q2 o) i br))), (qx, .inl (cB, NN, .inl f)), (tv, .inr (12, MF 13 (tw V))), (V.au, .inl (cC, V.U, .inl V.un))]) hD hS hA [0, 1, 4, 5] rfl
      refine w_same (fun hq0 => ?_)
      refine va_calli (va_runV (As := [.int r1, .ref tv]) (rest := []) ⟨hx, hb, hml, hown, hts⟩ (c_Mo_quoted l dC dI mo H (rs v Q2 o) cB cC qx NN f n K tv V i br r1 hnN (by omega) (by omega) ((rs_ne (by decide) (by decide) (by decide) (by decide)).trans h6) ((rs_ne (by decide) (by decide) (by decide) (by decide)).trans h8) hqr hTk_V (by omega)) (cwV 2 hts (gt_V (own := R_Mo) (C := R_Mo) (i := 200) (y := y_Mo_quoted) i_Mo_quoted w_1261 w_1263 (gt_sel (y := y_Mo_quoted) (n := 30) (by decide +kernel)) w_7) rfl rfl rfl (by decide +kernel) ⟨Nat.le_trans (m := 7) (Nat.le_of_ble_eq_true rfl) (Nat.le_add_right 7 F), Nat.le_trans (m := 200) (Nat.le_of_ble_eq_true rfl) (Nat.le_add_right 200 L)⟩) ⟨me_blind, va_recv hKc hPc (ci := 13) (q0 := 0) rfl rfl, fun U hU hW => ⟨rfl, ⟨hU, by rw [hU]; exact hPc, va_K.moved hW.alike hKc, hDc.weaken (fun _ _ _ _ => trivial)⟩, by rw [hU]; exact ME.call hM hS.2.1 hFc hW⟩⟩ rfl rfl hl.1 rfl (lv_room (Nat.le_of_ble_eq_true rfl)) d_Mo_selector_42 ⟨(hG_Q2V.stepQ (C2 := V.us + (n + 12 - i)) (by omega)).1, (hG_Q2V.stepQ (C2 := V.us + (n + 12 - i)) (by omega)).2⟩) hS (fun q _ h => hFc q h) hFc (fun r0 ⟨V1, us9, j_V1, b_V1⟩ t9 H1 locs ht hvm hw hB hz1 hk1 hS => ?_)
      obtain ⟨⟨hP1, hK1, hD1⟩, hz9⟩ := hB
      rw [ht] at hP1
      rw [ht] at hz9
      obtain ⟨hX_V1, hw⟩ := hw
      have hX_V1 : TX V V1 us9 := hX_V1
      have hXs_V1 := hX_V1.us
      have hln_V1 : us9.length ≤ n + 12 - i := by rcases hw with ⟨_, _, h9, h8⟩ | ⟨_, _, h9, _⟩; exact Nat.le_sub_of_add_le (show us9.length + i ≤ n + 12 by have h8 : us9.length + i + 2 ≤ j_V1 := h8; have h9 : j_V1 ≤ n := h9; omega); exact h9
      obtain ⟨hG_Q2V1, hGc, hGs⟩ := hG_Q2V.tr (hX_V1.gq Q2).1 (Nat.zero_le _) (show V.us + us9.length ≤ V.us + (n + 12 - i) by omega)
      rw [← (hX_V1.gq Q2).2.1] at hGc
      rw [← (hX_V1.gq Q2).2.2] at hGs
      have hz9 : szk H H1 (V1.U - V.U) (2 * (V1.U - V.U)) := hz9
      have hq1 : szk s.heap H1 (cQ Q V Q2 V1) (sQ Q V Q2 V1) := (hq0.trans hz9).mono hGc hGs
      refine w_tight hq1 ?_
      obtain ⟨hP, hD⟩ := va_join (wr := [(Q2.qq, .inl (cI, (8 * Q2.C), .inl Q2.qf)), (Q2.qe, .inl (cL, (3 * Q2.C), .inr (.inl Q2.ef)))]) (w1 := [(mo, .inr (13, MF 30 (rf (rs v Q2 o) j_V1 b_V1))), (qx, .inl (cB, NN, .inl f)), (tv, .inr (12, MF 13 (tw V1))), (V1.au, .inl (cC, V1.U, .inl V1.un))]) hP hD [0, 1, 4, 5] [2, 3] rfl rfl (by decide) (by decide) hk1 hFc hP1 hD1
      generalize H1 = H at hP hS ⊢
      have hP : va_P (dC, dI) classes [(Q2.qq, .inl (cI, (8 * Q2.C), .inl Q2.qf)), (Q2.qe, .inl (cL, (3 * Q2.C), .inr (.inl Q2.ef))), (mo, .inr (13, MF 30 (rf (rs v Q2 o) j_V1 b_V1))), (qx, .inl (cB, NN, .inl f)), (tv, .inr (12, MF 13 (tw V1))), (V1.au, .inl (cC, V1.U, .inl V1.un))] H := hP
      have hD : va_D A [(Q2.qq, .inl (cI, (8 * Q2.C), .inl Q2.qf)), (Q2.qe, .inl (cL, (3 * Q2.C), .inr (.inl Q2.ef))), (mo, .inr (13, MF 30 (rf (rs v Q2 o) j_V1 b_V1))), (qx, .inl (cB, NN, .inl f)), (tv, .inr (12, MF 13 (tw V1))), (V1.au, .inl (cC, V1.U, .inl V1.un))] := hD
      have hP := hP.sub (ws' := [(mo, .inr (13, MF 30 (rf (rs v Q2 o) j_V1 b_V1))), (qx, .inl (cB, NN, .inl f)), (Q2.qq, .inl (cI, (8 * Q2.C), .inl Q2.qf)), (Q2.qe, .inl (cL, (3 * Q2.C), .inr (.inl Q2.ef))), (tv, .inr (12, MF 13 (tw V1))), (V1.au, .inl (cC, V1.U, .inl V1.un))]) [2, 3, 0, 1, 4, 5] rfl
      have hD := hD.sub (ws' := [(mo, .inr (13, MF 30 (rf (rs v Q2 o) j_V1 b_V1))), (qx, .inl (cB, NN, .inl f)), (Q2.qq, .inl (cI, (8 * Q2.C), .inl Q2.qf)), (Q2.qe, .inl (cL, (3 * Q2.C), .inr (.inl Q2.ef))), (tv, .inr (12, MF 13 (tw V1))), (V1.au, .inl (cC, V1.U, .inl V1.un))]) [2, 3, 0, 1, 4, 5] (by decide) rfl
      have hP := hP.sub (ws' := [(mo, .inr (13, MF 30 (rf (rs v Q2 o) j_V1 b_V1))), (qx, .inl (cB, NN, .inl f)), (Q2.qq, .inl (cI, (8 * Q2.C), .inl Q2.qf)), (Q2.qe, .inl (cL, (3 * Q2.C), .inr (.inl Q2.ef))), (tv, .inr (12, MF 13 (tw V1))), (V1.au, .inl (cC, V1.U, .inl V1.un))]) [0, 1, 2, 3, 4, 5] rfl
      have hD := hD.sub (ws' := [(mo, .inr (13, MF 30 (rf (rs v Q2 o) j_V1 b_V1))), (qx, .inl (cB, NN, .inl f)), (Q2.qq, .inl (cI, (8 * Q2.C), .inl Q2.qf)), (Q2.qe, .inl (cL, (3 * Q2.C), .inr (.inl Q2.ef))), (tv, .inr (12, MF 13 (tw V1))), (V1.au, .inl (cC, V1.U, .inl V1.un))]) [0, 1, 2, 3, 4, 5] (by decide) rfl
      rcases hw with ⟨ho_1, ho_2, ho_3, ho_4⟩ | ⟨ho_1, ho_2, ho_3, ho_4⟩
      · have hqt_V1 : qtQ f n r1 i = some (us9, j_V1) := ho_2
        have ho_3 : j_V1 ≤ n := ho_3
        have ho_4 : us9.length + i + 2 ≤ j_V1 := ho_4
        have hTk_V1 := hX_V1.ok hTk_V (by omega)
        subst ho_1
        have hEx_Q2V1 : alr Q V Q2 V1 0 Q.R := hEx_Q2V.tr hX_V1.alr
        have hqb_Q2V1 : Q2.R ≤ Q2.C ∧ Q2.C ≤ 100000 := ⟨hQk_Q2.2.2.1, hQk_Q2.2.1⟩
        have hfit_Q2V1 := hG_Q2V1.fits
        refine lv_if_ne (tgt := 50) hx hb d_Mo_selector_45 (by decide) (fun _ => ?_) (fun h => absurd h (by decide))
        refine lv_aload_n hx hb d_Mo_selector_50 rfl (lv_at hl 2 rfl) ?_
        refine lv_iload_n hx hb d_Mo_selector_51 rfl (lv_at hl 0 rfl) ?_
        refine lv_iconst (v := 3) hx hb d_Mo_selector_52 (by decide) ?_
        refine lv_aload_n hx hb d_Mo_selector_53 rfl (lv_at hl 2 rfl) ?_
        refine va_get (D := (dC, dI)) (ci := 13) (v := .ref tv) (C := R_Mo) (T := F_Mo) (N := 30) hx hb hts in_Mo hown hK hP 0 rfl rfl 22 (by decide) (hts _ w_1111) (fun _ h9 => h9) (MFg (by decide) ((rf_ne (by decide) (by decide)).trans ((rs_ne (by decide) (by decide) (by decide) (by decide)).trans h22))) d_Mo_selector_54 ?_
        refine va_get (D := (dC, dI)) (ci := 12) (v := .int (nI V1.us)) (C := R_Tree) (T := F_Tree) (N := 13) hx hb hts in_Tree hown hK hP 4 rfl rfl 12 (by decide) (hts _ w_1058) (fun _ h9 => h9) (MFg (by decide) rfl) d_Mo_selector_57 ?_
        refine lv_aload_n hx hb d_Mo_selector_60 rfl (lv_at hl 2 rfl) ?_
        refine lv_iload_n hx hb d_Mo_selector_61 rfl (lv_at hl 0 rfl) ?_
        refine lv_iconst (v := 2) hx hb d_Mo_selector_62 (by decide) ?_
        refine W.eq (g2 := F0 m 63 ls [.int (nI 2), .int (nI Q.R), .ref mo, .int (nI V1.us), .int 3, .int (nI Q.R), .ref mo]) rfl ?_
        have hPc := hP.sub (ws' := [(mo, .inr (13, MF 30 (rf (rs v Q2 o) j_V1 b_V1))), (Q2.qq, .inl (cI, (8 * Q2.C), .inl Q2.qf))]) [0, 2] rfl
        have hDc := hD.sub (ws' := [(mo, .inr (13, MF 30 (rf (rs v Q2 o) j_V1 b_V1))), (Q2.qq, .inl (cI, (8 * Q2.C), .inl Q2.qf))]) [0, 2] (by decide) rfl
        have hKc := hK.sub (tys' := [(cI, .int)]) [1] rfl
        have hFc := va_free (wc := [(mo, .inr (13, MF 30 (rf (rs v Q2 o) j_V1 b_V1))), (Q2.qq, .inl (cI, (8 * Q2.C), .inl Q2.qf))]) hD hS hA [0, 2] rfl
        refine va_calli (va_runV (As := [.int (nI Q.R), .int (nI 2)]) (rest := [.int (nI V1.us), .int 3, .int (nI Q.R), .ref mo]) ⟨hx, hb, hml, hown, hts⟩ (c_Mo_field l dC dI mo H (rf (rs v Q2 o) j_V1 b_V1) cI Q2.qq (8 * Q2.C) Q2.qf Q.R 2 (by omega) (by omega) ((rf_ne (by decide) (by decide)).trans rs_19)) (cwV 2 hts (gt_V (own := R_Mo) (C := R_Mo) (i := 286) (y := y_Mo_field) i_Mo_field w_1431 w_1433 (gt_sel (y := y_Mo_field) (n := 30) (by decide +kernel)) w_7) rfl rfl rfl (by decide +kernel) ⟨Nat.le_trans (m := 7) (Nat.le_of_ble_eq_true rfl) (Nat.le_add_right 7 F), Nat.le_trans (m := 200) (Nat.le_of_ble_eq_true rfl) (Nat.le_add_right 200 L)⟩) ⟨mp_blind, va_recv hKc hPc (ci := 13) (q0 := 0) rfl rfl, fun U hU hW => ⟨rfl, hU, by rw [hU]; exact hPc, va_K.moved hW.alike hKc, hDc.weaken (fun _ _ _ _ => trivial)⟩⟩ rfl rfl hl.1 rfl (lv_room (Nat.le_of_ble_eq_true rfl)) d_Mo_selector_63 ⟨hfit_Q2V1.1, hfit_Q2V1.2⟩) hS (fun q _ h => hFc q h) hFc (fun r7 _u t9 H1 locs ht hvm hw hB hz1 hk1 hS => ?_)
        obtain ⟨hP1, hK1, hD1⟩ := hB
        rw [ht] at hP1
        obtain ⟨hP, hD⟩ := va_join (wr := [(qx, .inl (cB, NN, .inl f)), (Q2.qe, .inl (cL, (3 * Q2.C), .inr (.inl Q2.ef))), (tv, .inr (12, MF 13 (tw V1))), (V1.au, .inl (cC, V1.U, .inl V1.un))]) (w1 := [(mo, .inr (13, MF 30 (rf (rs v Q2 o) j_V1 b_V1))), (Q2.qq, .inl (cI, (8 * Q2.C), .inl Q2.qf))]) hP hD [0, 2] [1, 3, 4, 5] rfl rfl (by decide) (by decide) hk1 hFc hP1 hD1
        generalize H1 = H at hP hS ⊢
        have hP : va_P (dC, dI) classes [(qx, .inl (cB, NN, .inl f)), (Q2.qe, .inl (cL, (3 * Q2.C), .inr (.inl Q2.ef))), (tv, .inr (12, MF 13 (tw V1))), (V1.au, .inl (cC, V1.U, .inl V1.un)), (mo, .inr (13, MF 30 (rf (rs v Q2 o) j_V1 b_V1))), (Q2.qq, .inl (cI, (8 * Q2.C), .inl Q2.qf))] H := hP
        have hD : va_D A [(qx, .inl (cB, NN, .inl f)), (Q2.qe, .inl (cL, (3 * Q2.C), .inr (.inl Q2.ef))), (tv, .inr (12, MF 13 (tw V1))), (V1.au, .inl (cC, V1.U, .inl V1.un)), (mo, .inr (13, MF 30 (rf (rs v Q2 o) j_V1 b_V1))), (Q2.qq, .inl (cI, (8 * Q2.C), .inl Q2.qf))] := hD
        have hP := hP.sub (ws' := [(mo, .inr (13, MF 30 (rf (rs v Q2 o) j_V1 b_V1))), (qx, .inl (cB, NN, .inl f)), (Q2.qq, .inl (cI, (8 * Q2.C), .inl Q2.qf)), (Q2.qe, .inl (cL, (3 * Q2.C), .inr (.inl Q2.ef))), (tv, .inr (12, MF 13 (tw V1))), (V1.au, .inl (cC, V1.U, .inl V1.un))]) [4, 0, 5, 1, 2, 3] rfl
        have hD := hD.sub (ws' := [(mo, .inr (13, MF 30 (rf (rs v Q2 o) j_V1 b_V1))), (qx, .inl (cB, NN, .inl f)), (Q2.qq, .inl (cI, (8 * Q2.C), .inl Q2.qf)), (Q2.qe, .inl (cL, (3 * Q2.C), .inr (.inl Q2.ef))), (tv, .inr (12, MF 13 (tw V1))), (V1.au, .inl (cC, V1.U, .inl V1.un))]) [4, 0, 5, 1, 2, 3] (by decide) rfl
        have h_r7 : r7 = Q2.qf (8 * Q.R + 2) := hw
        have h7 : r7 = nI V.us := by rw [h_r7, hf_Q2.2.2]; exact pk_us
        subst h7
        refine lv_isub hx hb d_Mo_selector_66 ?_
        refine W.eq (g2 := F0 m 67 ls [.int (nI us9.length), .int 3, .int (nI Q.R), .ref mo]) (by rw [show ((nI V1.us) - (nI V.us)) = (nI us9.length) from (by rw [hXs_V1]; exact nI_asub _ _)]) ?_
        refine W.eq (g2 := F0 m 67 ls [.int (nI us9.length), .int (nI 3), .int (nI Q.R), .ref mo]) rfl ?_
        have hPc := hP.sub (ws' := [(mo, .inr (13, MF 30 (rf (rs v Q2 o) j_V1 b_V1))), (Q2.qq, .inl (cI, (8 * Q2.C), .inl Q2.qf))]) [0, 2] rfl
        have hDc := hD.sub (ws' := [(mo, .inr (13, MF 30 (rf (rs v Q2 o) j_V1 b_V1))), (Q2.qq, .inl (cI, (8 * Q2.C), .inl Q2.qf))]) [0, 2] (by decide) rfl
        have hKc := hK.sub (tys' := [(cI, .int)]) [1] rfl
        have hFc := va_free (wc := [(mo, .inr (13, MF 30 (rf (rs v Q2 o) j_V1 b_V1))), (Q2.qq, .inl (cI, (8 * Q2.C), .inl Q2.qf))]) hD hS hA [0, 2] rfl
        refine va_callv (va_runV (As := [.int (nI Q.R), .int (nI 3), .int (nI us9.length)]) (rest := []) ⟨hx, hb, hml, hown, hts⟩ (c_Mo_set l dC dI mo H (rf (rs v Q2 o) j_V1 b_V1) cI Q2.qq (8 * Q2.C) Q2.qf Q.R 3 ((nI us9.length)) (by omega) (by omega) ((rf_ne (by decide) (by decide)).trans rs_19)) (cwV 3 hts (gt_V (own := R_Mo) (C := R_Mo) (i := 272) (y := y_Mo_set) i_Mo_set w_1411 w_1413 (gt_sel (y := y_Mo_set) (n := 30) (by decide +kernel)) w_7) rfl rfl rfl (by decide +kernel) ⟨Nat.le_trans (m := 7) (Nat.le_of_ble_eq_true rfl) (Nat.le_add_right 7 F), Nat.le_trans (m := 200) (Nat.le_of_ble_eq_true rfl) (Nat.le_add_right 200 L)⟩) ⟨mp_blind, va_recv hKc hPc (ci := 13) (q0 := 0) rfl rfl, fun U hU hW => ⟨rfl, hU, by rw [hU]; exact hPc, va_K.moved hW.alike hKc, hDc.weaken (fun _ _ _ _ => trivial)⟩⟩ rfl rfl hl.1 rfl (lv_room (Nat.le_of_ble_eq_true rfl)) d_Mo_selector_67 ⟨hfit_Q2V1.1, hfit_Q2V1.2⟩) hS (fun q _ h => hFc q h) hFc (fun _u t9 H1 locs ht hvm hw hB hz1 hk1 hS => ?_)
        obtain ⟨hP1, hK1, hD1⟩ := hB
        rw [ht] at hP1
        obtain ⟨hP, hD⟩ := va_join (wr := [(qx, .inl (cB, NN, .inl f)), (Q2.qe, .inl (cL, (3 * Q2.C), .inr (.inl Q2.ef))), (tv, .inr (12, MF 13 (tw V1))), (V1.au, .inl (cC, V1.U, .inl V1.un))]) (w1 := [(mo, .inr (13, MF 30 (rf (rs v Q2 o) j_V1 b_V1))), (Q2.qq, .inl (cI, (8 * Q2.C), .inl (upd Q2.qf (8 * Q.R + 3) ((nI us9.length)))))]) hP hD [0, 2] [1, 3, 4, 5] rfl rfl (by decide) (by decide) hk1 hFc hP1 hD1
        generalize H1 = H at hP hS ⊢
        have hP : va_P (dC, dI) classes [(qx, .inl (cB, NN, .inl f)), (Q2.qe, .inl (cL, (3 * Q2.C), .inr (.inl Q2.ef))), (tv, .inr (12, MF 13 (tw V1))), (V1.au, .inl (cC, V1.U, .inl V1.un)), (mo, .inr (13, MF 30 (rf (rs v Q2 o) j_V1 b_V1))), (Q2.qq, .inl (cI, (8 * Q2.C), .inl (upd Q2.qf (8 * Q.R + 3) ((nI us9.length)))))] H := hP
        have hD : va_D A [(qx, .inl (cB, NN, .inl f)), (Q2.qe, .inl (cL, (3 * Q2.C), .inr (.inl Q2.ef))), (tv, .inr (12, MF 13 (tw V1))), (V1.au, .inl (cC, V1.U, .inl V1.un)), (mo, .inr (13, MF 30 (rf (rs v Q2 o) j_V1 b_V1))), (Q2.qq, .inl (cI, (8 * Q2.C), .inl (upd Q2.qf (8 * Q.R + 3) ((nI us9.length)))))] := hD
        have hP := hP.sub (ws' := [(mo, .inr (13, MF 30 (rf (rs v Q2 o) j_V1 b_V1))), (qx, .inl (cB, NN, .inl f)), (Q2.qq, .inl (cI, (8 * Q2.C), .inl (upd Q2.qf (8 * Q.R + 3) ((nI us9.length))))), (Q2.qe, .inl (cL, (3 * Q2.C), .inr (.inl Q2.ef))), (tv, .inr (12, MF 13 (tw V1))), (V1.au, .inl (cC, V1.U, .inl V1.un))]) [4, 0, 5, 1, 2, 3] rfl
        have hD := hD.sub (ws' := [(mo, .inr (13, MF 30 (rf (rs v Q2 o) j_V1 b_V1))), (qx, .inl (cB, NN, .inl f)), (Q2.qq, .inl (cI, (8 * Q2.C), .inl (upd Q2.qf (8 * Q.R + 3) ((nI us9.length))))), (Q2.qe, .inl (cL, (3 * Q2.C), .inr (.inl Q2.ef))), (tv, .inr (12, MF 13 (tw V1))), (V1.au, .inl (cC, V1.U, .inl V1.un))]) [4, 0, 5, 1, 2, 3] (by decide) rfl
        obtain ⟨Q3, e_Q3⟩ : ∃ z : QS, z = QS.wf Q2 (upd Q2.qf (8 * Q.R + 3) ((nI us9.length))) := ⟨_, rfl⟩
        have hP : va_P (dC, dI) classes [(mo, .inr (13, MF 30 (rf (rs v Q3 o) j_V1 b_V1))), (qx, .inl (cB, NN, .inl f)), (Q3.qq, .inl (cI, (8 * Q3.C), .inl Q3.qf)), (Q3.qe, .inl (cL, (3 * Q3.C), .inr (.inl Q3.ef))), (tv, .inr (12, MF 13 (tw V1))), (V1.au, .inl (cC, V1.U, .inl V1.un))] H := by subst e_Q3; exact hP
        have hD : va_D A [(mo, .inr (13, MF 30 (rf (rs v Q3 o) j_V1 b_V1))), (qx, .inl (cB, NN, .inl f)), (Q3.qq, .inl (cI, (8 * Q3.C), .inl Q3.qf)), (Q3.qe, .inl (cL, (3 * Q3.C), .inr (.inl Q3.ef))), (tv, .inr (12, MF 13 (tw V1))), (V1.au, .inl (cC, V1.U, .inl V1.un))] := by subst e_Q3; exact hD
        have hf_Q3 : Q3.C = Q2.C ∧ Q3.R = Q2.R ∧ Q3.qf = upd Q2.qf (8 * Q.R + 3) ((nI us9.length)) := by rw [e_Q3]; exact ⟨rfl, rfl, rfl⟩
        have he_Q3 : Q3.ef = Q2.ef := by rw [e_Q3]; rfl
        have hQk_Q3 : QOK Q3 := by rw [e_Q3]; exact hQk_Q2
        have hG_Q3V1 : GQ (Q.R + 8 * (n - i) + 4) (V.us + (n + 12 - i)) Q V Q3 V1 := by unfold GQ at hG_Q2V1 ⊢; rw [hf_Q3.1]; exact hG_Q2V1
        refine w_same (fun hq => ?_)
        refine w_tight (k := cQ Q V Q3 V1) (n := sQ Q V Q3 V1) (by unfold cQ sQ at hq ⊢; rw [hf_Q3.1]; exact hq) ?_
        have hR_Q3 := hf_Q3.2.1
        have hqb_Q3V1 : Q3.R ≤ Q3.C ∧ Q3.C ≤ 100000 := ⟨hQk_Q3.2.2.1, hQk_Q3.2.1⟩
        have hfit_Q3V1 := hG_Q3V1.fits
        have hk0_Q3 : Q3.qf (8 * Q.R + 0) = 1 := by rw [hf_Q3.2.2, pk_un (by omega)]; exact hk0_Q2
        have hl1_Q3 : Q3.qf (8 * Q.R + 1) = -1 := by rw [hf_Q3.2.2, pk_un (by omega)]; exact hl1_Q2
        have hEx_Q3V1 : alr Q V Q3 V1 0 Q.R := hEx_Q2V1.tr (alr.upd hf_Q3.2.2 he_Q3 (by decide) (by omega))
        refine lv_iload_n hx hb d_Mo_selector_70 rfl (lv_at hl 0 rfl) ?_
        have hfin : selP f n (orL f n) true i = some (j_V1, true, namS us9) := by
          unfold selP
          rw [if_pos (Or.inl (h_r1.symm.trans c8))]
          rw [← h_r1, hqt_V1]; rfl
        have hu9 := qtQ_uok (Or.inl c8) hqt_V1
        have hNM : NMq Q3 V1 Q.R us9 := ⟨V.us, us9.length, by rw [hf_Q3.2.2, pk_un (by omega), hf_Q2.2.2]; exact pk_us, by rw [hf_Q3.2.2]; exact pk_us, by omega, by rw [hX_V1.un.2]; exact hu9.2⟩
        have hSE : SELp O Q3 V1 Q.R Q3.R Q.R (namS us9) := ⟨Nat.le_refl _, by omega, Or.inl ⟨hk0_Q3, us9, hNM, rfl⟩⟩
        refine w_same (fun hq => ?_)
        refine W.widen (k := kcap Q (Q.R + 8 * (n - i) + 4) + qcap V (V.us + (n + 12 - i))) (n := 22 * kcap Q (Q.R + 8 * (n - i) + 4) + 2 * qcap V (V.us + (n + 12 - i))) hfit_Q3V1.1 hfit_Q3V1.2 ?_
        have hPo : QPo n i 4 Q V (Q3, V1, j_V1, b_V1, o) := ⟨hQk_Q3, hG_Q3V1, ⟨us9, hX_V1, by omega⟩, by show Q.R ≤ Q3.R; omega, by show Q3.R ≤ Q.R + 8 * (n - i) + 4; omega⟩
        exact W.iret (v := nI Q.R) hx hb hr (fun t9 ht hW => ⟨⟨nI Q.R, (Q3, V1, j_V1, b_V1, o), rfl, ⟨hPo, Or.inl ⟨true, namS us9, rfl, hfin, hSE, ⟨fun _ => by rw [hk0_Q3]; decide, fun _ => rfl⟩, hl1_Q3, hEx_Q3V1, by show Q3.R + 8 * i + 7 ≤ Q.R + 8 * j_V1; omega, by show V1.us + i ≤ V.us + j_V1; omega, by show j_V1 ≤ n; omega, by show Q.R < Q3.R; omega, rfl⟩⟩, ⟨by rw [ht]; exact hP, va_K.moved hW.alike hK, hD⟩, by rw [ht]; exact hq⟩, hS.F ht⟩) hS.2.2 d_Mo_selector_71
      · have hqt_V1 : qtQ f n r1 i = none := ho_2
        clear ho_3 ho_4
        have hTk_V1 := hX_V1.ok hTk_V (by omega)
        subst ho_1
        have hEx_Q2V1 : alr Q V Q2 V1 0 Q.R := hEx_Q2V.tr hX_V1.alr
        have hqb_Q2V1 : Q2.R ≤ Q2.C ∧ Q2.C ≤ 100000 := ⟨hQk_Q2.2.2.1, hQk_Q2.2.1⟩
        have hfit_Q2V1 := hG_Q2V1.fits
        refine lv_if_ne (tgt := 50) hx hb d_Mo_selector_45 (by decide) (fun h => absurd h (by decide)) (fun _ => ?_)
        refine lv_iconst (v := (-1)) hx hb d_Mo_selector_48 (by decide) ?_
        have hfin : selP f n (orL f n) true i = none := by
          unfold selP
          rw [if_pos (Or.inl (h_r1.symm.trans c8))]
          rw [← h_r1, hqt_V1]; rfl
        refine w_same (fun hq => ?_)
        refine W.widen (k := kcap Q (Q.R + 8 * (n - i) + 4) + qcap V (V.us + (n + 12 - i))) (n := 22 * kcap Q (Q.R + 8 * (n - i) + 4) + 2 * qcap V (V.us + (n + 12 - i))) hfit_Q2V1.1 hfit_Q2V1.2 ?_
        have hPo : QPo n i 4 Q V (Q2, V1, j_V1, b_V1, o) := ⟨hQk_Q2, hG_Q2V1, ⟨us9, hX_V1, by omega⟩, by show Q.R ≤ Q2.R; omega, by show Q2.R ≤ Q.R + 8 * (n - i) + 4; omega⟩
        exact W.iret (v := -1) hx hb hr (fun t9 ht hW => ⟨⟨-1, (Q2, V1, j_V1, b_V1, o), rfl, ⟨hPo, Or.inr ⟨rfl, hfin⟩⟩, ⟨by rw [ht]; exact hP, va_K.moved hW.alike hK, hD⟩, by rw [ht]; exact hq⟩, hS.F ht⟩) hS.2.2 d_Mo_selector_49
    · refine lv_iload_n hx hb d_Mo_selector_11 rfl (lv_at hl 0 rfl) ?_
      refine lv_bipush (v := 34) hx hb d_Mo_selector_12 (by decide) ?_
      refine lv_icmp_ne (tgt := 72) hx hb d_Mo_selector_14 (by decide) (fun c14 => ?_) (fun c14 => ?_)
      · refine lv_iload_n hx hb d_Mo_selector_72 rfl (lv_at hl 0 rfl) ?_
        refine lv_bipush (v := 42) hx hb d_Mo_selector_73 (by decide) ?_
        refine lv_icmp_ne (tgt := 98) hx hb d_Mo_selector_75 (by decide) (fun c75 => ?_) (fun c75 => ?_)
        · refine lv_iload_n hx hb d_Mo_selector_98 rfl (lv_at hl 0 rfl) ?_
          refine lv_bipush (v := 63) hx hb d_Mo_selector_99 (by decide) ?_
          refine lv_icmp_ne (tgt := 151) hx hb d_Mo_selector_101 (by decide) (fun c101 => ?_) (fun c101 => ?_)
          · refine lv_iload_n hx hb d_Mo_selector_151 rfl (lv_at hl 0 rfl) ?_
            refine lv_bipush (v := 45) hx hb d_Mo_selector_152 (by decide) ?_
            refine lv_icmp_eq (tgt := 185) hx hb d_Mo_selector_154 (by decide) (fun c154 => ?_) (fun c154 => ?_)
            · have hselT : selP f n (orL f n) true i = selT f n true i := by unfold selP; rw [if_neg (fun h => by rw [← h_r1] at h; exact h.elim c8 c14), if_neg (fun h => c75 (h_r1.trans h.1)), if_neg (fun h => c101 (h_r1.trans h.1)), if_neg (fun h => h.1 (h_r1.symm.trans c154))]; rfl
              exact jn185 () _ _ _ ⟨hselT, Or.inl c154⟩ hP hD hS (lv_sub hl [1, 2, 0] rfl)
            · refine lv_iload_n hx hb d_Mo_selector_157 rfl (lv_at hl 0 rfl) ?_
              have hPc := hP.sub (ws' := []) [] rfl
              have hDc := hD.sub (ws' := []) [] (by decide) rfl
              have hKc := hK.sub (tys' := []) [] rfl
              have hFc := va_free (wc := []) hD hS hA [] rfl
              refine va_calli (va_runS (As := [.int r1]) (rest := []) ⟨hx, hb, hml, hown, hts⟩ (c_Mo_digit l dC dI H r1) (va_cwS 1 hts (gt_S (own := R_Mo) (i := 166) (y := y_Mo_digit) i_Mo_digit w_1332 w_1333 w_7) rfl rfl rfl (by decide +kernel) ⟨Nat.le_trans (m := 7) (Nat.le_of_ble_eq_true rfl) (Nat.le_add_right 7 F), Nat.le_trans (m := 200) (Nat.le_of_ble_eq_true rfl) (Nat.le_add_right 200 L)⟩) ⟨mp_blind, fun U hU hW => ⟨rfl, hU, by rw [hU]; exact hPc, va_K.moved hW.alike hKc, hDc.weaken (fun _ _ _ _ => trivial)⟩⟩ rfl rfl hl.1 rfl (lv_room (Nat.le_of_ble_eq_true rfl)) d_Mo_selector_158 ⟨hfit_QV.1, hfit_QV.2⟩) hS (fun q _ h => hFc q h) hFc (fun d1 _u t9 H1 locs ht hvm hw hB hz1 hk1 hS => ?_)
              obtain ⟨hP1, hK1, hD1⟩ := hB
              rw [ht] at hP1
              obtain ⟨hP, hD⟩ := va_join (wr := [(mo, .inr (13, MF 30 (rf (rs v Q o) i br))), (qx, .inl (cB, NN, .inl f)), (Q.qq, .inl (cI, (8 * Q.C), .inl Q.qf)), (Q.qe, .inl (cL, (3 * Q.C), .inr (.inl Q.ef))), (tv, .inr (12, MF 13 (tw V))), (V.au, .inl (cC, V.U, .inl V.un))]) (w1 := []) hP hD [] [0, 1, 2, 3, 4, 5] rfl rfl (by decide) (by decide) hk1 hFc hP1 hD1
              generalize H1 = H at hP hS ⊢
              have hP : va_P (dC, dI) classes [(mo, .inr (13, MF 30 (rf (rs v Q o) i br))), (qx, .inl (cB, NN, .inl f)), (Q.qq, .inl (cI, (8 * Q.C), .inl Q.qf)), (Q.qe, .inl (cL, (3 * Q.C), .inr (.inl Q.ef))), (tv, .inr (12, MF 13 (tw V))), (V.au, .inl (cC, V.U, .inl V.un))] H := hP
              have hD : va_D A [(mo, .inr (13, MF 30 (rf (rs v Q o) i br))), (qx, .inl (cB, NN, .inl f)), (Q.qq, .inl (cI, (8 * Q.C), .inl Q.qf)), (Q.qe, .inl (cL, (3 * Q.C), .inr (.inl Q.ef))), (tv, .inr (12, MF 13 (tw V))), (V.au, .inl (cC, V.U, .inl V.un))] := hD
              have h_d1 := dg_01 hw
              refine lv_if_ne (tgt := 185) hx hb d_Mo_selector_161 (by decide) (fun c161 => ?_) (fun c161 => ?_)
              · have hselT : selP f n (orL f n) true i = selT f n true i := by unfold selP; rw [if_neg (fun h => by rw [← h_r1] at h; exact h.elim c8 c14), if_neg (fun h => c75 (h_r1.trans h.1)), if_neg (fun h => c101 (h_r1.trans h.1)), if_neg (fun h => h.2.1 (by rw [← h_r1]; exact h_d1.1 c161))]; rfl
                exact jn185 () _ _ _ ⟨hselT, Or.inr (Or.inl (h_d1.1 c161))⟩ hP hD hS (lv_sub hl [1, 2, 0] rfl)
              · refine lv_iload_n hx hb d_Mo_selector_164 rfl (lv_at hl 0 rfl) ?_
                refine lv_bipush (v := 58) hx hb d_Mo_selector_165 (by decide) ?_
                refine lv_icmp_ne (tgt := 174) hx hb d_Mo_selector_167 (by decide) (fun c167 => ?_) (fun c167 => ?_)
                · refine lv_aload_n hx hb d_Mo_selector_174 rfl (lv_at hl 1 rfl) ?_
                  refine lv_aload_n hx hb d_Mo_selector_175 rfl (lv_at hl 1 rfl) ?_
                  refine va_get (D := (dC, dI)) (ci := 13) (v := .int (nI i)) (C := R_Mo) (T := F_Mo) (N := 30) hx hb hts in_Mo hown hK hP 0 rfl rfl 7 (by decide) (hts _ w_1096) (fun _ h9 => h9) (MFg (by decide) rf_7) d_Mo_selector_176 ?_
                  have hPc := hP.sub (ws' := [(mo, .inr (13, MF 30 (rf (rs v Q o) i br)))]) [0] rfl
                  have hDc := hD.sub (ws' := [(mo, .inr (13, MF 30 (rf (rs v Q o) i br)))]) [0] (by decide) rfl
                  have hKc := hK.sub (tys' := []) [] rfl
                  have hFc := va_free (wc := [(mo, .inr (13, MF 30 (rf (rs v Q o) i br)))]) hD hS hA [0] rfl
                  refine va_calli (va_runV (As := [.int (nI i)]) (rest := []) ⟨hx, hb, hml, hown, hts⟩ (c_Mo_fail l dC dI mo H (rf (rs v Q o) i br) br ((nI i)) rf_9) (cwV 1 hts (gt_V (own := R_Mo) (C := R_Mo) (i := 151) (y := y_Mo_fail) i_Mo_fail w_1250 w_1252 (gt_sel (y := y_Mo_fail) (n := 30) (by decide +kernel)) w_7) rfl rfl rfl (by decide +kernel) ⟨Nat.le_trans (m := 7) (Nat.le_of_ble_eq_true rfl) (Nat.le_add_right 7 F), Nat.le_trans (m := 200) (Nat.le_of_ble_eq_true rfl) (Nat.le_add_right 200 L)⟩) ⟨mp_blind, va_recv hKc hPc (ci := 13) (q0 := 0) rfl rfl, fun U hU hW => ⟨rfl, hU, by rw [hU]; exact hPc, va_K.moved hW.alike hKc, hDc.weaken (fun _ _ _ _ => trivial)⟩⟩ rfl rfl hl.1 rfl (lv_room (Nat.le_of_ble_eq_true rfl)) d_Mo_selector_179 ⟨hfit_QV.1, hfit_QV.2⟩) hS (fun q _ h => hFc q h) hFc (fun r0 u2 t9 H1 locs ht hvm hw hB hz1 hk1 hS => ?_)
                  obtain ⟨hP1, hK1, hD1⟩ := hB
                  rw [ht] at hP1
                  obtain ⟨hP, hD⟩ := va_join (wr := [(qx, .inl (cB, NN, .inl f)), (Q.qq, .inl (cI, (8 * Q.C), .inl Q.qf)), (Q.qe, .inl (cL, (3 * Q.C), .inr (.inl Q.ef))), (tv, .inr (12, MF 13 (tw V))), (V.au, .inl (cC, V.U, .inl V.un))]) (w1 := [(mo, .inr (13, MF 30 u2))]) hP hD [0] [1, 2, 3, 4, 5] rfl rfl (by decide) (by decide) hk1 hFc hP1 hD1
                  generalize H1 = H at hP hS ⊢
                  have hP : va_P (dC, dI) classes [(qx, .inl (cB, NN, .inl f)), (Q.qq, .inl (cI, (8 * Q.C), .inl Q.qf)), (Q.qe, .inl (cL, (3 * Q.C), .inr (.inl Q.ef))), (tv, .inr (12, MF 13 (tw V))), (V.au, .inl (cC, V.U, .inl V.un)), (mo, .inr (13, MF 30 u2))] H := hP
                  have hD : va_D A [(qx, .inl (cB, NN, .inl f)), (Q.qq, .inl (cI, (8 * Q.C), .inl Q.qf)), (Q.qe, .inl (cL, (3 * Q.C), .inr (.inl Q.ef))), (tv, .inr (12, MF 13 (tw V))), (V.au, .inl (cC, V.U, .inl V.un)), (mo, .inr (13, MF 30 u2))] := hD
                  have hP := hP.sub (ws' := [(mo, .inr (13, MF 30 u2)), (qx, .inl (cB, NN, .inl f)), (Q.qq, .inl (cI, (8 * Q.C), .inl Q.qf)), (Q.qe, .inl (cL, (3 * Q.C), .inr (.inl Q.ef))), (tv, .inr (12, MF 13 (tw V))), (V.au, .inl (cC, V.U, .inl V.un))]) [5, 0, 1, 2, 3, 4] rfl
                  have hD := hD.sub (ws' := [(mo, .inr (13, MF 30 u2)), (qx, .inl (cB, NN, .inl f)), (Q.qq, .inl (cI, (8 * Q.C), .inl Q.qf)), (Q.qe, .inl (cL, (3 * Q.C), .inr (.inl Q.ef))), (tv, .inr (12, MF 13 (tw V))), (V.au, .inl (cC, V.U, .inl V.un))]) [5, 0, 1, 2, 3, 4] (by decide) rfl
                  obtain ⟨b7, h_b7⟩ := rf_fail (v := (rs v Q o)) (i := i) (br := br) (b2 := br) (wh := (nI i))
                  have hw : r0 = 0 ∧ u2 = _ := hw
                  obtain ⟨hw1, hw2⟩ := hw
                  rw [h_b7] at hw2
                  rw [hw2] at hP hD
                  subst hw1
                  have hP : va_P (dC, dI) classes [(mo, .inr (13, MF 30 (rf (rs v Q o) i b7))), (qx, .inl (cB, NN, .inl f)), (Q.qq, .inl (cI, (8 * Q.C), .inl Q.qf)), (Q.qe, .inl (cL, (3 * Q.C), .inr (.inl Q.ef))), (tv, .inr (12, MF 13 (tw V))), (V.au, .inl (cC, V.U, .inl V.un))] H := hP
                  have hD : va_D A [(mo, .inr (13, MF 30 (rf (rs v Q o) i b7))), (qx, .inl (cB, NN, .inl f)), (Q.qq, .inl (cI, (8 * Q.C), .inl Q.qf)), (Q.qe, .inl (cL, (3 * Q.C), .inr (.inl Q.ef))), (tv, .inr (12, MF 13 (tw V))), (V.au, .inl (cC, V.U, .inl V.un))] := hD
                  refine lv_pop hx hb d_Mo_selector_182 rfl ?_
                  refine lv_iconst (v := (-1)) hx hb d_Mo_selector_183 (by decide) ?_
                  have hfin : selP f n (orL f n) true i = none := by
                    unfold selP
                    rw [if_neg (fun h => by rw [← h_r1] at h; exact h.elim c8 c14), if_neg (fun h => c75 (h_r1.trans h.1)), if_neg (fun h => c101 (h_r1.trans h.1)), if_pos ⟨fun h => c154 (h_r1.trans h), (by rw [← h_r1]; exact h_d1.2 c161), Or.inl (fun h => c167 (h_r1.trans h))⟩]
                  refine w_same (fun hq => ?_)
                  refine W.widen (k := kcap Q (Q.R + 8 * (n - i) + 4) + qcap V (V.us + (n + 12 - i))) (n := 22 * kcap Q (Q.R + 8 * (n - i) + 4) + 2 * qcap V (V.us + (n + 12 - i))) hfit_QV.1 hfit_QV.2 ?_
                  have hPo : QPo n i 4 Q V (Q, V, i, b7, o) := ⟨hQk_Q, hG_QV, ⟨[], TX.rf hTk_V, Nat.zero_le _⟩, by show Q.R ≤ Q.R; omega, by show Q.R ≤ Q.R + 8 * (n - i) + 4; omega⟩
                  exact W.iret (v := -1) hx hb hr (fun t9 ht hW => ⟨⟨-1, (Q, V, i, b7, o), rfl, ⟨hPo, Or.inr ⟨rfl, hfin⟩⟩, ⟨by rw [ht]; exact hP, va_K.moved hW.alike hK, hD⟩, by rw [ht]; exact hq⟩, hS.F ht⟩) hS.2.2 d_Mo_selector_184
                · refine lv_iload_n hx hb d_Mo_selector_170 rfl (lv_at hl 2 rfl) ?_
                  refine lv_if_eq (tgt := 185) hx hb d_Mo_selector_171 (by decide) (fun h => absurd h (by decide)) (fun _ => ?_)
                  refine lv_aload_n hx hb d_Mo_selector_174 rfl (lv_at hl 1 rfl) ?_
                  refine lv_aload_n hx hb d_Mo_selector_175 rfl (lv_at hl 1 rfl) ?_
                  refine va_get (D := (dC, dI)) (ci := 13) (v := .int (nI i)) (C := R_Mo) (T := F_Mo) (N := 30) hx hb hts in_Mo hown hK hP 0 rfl rfl 7 (by decide) (hts _ w_1096) (fun _ h9 => h9) (MFg (by decide) rf_7) d_Mo_selector_176 ?_
                  have hPc := hP.sub (ws' := [(mo, .inr (13, MF 30 (rf (rs v Q o) i br)))]) [0] rfl
                  have hDc := hD.sub (ws' := [(mo, .inr (13, MF 30 (rf (rs v Q o) i br)))]) [0] (by decide) rfl
                  have hKc := hK.sub (tys' := []) [] rfl
                  have hFc := va_free (wc := [(mo, .inr (13, MF 30 (rf (rs v Q o) i br)))]) hD hS hA [0] rfl
                  refine va_calli (va_runV (As := [.int (nI i)]) (rest := []) ⟨hx, hb, hml, hown, hts⟩ (c_Mo_fail l dC dI mo H (rf (rs v Q o) i br) br ((nI i)) rf_9) (cwV 1 hts (gt_V (own := R_Mo) (C := R_Mo) (i := 151) (y := y_Mo_fail) i_Mo_fail w_1250 w_1252 (gt_sel (y := y_Mo_fail) (n := 30) (by decide +kernel)) w_7) rfl rfl rfl (by decide +kernel) ⟨Nat.le_trans (m := 7) (Nat.le_of_ble_eq_true rfl) (Nat.le_add_right 7 F), Nat.le_trans (m := 200) (Nat.le_of_ble_eq_true rfl) (Nat.le_add_right 200 L)⟩) ⟨mp_blind, va_recv hKc hPc (ci := 13) (q0 := 0) rfl rfl, fun U hU hW => ⟨rfl, hU, by rw [hU]; exact hPc, va_K.moved hW.alike hKc, hDc.weaken (fun _ _ _ _ => trivial)⟩⟩ rfl rfl hl.1 rfl (lv_room (Nat.le_of_ble_eq_true rfl)) d_Mo_selector_179 ⟨hfit_QV.1, hfit_QV.2⟩) hS (fun q _ h => hFc q h) hFc (fun r0 u2 t9 H1 locs ht hvm hw hB hz1 hk1 hS => ?_)
                  obtain ⟨hP1, hK1, hD1⟩ := hB
                  rw [ht] at hP1
                  obtain ⟨hP, hD⟩ := va_join (wr := [(qx, .inl (cB, NN, .inl f)), (Q.qq, .inl (cI, (8 * Q.C), .inl Q.qf)), (Q.qe, .inl (cL, (3 * Q.C), .inr (.inl Q.ef))), (tv, .inr (12, MF 13 (tw V))), (V.au, .inl (cC, V.U, .inl V.un))]) (w1 := [(mo, .inr (13, MF 30 u2))]) hP hD [0] [1, 2, 3, 4, 5] rfl rfl (by decide) (by decide) hk1 hFc hP1 hD1
                  generalize H1 = H at hP hS ⊢
                  have hP : va_P (dC, dI) classes [(qx, .inl (cB, NN, .inl f)), (Q.qq, .inl (cI, (8 * Q.C), .inl Q.qf)), (Q.qe, .inl (cL, (3 * Q.C), .inr (.inl Q.ef))), (tv, .inr (12, MF 13 (tw V))), (V.au, .inl (cC, V.U, .inl V.un)), (mo, .inr (13, MF 30 u2))] H := hP
                  have hD : va_D A [(qx, .inl (cB, NN, .inl f)), (Q.qq, .inl (cI, (8 * Q.C), .inl Q.qf)), (Q.qe, .inl (cL, (3 * Q.C), .inr (.inl Q.ef))), (tv, .inr (12, MF 13 (tw V))), (V.au, .inl (cC, V.U, .inl V.un)), (mo, .inr (13, MF 30 u2))] := hD
                  have hP := hP.sub (ws' := [(mo, .inr (13, MF 30 u2)), (qx, .inl (cB, NN, .inl f)), (Q.qq, .inl (cI, (8 * Q.C), .inl Q.qf)), (Q.qe, .inl (cL, (3 * Q.C), .inr (.inl Q.ef))), (tv, .inr (12, MF 13 (tw V))), (V.au, .inl (cC, V.U, .inl V.un))]) [5, 0, 1, 2, 3, 4] rfl
                  have hD := hD.sub (ws' := [(mo, .inr (13, MF 30 u2)), (qx, .inl (cB, NN, .inl f)), (Q.qq, .inl (cI, (8 * Q.C), .inl Q.qf)), (Q.qe, .inl (cL, (3 * Q.C), .inr (.inl Q.ef))), (tv, .inr (12, MF 13 (tw V))), (V.au, .inl (cC, V.U, .inl V.un))]) [5, 0, 1, 2, 3, 4] (by decide) rfl
                  obtain ⟨b7, h_b7⟩ := rf_fail (v := (rs v Q o)) (i := i) (br := br) (b2 := br) (wh := (nI i))
                  have hw : r0 = 0 ∧ u2 = _ := hw
                  obtain ⟨hw1, hw2⟩ := hw
                  rw [h_b7] at hw2
                  rw [hw2] at hP hD
                  subst hw1
                  have hP : va_P (dC, dI) classes [(mo, .inr (13, MF 30 (rf (rs v Q o) i b7))), (qx, .inl (cB, NN, .inl f)), (Q.qq, .inl (cI, (8 * Q.C), .inl Q.qf)), (Q.qe, .inl (cL, (3 * Q.C), .inr (.inl Q.ef))), (tv, .inr (12, MF 13 (tw V))), (V.au, .inl (cC, V.U, .inl V.un))] H := hP
                  have hD : va_D A [(mo, .inr (13, MF 30 (rf (rs v Q o) i b7))), (qx, .inl (cB, NN, .inl f)), (Q.qq, .inl (cI, (8 * Q.C), .inl Q.qf)), (Q.qe, .inl (cL, (3 * Q.C), .inr (.inl Q.ef))), (tv, .inr (12, MF 13 (tw V))), (V.au, .inl (cC, V.U, .inl V.un))] := hD
                  refine lv_pop hx hb d_Mo_selector_182 rfl ?_
                  refine lv_iconst (v := (-1)) hx hb d_Mo_selector_183 (by decide) ?_
                  have hfin : selP f n (orL f n) true i = none := by
                    unfold selP
                    rw [if_neg (fun h => by rw [← h_r1] at h; exact h.elim c8 c14), if_neg (fun h => c75 (h_r1.trans h.1)), if_neg (fun h => c101 (h_r1.trans h.1)), if_pos ⟨fun h => c154 (h_r1.trans h), (by rw [← h_r1]; exact h_d1.2 c161), Or.inr rfl⟩]
                  refine w_same (fun hq => ?_)
                  refine W.widen (k := kcap Q (Q.R + 8 * (n - i) + 4) + qcap V (V.us + (n + 12 - i))) (n := 22 * kcap Q (Q.R + 8 * (n - i) + 4) + 2 * qcap V (V.us + (n + 12 - i))) hfit_QV.1 hfit_QV.2 ?_
                  have hPo : QPo n i 4 Q V (Q, V, i, b7, o) := ⟨hQk_Q, hG_QV, ⟨[], TX.rf hTk_V, Nat.zero_le _⟩, by show Q.R ≤ Q.R; omega, by show Q.R ≤ Q.R + 8 * (n - i) + 4; omega⟩
                  exact W.iret (v := -1) hx hb hr (fun t9 ht hW => ⟨⟨-1, (Q, V, i, b7, o), rfl, ⟨hPo, Or.inr ⟨rfl, hfin⟩⟩, ⟨by rw [ht]; exact hP, va_K.moved hW.alike hK, hD⟩, by rw [ht]; exact hq⟩, hS.F ht⟩) hS.2.2 d_Mo_selector_184
          · refine lv_iload_n hx hb d_Mo_selector_104 rfl (lv_at hl 2 rfl) ?_
            refine lv_if_ne (tgt := 151) hx hb d_Mo_selector_105 (by decide) (fun _ => ?_) (fun h => absurd h (by decide))
            refine lv_iload_n hx hb d_Mo_selector_151 rfl (lv_at hl 0 rfl) ?_
            refine lv_bipush (v := 45) hx hb d_Mo_selector_152 (by decide) ?_
            refine lv_icmp_eq (tgt := 185) hx hb d_Mo_selector_154 (by decide) (fun c154 => ?_) (fun c154 => ?_)
            · have hselT : selP f n (orL f n) true i = selT f n true i := by unfold selP; rw [if_neg (fun h => by rw [← h_r1] at h; exact h.elim c8 c14), if_neg (fun h => c75 (h_r1.trans h.1)), if_neg (fun h => absurd h.2 (by decide)), if_neg (fun h => h.1 (h_r1.symm.trans c154))]; rfl
              exact jn185 () _ _ _ ⟨hselT, Or.inl c154⟩ hP hD hS (lv_sub hl [1, 2, 0] rfl)
            · refine lv_iload_n hx hb d_Mo_selector_157 rfl (lv_at hl 0 rfl) ?_
              have hPc := hP.sub (ws' := []) [] rfl
              have hDc := hD.sub (ws' := []) [] (by decide) rfl
              have hKc := hK.sub (tys' := []) [] rfl
              have hFc := va_free (wc := []) hD hS hA [] rfl
              refine va_calli (va_runS (As := [.int r1]) (rest := []) ⟨hx, hb, hml, hown, hts⟩ (c_Mo_digit l dC dI H r1) (va_cwS 1 hts (gt_S (own := R_Mo) (i := 166) (y := y_Mo_digit) i_Mo_digit w_1332 w_1333 w_7) rfl rfl rfl (by decide +kernel) ⟨Nat.le_trans (m := 7) (Nat.le_of_ble_eq_true rfl) (Nat.le_add_right 7 F), Nat.le_trans (m := 200) (Nat.le_of_ble_eq_true rfl) (Nat.le_add_right 200 L)⟩) ⟨mp_blind, fun U hU hW => ⟨rfl, hU, by rw [hU]; exact hPc, va_K.moved hW.alike hKc, hDc.weaken (fun _ _ _ _ => trivial)⟩⟩ rfl rfl hl.1 rfl (lv_room (Nat.le_of_ble_eq_true rfl)) d_Mo_selector_158 ⟨hfit_QV.1, hfit_QV.2⟩) hS (fun q _ h => hFc q h) hFc (fun d1 _u t9 H1 locs ht hvm hw hB hz1 hk1 hS => ?_)
              obtain ⟨hP1, hK1, hD1⟩ := hB
              rw [ht] at hP1
              obtain ⟨hP, hD⟩ := va_join (wr := [(mo, .inr (13, MF 30 (rf (rs v Q o) i br))), (qx, .inl (cB, NN, .inl f)), (Q.qq, .inl (cI, (8 * Q.C), .inl Q.qf)), (Q.qe, .inl (cL, (3 * Q.C), .inr (.inl Q.ef))), (tv, .inr (12, MF 13 (tw V))), (V.au, .inl (cC, V.U, .inl V.un))]) (w1 := []) hP hD [] [0, 1, 2, 3, 4, 5] rfl rfl (by decide) (by decide) hk1 hFc hP1 hD1
              generalize H1 = H at hP hS ⊢
              have hP : va_P (dC, dI) classes [(mo, .inr (13, MF 30 (rf (rs v Q o) i br))), (qx, .inl (cB, NN, .inl f)), (Q.qq, .inl (cI, (8 * Q.C), .inl Q.qf)), (Q.qe, .inl (cL, (3 * Q.C), .inr (.inl Q.ef))), (tv, .inr (12, MF 13 (tw V))), (V.au, .inl (cC, V.U, .inl V.un))] H := hP
              have hD : va_D A [(mo, .inr (13, MF 30 (rf (rs v Q o) i br))), (qx, .inl (cB, NN, .inl f)), (Q.qq, .inl (cI, (8 * Q.C), .inl Q.qf)), (Q.qe, .inl (cL, (3 * Q.C), .inr (.inl Q.ef))), (tv, .inr (12, MF 13 (tw V))), (V.au, .inl (cC, V.U, .inl V.un))] := hD
              have h_d1 := dg_01 hw
              refine lv_if_ne (tgt := 185) hx hb d_Mo_selector_161 (by decide) (fun c161 => ?_) (fun c161 => ?_)
              · have hselT : selP f n (orL f n) true i = selT f n true i := by unfold selP; rw [if_neg (fun h => by rw [← h_r1] at h; exact h.elim c8 c14), if_neg (fun h => c75 (h_r1.trans h.1)), if_neg (fun h => absurd h.2 (by decide)), if_neg (fun h => h.2.1 (by rw [← h_r1]; exact h_d1.1 c161))]; rfl
                exact jn185 () _ _ _ ⟨hselT, Or.inr (Or.inl (h_d1.1 c161))⟩ hP hD hS (lv_sub hl [1, 2, 0] rfl)
              · refine lv_iload_n hx hb d_Mo_selector_164 rfl (lv_at hl 0 rfl) ?_
                refine lv_bipush (v := 58) hx hb d_Mo_selector_165 (by decide) ?_
                refine lv_icmp_ne (tgt := 174) hx hb d_Mo_selector_167 (by decide) (fun c167 => ?_) (fun c167 => ?_)
                · refine lv_aload_n hx hb d_Mo_selector_174 rfl (lv_at hl 1 rfl) ?_
                  refine lv_aload_n hx hb d_Mo_selector_175 rfl (lv_at hl 1 rfl) ?_
                  refine va_get (D := (dC, dI)) (ci := 13) (v := .int (nI i)) (C := R_Mo) (T := F_Mo) (N := 30) hx hb hts in_Mo hown hK hP 0 rfl rfl 7 (by decide) (hts _ w_1096) (fun _ h9 => h9) (MFg (by decide) rf_7) d_Mo_selector_176 ?_
                  have hPc := hP.sub (ws' := [(mo, .inr (13, MF 30 (rf (rs v Q o) i br)))]) [0] rfl
                  have hDc := hD.sub (ws' := [(mo, .inr (13, MF 30 (rf (rs v Q o) i br)))]) [0] (by decide) rfl
                  have hKc := hK.sub (tys' := []) [] rfl
                  have hFc := va_free (wc := [(mo, .inr (13, MF 30 (rf (rs v Q o) i br)))]) hD hS hA [0] rfl
                  refine va_calli (va_runV (As := [.int (nI i)]) (rest := []) ⟨hx, hb, hml, hown, hts⟩ (c_Mo_fail l dC dI mo H (rf (rs v Q o) i br) br ((nI i)) rf_9) (cwV 1 hts (gt_V (own := R_Mo) (C := R_Mo) (i := 151) (y := y_Mo_fail) i_Mo_fail w_1250 w_1252 (gt_sel (y := y_Mo_fail) (n := 30) (by decide +kernel)) w_7) rfl rfl rfl (by decide +kernel) ⟨Nat.le_trans (m := 7) (Nat.le_of_ble_eq_true rfl) (Nat.le_add_right 7 F), Nat.le_trans (m := 200) (Nat.le_of_ble_eq_true rfl) (Nat.le_add_right 200 L)⟩) ⟨mp_blind, va_recv hKc hPc (ci := 13) (q0 := 0) rfl rfl, fun U hU hW => ⟨rfl, hU, by rw [hU]; exact hPc, va_K.moved hW.alike hKc, hDc.weaken (fun _ _ _ _ => trivial)⟩⟩ rfl rfl hl.1 rfl (lv_room (Nat.le_of_ble_eq_true rfl)) d_Mo_selector_179 ⟨hfit_QV.1, hfit_QV.2⟩) hS (fun q _ h => hFc q h) hFc (fun r0 u2 t9 H1 locs ht hvm hw hB hz1 hk1 hS => ?_)
                  obtain ⟨hP1, hK1, hD1⟩ := hB
                  rw [ht] at hP1
                  obtain ⟨hP, hD⟩ := va_join (wr := [(qx, .inl (cB, NN, .inl f)), (Q.qq, .inl (cI, (8 * Q.C), .inl Q.qf)), (Q.qe, .inl (cL, (3 * Q.C), .inr (.inl Q.ef))), (tv, .inr (12, MF 13 (tw V))), (V.au, .inl (cC, V.U, .inl V.un))]) (w1 := [(mo, .inr (13, MF 30 u2))]) hP hD [0] [1, 2, 3, 4, 5] rfl rfl (by decide) (by decide) hk1 hFc hP1 hD1
                  generalize H1 = H at hP hS ⊢
                  have hP : va_P (dC, dI) classes [(qx, .inl (cB, NN, .inl f)), (Q.qq, .inl (cI, (8 * Q.C), .inl Q.qf)), (Q.qe, .inl (cL, (3 * Q.C), .inr (.inl Q.ef))), (tv, .inr (12, MF 13 (tw V))), (V.au, .inl (cC, V.U, .inl V.un)), (mo, .inr (13, MF 30 u2))] H := hP
                  have hD : va_D A [(qx, .inl (cB, NN, .inl f)), (Q.qq, .inl (cI, (8 * Q.C), .inl Q.qf)), (Q.qe, .inl (cL, (3 * Q.C), .inr (.inl Q.ef))), (tv, .inr (12, MF 13 (tw V))), (V.au, .inl (cC, V.U, .inl V.un)), (mo, .inr (13, MF 30 u2))] := hD
                  have hP := hP.sub (ws' := [(mo, .inr (13, MF 30 u2)), (qx, .inl (cB, NN, .inl f)), (Q.qq, .inl (cI, (8 * Q.C), .inl Q.qf)), (Q.qe, .inl (cL, (3 * Q.C), .inr (.inl Q.ef))), (tv, .inr (12, MF 13 (tw V))), (V.au, .inl (cC, V.U, .inl V.un))]) [5, 0, 1, 2, 3, 4] rfl
                  have hD := hD.sub (ws' := [(mo, .inr (13, MF 30 u2)), (qx, .inl (cB, NN, .inl f)), (Q.qq, .inl (cI, (8 * Q.C), .inl Q.qf)), (Q.qe, .inl (cL, (3 * Q.C), .inr (.inl Q.ef))), (tv, .inr (12, MF 13 (tw V))), (V.au, .inl (cC, V.U, .inl V.un))]) [5, 0, 1, 2, 3, 4] (by decide) rfl
                  obtain ⟨b7, h_b7⟩ := rf_fail (v := (rs v Q o)) (i := i) (br := br) (b2 := br) (wh := (nI i))
                  have hw : r0 = 0 ∧ u2 = _ := hw
                  obtain ⟨hw1, hw2⟩ := hw
                  rw [h_b7] at hw2
                  rw [hw2] at hP hD
                  subst hw1
                  have hP : va_P (dC, dI) classes [(mo, .inr (13, MF 30 (rf (rs v Q o) i b7))), (qx, .inl (cB, NN, .inl f)), (Q.qq, .inl (cI, (8 * Q.C), .inl Q.qf)), (Q.qe, .inl (cL, (3 * Q.C), .inr (.inl Q.ef))), (tv, .inr (12, MF 13 (tw V))), (V.au, .inl (cC, V.U, .inl V.un))] H := hP
                  have hD : va_D A [(mo, .inr (13, MF 30 (rf (rs v Q o) i b7))), (qx, .inl (cB, NN, .inl f)), (Q.qq, .inl (cI, (8 * Q.C), .inl Q.qf)), (Q.qe, .inl (cL, (3 * Q.C), .inr (.inl Q.ef))), (tv, .inr (12, MF 13 (tw V))), (V.au, .inl (cC, V.U, .inl V.un))] := hD
                  refine lv_pop hx hb d_Mo_selector_182 rfl ?_
                  refine lv_iconst (v := (-1)) hx hb d_Mo_selector_183 (by decide) ?_
                  have hfin : selP f n (orL f n) true i = none := by
                    unfold selP
                    rw [if_neg (fun h => by rw [← h_r1] at h; exact h.elim c8 c14), if_neg (fun h => c75 (h_r1.trans h.1)), if_neg (fun h => absurd h.2 (by decide)), if_pos ⟨fun h => c154 (h_r1.trans h), (by rw [← h_r1]; exact h_d1.2 c161), Or.inl (fun h => c167 (h_r1.trans h))⟩]
                  refine w_same (fun hq => ?_)
                  refine W.widen (k := kcap Q (Q.R + 8 * (n - i) + 4) + qcap V (V.us + (n + 12 - i))) (n := 22 * kcap Q (Q.R + 8 * (n - i) + 4) + 2 * qcap V (V.us + (n + 12 - i))) hfit_QV.1 hfit_QV.2 ?_
                  have hPo : QPo n i 4 Q V (Q, V, i, b7, o) := ⟨hQk_Q, hG_QV, ⟨[], TX.rf hTk_V, Nat.zero_le _⟩, by show Q.R ≤ Q.R; omega, by show Q.R ≤ Q.R + 8 * (n - i) + 4; omega⟩
                  exact W.iret (v := -1) hx hb hr (fun t9 ht hW => ⟨⟨-1, (Q, V, i, b7, o), rfl, ⟨hPo, Or.inr ⟨rfl, hfin⟩⟩, ⟨by rw [ht]; exact hP, va_K.moved hW.alike hK, hD⟩, by rw [ht]; exact hq⟩, hS.F ht⟩) hS.2.2 d_Mo_selector_184
                · refine lv_iload_n hx hb d_Mo_selector_170 rfl (lv_at hl 2 rfl) ?_
                  refine lv_if_eq (tgt := 185) hx hb d_Mo_selector_171 (by decide) (fun h => absurd h (by decide)) (fun _ => ?_)
                  refine lv_aload_n hx hb d_Mo_selector_174 rfl (lv_at hl 1 rfl) ?_
                  refine lv_aload_n hx hb d_Mo_selector_175 rfl (lv_at hl 1 rfl) ?_
                  refine va_get (D := (dC, dI)) (ci := 13) (v := .int (nI i)) (C := R_Mo) (T := F_Mo) (N := 30) hx hb hts in_Mo hown hK hP 0 rfl rfl 7 (by decide) (hts _ w_1096) (fun _ h9 => h9) (MFg (by decide) rf_7) d_Mo_selector_176 ?_
                  have hPc := hP.sub (ws' := [(mo, .inr (13, MF 30 (rf (rs v Q o) i br)))]) [0] rfl
                  have hDc := hD.sub (ws' := [(mo, .inr (13, MF 30 (rf (rs v Q o) i br)))]) [0] (by decide) rfl
                  have hKc := hK.sub (tys' := []) [] rfl
                  have hFc := va_free (wc := [(mo, .inr (13, MF 30 (rf (rs v Q o) i br)))]) hD hS hA [0] rfl
                  refine va_calli (va_runV (As := [.int (nI i)]) (rest := []) ⟨hx, hb, hml, hown, hts⟩ (c_Mo_fail l dC dI mo H (rf (rs v Q o) i br) br ((nI i)) rf_9) (cwV 1 hts (gt_V (own := R_Mo) (C := R_Mo) (i := 151) (y := y_Mo_fail) i_Mo_fail w_1250 w_1252 (gt_sel (y := y_Mo_fail) (n := 30) (by decide +kernel)) w_7) rfl rfl rfl (by decide +kernel) ⟨Nat.le_trans (m := 7) (Nat.le_of_ble_eq_true rfl) (Nat.le_add_right 7 F), Nat.le_trans (m := 200) (Nat.le_of_ble_eq_true rfl) (Nat.le_add_right 200 L)⟩) ⟨mp_blind, va_recv hKc hPc (ci := 13) (q0 := 0) rfl rfl, fun U hU hW => ⟨rfl, hU, by rw [hU]; exact hPc, va_K.moved hW.alike hKc, hDc.weaken (fun _ _ _ _ => trivial)⟩⟩ rfl rfl hl.1 rfl (lv_room (Nat.le_of_ble_eq_true rfl)) d_Mo_selector_179 ⟨hfit_QV.1, hfit_QV.2⟩) hS (fun q _ h => hFc q h) hFc (fun r0 u2 t9 H1 locs ht hvm hw hB hz1 hk1 hS => ?_)
                  obtain ⟨hP1, hK1, hD1⟩ := hB
                  rw [ht] at hP1
                  obtain ⟨hP, hD⟩ := va_join (wr := [(qx, .inl (cB, NN, .inl f)), (Q.qq, .inl (cI, (8 * Q.C), .inl Q.qf)), (Q.qe, .inl (cL, (3 * Q.C), .inr (.inl Q.ef))), (tv, .inr (12, MF 13 (tw V))), (V.au, .inl (cC, V.U, .inl V.un))]) (w1 := [(mo, .inr (13, MF 30 u2))]) hP hD [0] [1, 2, 3, 4, 5] rfl rfl (by decide) (by decide) hk1 hFc hP1 hD1
                  generalize H1 = H at hP hS ⊢
                  have hP : va_P (dC, dI) classes [(qx, .inl (cB, NN, .inl f)), (Q.qq, .inl (cI, (8 * Q.C), .inl Q.qf)), (Q.qe, .inl (cL, (3 * Q.C), .inr (.inl Q.ef))), (tv, .inr (12, MF 13 (tw V))), (V.au, .inl (cC, V.U, .inl V.un)), (mo, .inr (13, MF 30 u2))] H := hP
                  have hD : va_D A [(qx, .inl (cB, NN, .inl f)), (Q.qq, .inl (cI, (8 * Q.C), .inl Q.qf)), (Q.qe, .inl (cL, (3 * Q.C), .inr (.inl Q.ef))), (tv, .inr (12, MF 13 (tw V))), (V.au, .inl (cC, V.U, .inl V.un)), (mo, .inr (13, MF 30 u2))] := hD
                  have hP := hP.sub (ws' := [(mo, .inr (13, MF 30 u2)), (qx, .inl (cB, NN, .inl f)), (Q.qq, .inl (cI, (8 * Q.C), .inl Q.qf)), (Q.qe, .inl (cL, (3 * Q.C), .inr (.inl Q.ef))), (tv, .inr (12, MF 13 (tw V))), (V.au, .inl (cC, V.U, .inl V.un))]) [5, 0, 1, 2, 3, 4] rfl
                  have hD := hD.sub (ws' := [(mo, .inr (13, MF 30 u2)), (qx, .inl (cB, NN, .inl f)), (Q.qq, .inl (cI, (8 * Q.C), .inl Q.qf)), (Q.qe, .inl (cL, (3 * Q.C), .inr (.inl Q.ef))), (tv, .inr (12, MF 13 (tw V))), (V.au, .inl (cC, V.U, .inl V.un))]) [5, 0, 1, 2, 3, 4] (by decide) rfl
                  obtain ⟨b7, h_b7⟩ := rf_fail (v := (rs v Q o)) (i := i) (br := br) (b2 := br) (wh := (nI i))
                  have hw : r0 = 0 ∧ u2 = _ := hw
                  obtain ⟨hw1, hw2⟩ := hw
                  rw [h_b7] at hw2
                  rw [hw2] at hP hD
                  subst hw1
                  have hP : va_P (dC, dI) classes [(mo, .inr (13, MF 30 (rf (rs v Q o) i b7))), (qx, .inl (cB, NN, .inl f)), (Q.qq, .inl (cI, (8 * Q.C), .inl Q.qf)), (Q.qe, .inl (cL, (3 * Q.C), .inr (.inl Q.ef))), (tv, .inr (12, MF 13 (tw V))), (V.au, .inl (cC, V.U, .inl V.un))] H := hP
                  have hD : va_D A [(mo, .inr (13, MF 30 (rf (rs v Q o) i b7))), (qx, .inl (cB, NN, .inl f)), (Q.qq, .inl (cI, (8 * Q.C), .inl Q.qf)), (Q.qe, .inl (cL, (3 * Q.C), .inr (.inl Q.ef))), (tv, .inr (12, MF 13 (tw V))), (V.au, .inl (cC, V.U, .inl V.un))] := hD
                  refine lv_pop hx hb d_Mo_selector_182 rfl ?_
                  refine lv_iconst (v := (-1)) hx hb d_Mo_selector_183 (by decide) ?_
                  have hfin : selP f n (orL f n) true i = none := by
                    unfold selP
                    rw [if_neg (fun h => by rw [← h_r1] at h; exact h.elim c8 c14), if_neg (fun h => c75 (h_r1.trans h.1)), if_neg (fun h => absurd h.2 (by decide)), if_pos ⟨fun h => c154 (h_r1.trans h), (by rw [← h_r1]; exact h_d1.2 c161), Or.inr rfl⟩]
                  refine w_same (fun hq => ?_)
                  refine W.widen (k := kcap Q (Q.R + 8 * (n - i) + 4) + qcap V (V.us + (n + 12 - i))) (n := 22 * kcap Q (Q.R + 8 * (n - i) + 4) + 2 * qcap V (V.us + (n + 12 - i))) hfit_QV.1 hfit_QV.2 ?_
                  have hPo : QPo n i 4 Q V (Q, V, i, b7, o) := ⟨hQk_Q, hG_QV, ⟨[], TX.rf hTk_V, Nat.zero_le _⟩, by show Q.R ≤ Q.R; omega, by show Q.R ≤ Q.R + 8 * (n - i) + 4; omega⟩
                  exact W.iret (v := -1) hx hb hr (fun t9 ht hW => ⟨⟨-1, (Q, V, i, b7, o), rfl, ⟨hPo, Or.inr ⟨rfl, hfin⟩⟩, ⟨by rw [ht]; exact hP, va_K.moved hW.alike hK, hD⟩, by rw [ht]; exact hq⟩, hS.F ht⟩) hS.2.2 d_Mo_selector_184
        · refine lv_iload_n hx hb d_Mo_selector_78 rfl (lv_at hl 2 rfl) ?_
          refine lv_if_ne (tgt := 98) hx hb d_Mo_selector_79 (by decide) (fun _ => ?_) (fun h => absurd h (by decide))
          refine lv_iload_n hx hb d_Mo_selector_98 rfl (lv_at hl 0 rfl) ?_
          refine lv_bipush (v := 63) hx hb d_Mo_selector_99 (by decide) ?_
          refine lv_icmp_ne (tgt := 151) hx hb d_Mo_selector_101 (by decide) (fun c101 => ?_) (fun c101 => ?_)
          · refine lv_iload_n hx hb d_Mo_selector_151 rfl (lv_at hl 0 rfl) ?_
            refine lv_bipush (v := 45) hx hb d_Mo_selector_152 (by decide) ?_
            refine lv_icmp_eq (tgt := 185) hx hb d_Mo_selector_154 (by decide) (fun c154 => ?_) (fun c154 => ?_)
            · have hselT : selP f n (orL f n) true i = selT f n true i := by unfold selP; rw [if_neg (fun h => by rw [← h_r1] at h; exact h.elim c8 c14), if_neg (fun h => absurd h.2 (by decide)), if_neg (fun h => c101 (h_r1.trans h.1)), if_neg (fun h => h.1 (h_r1.symm.trans c154))]; rfl
              exact jn185 () _ _ _ ⟨hselT, Or.inl c154⟩ hP hD hS (lv_sub hl [1, 2, 0] rfl)
            · refine lv_iload_n hx hb d_Mo_selector_157 rfl (lv_at hl 0 rfl) ?_
              have hPc := hP.sub (ws' := []) [] rfl
              have hDc := hD.sub (ws' := []) [] (by decide) rfl
              have hKc := hK.sub (tys' := []) [] rfl
              have hFc := va_free (wc := []) hD hS hA [] rfl
              refine va_calli (va_runS (As := [.int r1]) (rest := []) ⟨hx, hb, hml, hown, hts⟩ (c_Mo_digit l dC dI H r1) (va_cwS 1 hts (gt_S (own := R_Mo) (i := 166) (y := y_Mo_digit) i_Mo_digit w_1332 w_1333 w_7) rfl rfl rfl (by decide +kernel) ⟨Nat.le_trans (m := 7) (Nat.le_of_ble_eq_true rfl) (Nat.le_add_right 7 F), Nat.le_trans (m := 200) (Nat.le_of_ble_eq_true rfl) (Nat.le_add_right 200 L)⟩) ⟨mp_blind, fun U hU hW => ⟨rfl, hU, by rw [hU]; exact hPc, va_K.moved hW.alike hKc, hDc.weaken (fun _ _ _ _ => trivial)⟩⟩ rfl rfl hl.1 rfl (lv_room (Nat.le_of_ble_eq_true rfl)) d_Mo_selector_158 ⟨hfit_QV.1, hfit_QV.2⟩) hS (fun q _ h => hFc q h) hFc (fun d1 _u t9 H1 locs ht hvm hw hB hz1 hk1 hS => ?_)
              obtain ⟨hP1, hK1, hD1⟩ := hB
              rw [ht] at hP1
              obtain ⟨hP, hD⟩ := va_join (wr := [(mo, .inr (13, MF 30 (rf (rs v Q o) i br))), (qx, .inl (cB, NN, .inl f)), (Q.qq, .inl (cI, (8 * Q.C), .inl Q.qf)), (Q.qe, .inl (cL, (3 * Q.C), .inr (.inl Q.ef))), (tv, .inr (12, MF 13 (tw V))), (V.au, .inl (cC, V.U, .inl V.un))]) (w1 := []) hP hD [] [0, 1, 2, 3, 4, 5] rfl rfl (by decide) (by decide) hk1 hFc hP1 hD1
              generalize H1 = H at hP hS ⊢
              have hP : va_P (dC, dI) classes [(mo, .inr (13, MF 30 (rf (rs v Q o) i br))), (qx, .inl (cB, NN, .inl f)), (Q.qq, .inl (cI, (8 * Q.C), .inl Q.qf)), (Q.qe, .inl (cL, (3 * Q.C), .inr (.inl Q.ef))), (tv, .inr (12, MF 13 (tw V))), (V.au, .inl (cC, V.U, .inl V.un))] H := hP
              have hD : va_D A [(mo, .inr (13, MF 30 (rf (rs v Q o) i br))), (qx, .inl (cB, NN, .inl f)), (Q.qq, .inl (cI, (8 * Q.C), .inl Q.qf)), (Q.qe, .inl (cL, (3 * Q.C), .inr (.inl Q.ef))), (tv, .inr (12, MF 13 (tw V))), (V.au, .inl (cC, V.U, .inl V.un))] := hD
              have h_d1 := dg_01 hw
              refine lv_if_ne (tgt := 185) hx hb d_Mo_selector_161 (by decide) (fun c161 => ?_) (fun c161 => ?_)
              · have hselT : selP f n (orL f n) true i = selT f n true i := by unfold selP; rw [if_neg (fun h => by rw [← h_r1] at h; exact h.elim c8 c14), if_neg (fun h => absurd h.2 (by decide)), if_neg (fun h => c101 (h_r1.trans h.1)), if_neg (fun h => h.2.1 (by rw [← h_r1]; exact h_d1.1 c161))]; rfl
                exact jn185 () _ _ _ ⟨hselT, Or.inr (Or.inl (h_d1.1 c161))⟩ hP hD hS (lv_sub hl [1, 2, 0] rfl)
              · refine lv_iload_n hx hb d_Mo_selector_164 rfl (lv_at hl 0 rfl) ?_
                refine lv_bipush (v := 58) hx hb d_Mo_selector_165 (by decide) ?_
                refine lv_icmp_ne (tgt := 174) hx hb d_Mo_selector_167 (by decide) (fun c167 => ?_) (fun c167 => ?_)
                · refine lv_aload_n hx hb d_Mo_selector_174 rfl (lv_at hl 1 rfl) ?_
                  refine lv_aload_n hx hb d_Mo_selector_175 rfl (lv_at hl 1 rfl) ?_
                  refine va_get (D := (dC, dI)) (ci := 13) (v := .int (nI i)) (C := R_Mo) (T := F_Mo) (N := 30) hx hb hts in_Mo hown hK hP 0 rfl rfl 7 (by decide) (hts _ w_1096) (fun _ h9 => h9) (MFg (by decide) rf_7) d_Mo_selector_176 ?_
                  have hPc := hP.sub (ws' := [(mo, .inr (13, MF 30 (rf (rs v Q o) i br)))]) [0] rfl
                  have hDc := hD.sub (ws' := [(mo, .inr (13, MF 30 (rf (rs v Q o) i br)))]) [0] (by decide) rfl
                  have hKc := hK.sub (tys' := []) [] rfl
                  have hFc := va_free (wc := [(mo, .inr (13, MF 30 (rf (rs v Q o) i br)))]) hD hS hA [0] rfl
                  refine va_calli (va_runV (As := [.int (nI i)]) (rest := []) ⟨hx, hb, hml, hown, hts⟩ (c_Mo_fail l dC dI mo H (rf (rs v Q o) i br) br ((nI i)) rf_9) (cwV 1 hts (gt_V (own := R_Mo) (C := R_Mo) (i := 151) (y := y_Mo_fail) i_Mo_fail w_1250 w_1252 (gt_sel (y := y_Mo_fail) (n := 30) (by decide +kernel)) w_7) rfl rfl rfl (by decide +kernel) ⟨Nat.le_trans (m := 7) (Nat.le_of_ble_eq_true rfl) (Nat.le_add_right 7 F), Nat.le_trans (m := 200) (Nat.le_of_ble_eq_true rfl) (Nat.le_add_right 200 L)⟩) ⟨mp_blind, va_recv hKc hPc (ci := 13) (q0 := 0) rfl rfl, fun U hU hW => ⟨rfl, hU, by rw [hU]; exact hPc, va_K.moved hW.alike hKc, hDc.weaken (fun _ _ _ _ => trivial)⟩⟩ rfl rfl hl.1 rfl (lv_room (Nat.le_of_ble_eq_true rfl)) d_Mo_selector_179 ⟨hfit_QV.1, hfit_QV.2⟩) hS (fun q _ h => hFc q h) hFc (fun r0 u2 t9 H1 locs ht hvm hw hB hz1 hk1 hS => ?_)
                  obtain ⟨hP1, hK1, hD1⟩ := hB
                  rw [ht] at hP1
                  obtain ⟨hP, hD⟩ := va_join (wr := [(qx, .inl (cB, NN, .inl f)), (Q.qq, .inl (cI, (8 * Q.C), .inl Q.qf)), (Q.qe, .inl (cL, (3 * Q.C), .inr (.inl Q.ef))), (tv, .inr (12, MF 13 (tw V))), (V.au, .inl (cC, V.U, .inl V.un))]) (w1 := [(mo, .inr (13, MF 30 u2))]) hP hD [0] [1, 2, 3, 4, 5] rfl rfl (by decide) (by decide) hk1 hFc hP1 hD1
                  generalize H1 = H at hP hS ⊢
                  have hP : va_P (dC, dI) classes [(qx, .inl (cB, NN, .inl f)), (Q.qq, .inl (cI, (8 * Q.C), .inl Q.qf)), (Q.qe, .inl (cL, (3 * Q.C), .inr (.inl Q.ef))), (tv, .inr (12, MF 13 (tw V))), (V.au, .inl (cC, V.U, .inl V.un)), (mo, .inr (13, MF 30 u2))] H := hP
                  have hD : va_D A [(qx, .inl (cB, NN, .inl f)), (Q.qq, .inl (cI, (8 * Q.C), .inl Q.qf)), (Q.qe, .inl (cL, (3 * Q.C), .inr (.inl Q.ef))), (tv, .inr (12, MF 13 (tw V))), (V.au, .inl (cC, V.U, .inl V.un)), (mo, .inr (13, MF 30 u2))] := hD
                  have hP := hP.sub (ws' := [(mo, .inr (13, MF 30 u2)), (qx, .inl (cB, NN, .inl f)), (Q.qq, .inl (cI, (8 * Q.C), .inl Q.qf)), (Q.qe, .inl (cL, (3 * Q.C), .inr (.inl Q.ef))), (tv, .inr (12, MF 13 (tw V))), (V.au, .inl (cC, V.U, .inl V.un))]) [5, 0, 1, 2, 3, 4] rfl
                  have hD := hD.sub (ws' := [(mo, .inr (13, MF 30 u2)), (qx, .inl (cB, NN, .inl f)), (Q.qq, .inl (cI, (8 * Q.C), .inl Q.qf)), (Q.qe, .inl (cL, (3 * Q.C), .inr (.inl Q.ef))), (tv, .inr (12, MF 13 (tw V))), (V.au, .inl (cC, V.U, .inl V.un))]) [5, 0, 1, 2, 3, 4] (by decide) rfl
                  obtain ⟨b7, h_b7⟩ := rf_fail (v := (rs v Q o)) (i := i) (br := br) (b2 := br) (wh := (nI i))
                  have hw : r0 = 0 ∧ u2 = _ := hw
                  obtain ⟨hw1, hw2⟩ := hw
                  rw [h_b7] at hw2
                  rw [hw2] at hP hD
                  subst hw1
                  have hP : va_P (dC, dI) classes [(mo, .inr (13, MF 30 (rf (rs v Q o) i b7))), (qx, .inl (cB, NN, .inl f)), (Q.qq, .inl (cI, (8 * Q.C), .inl Q.qf)), (Q.qe, .inl (cL, (3 * Q.C), .inr (.inl Q.ef))), (tv, .inr (12, MF 13 (tw V))), (V.au, .inl (cC, V.U, .inl V.un))] H := hP
                  have hD : va_D A [(mo, .inr (13, MF 30 (rf (rs v Q o) i b7))), (qx, .inl (cB, NN, .inl f)), (Q.qq, .inl (cI, (8 * Q.C), .inl Q.qf)), (Q.qe, .inl (cL, (3 * Q.C), .inr (.inl Q.ef))), (tv, .inr (12, MF 13 (tw V))), (V.au, .inl (cC, V.U, .inl V.un))] := hD
                  refine lv_pop hx hb d_Mo_selector_182 rfl ?_
                  refine lv_iconst (v := (-1)) hx hb d_Mo_selector_183 (by decide) ?_
                  have hfin : selP f n (orL f n) true i = none := by
                    unfold selP
                    rw [if_neg (fun h => by rw [← h_r1] at h; exact h.elim c8 c14), if_neg (fun h => absurd h.2 (by decide)), if_neg (fun h => c101 (h_r1.trans h.1)), if_pos ⟨fun h => c154 (h_r1.trans h), (by rw [← h_r1]; exact h_d1.2 c161), Or.inl (fun h => c167 (h_r1.trans h))⟩]
                  refine w_same (fun hq => ?_)
                  refine W.widen (k := kcap Q (Q.R + 8 * (n - i) + 4) + qcap V (V.us + (n + 12 - i))) (n := 22 * kcap Q (Q.R + 8 * (n - i) + 4) + 2 * qcap V (V.us + (n + 12 - i))) hfit_QV.1 hfit_QV.2 ?_
                  have hPo : QPo n i 4 Q V (Q, V, i, b7, o) := ⟨hQk_Q, hG_QV, ⟨[], TX.rf hTk_V, Nat.zero_le _⟩, by show Q.R ≤ Q.R; omega, by show Q.R ≤ Q.R + 8 * (n - i) + 4; omega⟩
                  exact W.iret (v := -1) hx hb hr (fun t9 ht hW => ⟨⟨-1, (Q, V, i, b7, o), rfl, ⟨hPo, Or.inr ⟨rfl, hfin⟩⟩, ⟨by rw [ht]; exact hP, va_K.moved hW.alike hK, hD⟩, by rw [ht]; exact hq⟩, hS.F ht⟩) hS.2.2 d_Mo_selector_184
                · refine lv_iload_n hx hb d_Mo_selector_170 rfl (lv_at hl 2 rfl) ?_
                  refine lv_if_eq (tgt := 185) hx hb d_Mo_selector_171 (by decide) (fun h => absurd h (by decide)) (fun _ => ?_)
                  refine lv_aload_n hx hb d_Mo_selector_174 rfl (lv_at hl 1 rfl) ?_
                  refine lv_aload_n hx hb d_Mo_selector_175 rfl (lv_at hl 1 rfl) ?_
                  refine va_get (D := (dC, dI)) (ci := 13) (v := .int (nI i)) (C := R_Mo) (T := F_Mo) (N := 30) hx hb hts in_Mo hown hK hP 0 rfl rfl 7 (by decide) (hts _ w_1096) (fun _ h9 => h9) (MFg (by decide) rf_7) d_Mo_selector_176 ?_
                  have hPc := hP.sub (ws' := [(mo, .inr (13, MF 30 (rf (rs v Q o) i br)))]) [0] rfl
                  have hDc := hD.sub (ws' := [(mo, .inr (13, MF 30 (rf (rs v Q o) i br)))]) [0] (by decide) rfl
                  have hKc := hK.sub (tys' := []) [] rfl
                  have hFc := va_free (wc := [(mo, .inr (13, MF 30 (rf (rs v Q o) i br)))]) hD hS hA [0] rfl
                  refine va_calli (va_runV (As := [.int (nI i)]) (rest := []) ⟨hx, hb, hml, hown, hts⟩ (c_Mo_fail l dC dI mo H (rf (rs v Q o) i br) br ((nI i)) rf_9) (cwV 1 hts (gt_V (own := R_Mo) (C := R_Mo) (i := 151) (y := y_Mo_fail) i_Mo_fail w_1250 w_1252 (gt_sel (y := y_Mo_fail) (n := 30) (by decide +kernel)) w_7) rfl rfl rfl (by decide +kernel) ⟨Nat.le_trans (m := 7) (Nat.le_of_ble_eq_true rfl) (Nat.le_add_right 7 F), Nat.le_trans (m := 200) (Nat.le_of_ble_eq_true rfl) (Nat.le_add_right 200 L)⟩) ⟨mp_blind, va_recv hKc hPc (ci := 13) (q0 := 0) rfl rfl, fun U hU hW => ⟨rfl, hU, by rw [hU]; exact hPc, va_K.moved hW.alike hKc, hDc.weaken (fun _ _ _ _ => trivial)⟩⟩ rfl rfl hl.1 rfl (lv_room (Nat.le_of_ble_eq_true rfl)) d_Mo_selector_179 ⟨hfit_QV.1, hfit_QV.2⟩) hS (fun q _ h => hFc q h) hFc (fun r0 u2 t9 H1 locs ht hvm hw hB hz1 hk1 hS => ?_)
                  obtain ⟨hP1, hK1, hD1⟩ := hB
                  rw [ht] at hP1
                  obtain ⟨hP, hD⟩ := va_join (wr := [(qx, .inl (cB, NN, .inl f)), (Q.qq, .inl (cI, (8 * Q.C), .inl Q.qf)), (Q.qe, .inl (cL, (3 * Q.C), .inr (.inl Q.ef))), (tv, .inr (12, MF 13 (tw V))), (V.au, .inl (cC, V.U, .inl V.un))]) (w1 := [(mo, .inr (13, MF 30 u2))]) hP hD [0] [1, 2, 3, 4, 5] rfl rfl (by decide) (by decide) hk1 hFc hP1 hD1
                  generalize H1 = H at hP hS ⊢
                  have hP : va_P (dC, dI) classes [(qx, .inl (cB, NN, .inl f)), (Q.qq, .inl (cI, (8 * Q.C), .inl Q.qf)), (Q.qe, .inl (cL, (3 * Q.C), .inr (.inl Q.ef))), (tv, .inr (12, MF 13 (tw V))), (V.au, .inl (cC, V.U, .inl V.un)), (mo, .inr (13, MF 30 u2))] H := hP
                  have hD : va_D A [(qx, .inl (cB, NN, .inl f)), (Q.qq, .inl (cI, (8 * Q.C), .inl Q.qf)), (Q.qe, .inl (cL, (3 * Q.C), .inr (.inl Q.ef))), (tv, .inr (12, MF 13 (tw V))), (V.au, .inl (cC, V.U, .inl V.un)), (mo, .inr (13, MF 30 u2))] := hD
                  have hP := hP.sub (ws' := [(mo, .inr (13, MF 30 u2)), (qx, .inl (cB, NN, .inl f)), (Q.qq, .inl (cI, (8 * Q.C), .inl Q.qf)), (Q.qe, .inl (cL, (3 * Q.C), .inr (.inl Q.ef))), (tv, .inr (12, MF 13 (tw V))), (V.au, .inl (cC, V.U, .inl V.un))]) [5, 0, 1, 2, 3, 4] rfl
                  have hD := hD.sub (ws' := [(mo, .inr (13, MF 30 u2)), (qx, .inl (cB, NN, .inl f)), (Q.qq, .inl (cI, (8 * Q.C), .inl Q.qf)), (Q.qe, .inl (cL, (3 * Q.C), .inr (.inl Q.ef))), (tv, .inr (12, MF 13 (tw V))), (V.au, .inl (cC, V.U, .inl V.un))]) [5, 0, 1, 2, 3, 4] (by decide) rfl
                  obtain ⟨b7, h_b7⟩ := rf_fail (v := (rs v Q o)) (i := i) (br := br) (b2 := br) (wh := (nI i))
                  have hw : r0 = 0 ∧ u2 = _ := hw
                  obtain ⟨hw1, hw2⟩ := hw
                  rw [h_b7] at hw2
                  rw [hw2] at hP hD
                  subst hw1
                  have hP : va_P (dC, dI) classes [(mo, .inr (13, MF 30 (rf (rs v Q o) i b7))), (qx, .inl (cB, NN, .inl f)), (Q.qq, .inl (cI, (8 * Q.C), .inl Q.qf)), (Q.qe, .inl (cL, (3 * Q.C), .inr (.inl Q.ef))), (tv, .inr (12, MF 13 (tw V))), (V.au, .inl (cC, V.U, .inl V.un))] H := hP
                  have hD : va_D A [(mo, .inr (13, MF 30 (rf (rs v Q o) i b7))), (qx, .inl (cB, NN, .inl f)), (Q.qq, .inl (cI, (8 * Q.C), .inl Q.qf)), (Q.qe, .inl (cL, (3 * Q.C), .inr (.inl Q.ef))), (tv, .inr (12, MF 13 (tw V))), (V.au, .inl (cC, V.U, .inl V.un))] := hD
                  refine lv_pop hx hb d_Mo_selector_182 rfl ?_
                  refine lv_iconst (v := (-1)) hx hb d_Mo_selector_183 (by decide) ?_
                  have hfin : selP f n (orL f n) true i = none := by
                    unfold selP
                    rw [if_neg (fun h => by rw [← h_r1] at h; exact h.elim c8 c14), if_neg (fun h => absurd h.2 (by decide)), if_neg (fun h => c101 (h_r1.trans h.1)), if_pos ⟨fun h => c154 (h_r1.trans h), (by rw [← h_r1]; exact h_d1.2 c161), Or.inr rfl⟩]
                  refine w_same (fun hq => ?_)
                  refine W.widen (k := kcap Q (Q.R + 8 * (n - i) + 4) + qcap V (V.us + (n + 12 - i))) (n := 22 * kcap Q (Q.R + 8 * (n - i) + 4) + 2 * qcap V (V.us + (n + 12 - i))) hfit_QV.1 hfit_QV.2 ?_
                  have hPo : QPo n i 4 Q V (Q, V, i, b7, o) := ⟨hQk_Q, hG_QV, ⟨[], TX.rf hTk_V, Nat.zero_le _⟩, by show Q.R ≤ Q.R; omega, by show Q.R ≤ Q.R + 8 * (n - i) + 4; omega⟩
                  exact W.iret (v := -1) hx hb hr (fun t9 ht hW => ⟨⟨-1, (Q, V, i, b7, o), rfl, ⟨hPo, Or.inr ⟨rfl, hfin⟩⟩, ⟨by rw [ht]; exact hP, va_K.moved hW.alike hK, hD⟩, by rw [ht]; exact hq⟩, hS.F ht⟩) hS.2.2 d_Mo_selector_184
          · refine lv_iload_n hx hb d_Mo_selector_104 rfl (lv_at hl 2 rfl) ?_
            refine lv_if_ne (tgt := 151) hx hb d_Mo_selector_105 (by decide) (fun _ => ?_) (fun h => absurd h (by decide))
            refine lv_iload_n hx hb d_Mo_selector_151 rfl (lv_at hl 0 rfl) ?_
            refine lv_bipush (v := 45) hx hb d_Mo_selector_152 (by decide) ?_
            refine lv_icmp_eq (tgt := 185) hx hb d_Mo_selector_154 (by decide) (fun c154 => ?_) (fun c154 => ?_)
            · have hselT : selP f n (orL f n) true i = selT f n true i := by unfold selP; rw [if_neg (fun h => by rw [← h_r1] at h; exact h.elim c8 c14), if_neg (fun h => absurd h.2 (by decide)), if_neg (fun h => absurd h.2 (by decide)), if_neg (fun h => h.1 (h_r1.symm.trans c154))]; rfl
              exact jn185 () _ _ _ ⟨hselT, Or.inl c154⟩ hP hD hS (lv_sub hl [1, 2, 0] rfl)
            · refine lv_iload_n hx hb d_Mo_selector_157 rfl (lv_at hl 0 rfl) ?_
              have hPc := hP.sub (ws' := []) [] rfl
              have hDc := hD.sub (ws' := []) [] (by decide) rfl
              have hKc := hK.sub (tys' := []) [] rfl
              have hFc := va_free (wc := []) hD hS hA [] rfl
              refine va_calli (va_runS (As := [.int r1]) (rest := []) ⟨hx, hb, hml, hown, hts⟩ (c_Mo_digit l dC dI H r1) (va_cwS 1 hts (gt_S (own := R_Mo) (i := 166) (y := y_Mo_digit) i_Mo_digit w_1332 w_1333 w_7) rfl rfl rfl (by decide +kernel) ⟨Nat.le_trans (m := 7) (Nat.le_of_ble_eq_true rfl) (Nat.le_add_right 7 F), Nat.le_trans (m := 200) (Nat.le_of_ble_eq_true rfl) (Nat.le_add_right 200 L)⟩) ⟨mp_blind, fun U hU hW => ⟨rfl, hU, by rw [hU]; exact hPc, va_K.moved hW.alike hKc, hDc.weaken (fun _ _ _ _ => trivial)⟩⟩ rfl rfl hl.1 rfl (lv_room (Nat.le_of_ble_eq_true rfl)) d_Mo_selector_158 ⟨hfit_QV.1, hfit_QV.2⟩) hS (fun q _ h => hFc q h) hFc (fun d1 _u t9 H1 locs ht hvm hw hB hz1 hk1 hS => ?_)
              obtain ⟨hP1, hK1, hD1⟩ := hB
              rw [ht] at hP1
              obtain ⟨hP, hD⟩ := va_join (wr := [(mo, .inr (13, MF 30 (rf (rs v Q o) i br))), (qx, .inl (cB, NN, .inl f)), (Q.qq, .inl (cI, (8 * Q.C), .inl Q.qf)), (Q.qe, .inl (cL, (3 * Q.C), .inr (.inl Q.ef))), (tv, .inr (12, MF 13 (tw V))), (V.au, .inl (cC, V.U, .inl V.un))]) (w1 := []) hP hD [] [0, 1, 2, 3, 4, 5] rfl rfl (by decide) (by decide) hk1 hFc hP1 hD1
              generalize H1 = H at hP hS ⊢
              have hP : va_P (dC, dI) classes [(mo, .inr (13, MF 30 (rf (rs v Q o) i br))), (qx, .inl (cB, NN, .inl f)), (Q.qq, .inl (cI, (8 * Q.C), .inl Q.qf)), (Q.qe, .inl (cL, (3 * Q.C), .inr (.inl Q.ef))), (tv, .inr (12, MF 13 (tw V))), (V.au, .inl (cC, V.U, .inl V.un))] H := hP
              have hD : va_D A [(mo, .inr (13, MF 30 (rf (rs v Q o) i br))), (qx, .inl (cB, NN, .inl f)), (Q.qq, .inl (cI, (8 * Q.C), .inl Q.qf)), (Q.qe, .inl (cL, (3 * Q.C), .inr (.inl Q.ef))), (tv, .inr (12, MF 13 (tw V))), (V.au, .inl (cC, V.U, .inl V.un))] := hD
              have h_d1 := dg_01 hw
              refine lv_if_ne (tgt := 185) hx hb d_Mo_selector_161 (by decide) (fun c161 => ?_) (fun c161 => ?_)
              · have hselT : selP f n (orL f n) true i = selT f n true i := by unfold selP; rw [if_neg (fun h => by rw [← h_r1] at h; exact h.elim c8 c14), if_neg (fun h => absurd h.2 (by decide)), if_neg (fun h => absurd h.2 (by decide)), if_neg (fun h => h.2.1 (by rw [← h_r1]; exact h_d1.1 c161))]; rfl
                exact jn185 () _ _ _ ⟨hselT, Or.inr (Or.inl (h_d1.1 c161))⟩ hP hD hS (lv_sub hl [1, 2, 0] rfl)
              · refine lv_iload_n hx hb d_Mo_selector_164 rfl (lv_at hl 0 rfl) ?_
                refine lv_bipush (v := 58) hx hb d_Mo_selector_165 (by decide) ?_
                refine lv_icmp_ne (tgt := 174) hx hb d_Mo_selector_167 (by decide) (fun c167 => ?_) (fun c167 => ?_)
                · refine lv_aload_n hx hb d_Mo_selector_174 rfl (lv_at hl 1 rfl) ?_
                  refine lv_aload_n hx hb d_Mo_selector_175 rfl (lv_at hl 1 rfl) ?_
                  refine va_get (D := (dC, dI)) (ci := 13) (v := .int (nI i)) (C := R_Mo) (T := F_Mo) (N := 30) hx hb hts in_Mo hown hK hP 0 rfl rfl 7 (by decide) (hts _ w_1096) (fun _ h9 => h9) (MFg (by decide) rf_7) d_Mo_selector_176 ?_
                  have hPc := hP.sub (ws' := [(mo, .inr (13, MF 30 (rf (rs v Q o) i br)))]) [0] rfl
                  have hDc := hD.sub (ws' := [(mo, .inr (13, MF 30 (rf (rs v Q o) i br)))]) [0] (by decide) rfl
                  have hKc := hK.sub (tys' := []) [] rfl
                  have hFc := va_free (wc := [(mo, .inr (13, MF 30 (rf (rs v Q o) i br)))]) hD hS hA [0] rfl
                  refine va_calli (va_runV (As := [.int (nI i)]) (rest := []) ⟨hx, hb, hml, hown, hts⟩ (c_Mo_fail l dC dI mo H (rf (rs v Q o) i br) br ((nI i)) rf_9) (cwV 1 hts (gt_V (own := R_Mo) (C := R_Mo) (i := 151) (y := y_Mo_fail) i_Mo_fail w_1250 w_1252 (gt_sel (y := y_Mo_fail) (n := 30) (by decide +kernel)) w_7) rfl rfl rfl (by decide +kernel) ⟨Nat.le_trans (m := 7) (Nat.le_of_ble_eq_true rfl) (Nat.le_add_right 7 F), Nat.le_trans (m := 200) (Nat.le_of_ble_eq_true rfl) (Nat.le_add_right 200 L)⟩) ⟨mp_blind, va_recv hKc hPc (ci := 13) (q0 := 0) rfl rfl, fun U hU hW => ⟨rfl, hU, by rw [hU]; exact hPc, va_K.moved hW.alike hKc, hDc.weaken (fun _ _ _ _ => trivial)⟩⟩ rfl rfl hl.1 rfl (lv_room (Nat.le_of_ble_eq_true rfl)) d_Mo_selector_179 ⟨hfit_QV.1, hfit_QV.2⟩) hS (fun q _ h => hFc q h) hFc (fun r0 u2 t9 H1 locs ht hvm hw hB hz1 hk1 hS => ?_)
                  obtain ⟨hP1, hK1, hD1⟩ := hB
                  rw [ht] at hP1
                  obtain ⟨hP, hD⟩ := va_join (wr := [(qx, .inl (cB, NN, .inl f)), (Q.qq, .inl (cI, (8 * Q.C), .inl Q.qf)), (Q.qe, .inl (cL, (3 * Q.C), .inr (.inl Q.ef))), (tv, .inr (12, MF 13 (tw V))), (V.au, .inl (cC, V.U, .inl V.un))]) (w1 := [(mo, .inr (13, MF 30 u2))]) hP hD [0] [1, 2, 3, 4, 5] rfl rfl (by decide) (by decide) hk1 hFc hP1 hD1
                  generalize H1 = H at hP hS ⊢
                  have hP : va_P (dC, dI) classes [(qx, .inl (cB, NN, .inl f)), (Q.qq, .inl (cI, (8 * Q.C), .inl Q.qf)), (Q.qe, .inl (cL, (3 * Q.C), .inr (.inl Q.ef))), (tv, .inr (12, MF 13 (tw V))), (V.au, .inl (cC, V.U, .inl V.un)), (mo, .inr (13, MF 30 u2))] H := hP
                  have hD : va_D A [(qx, .inl (cB, NN, .inl f)), (Q.qq, .inl (cI, (8 * Q.C), .inl Q.qf)), (Q.qe, .inl (cL, (3 * Q.C), .inr (.inl Q.ef))), (tv, .inr (12, MF 13 (tw V))), (V.au, .inl (cC, V.U, .inl V.un)), (mo, .inr (13, MF 30 u2))] := hD
                  have hP := hP.sub (ws' := [(mo, .inr (13, MF 30 u2)), (qx, .inl (cB, NN, .inl f)), (Q.qq, .inl (cI, (8 * Q.C), .inl Q.qf)), (Q.qe, .inl (cL, (3 * Q.C), .inr (.inl Q.ef))), (tv, .inr (12, MF 13 (tw V))), (V.au, .inl (cC, V.U, .inl V.un))]) [5, 0, 1, 2, 3, 4] rfl
                  have hD := hD.sub (ws' := [(mo, .inr (13, MF 30 u2)), (qx, .inl (cB, NN, .inl f)), (Q.qq, .inl (cI, (8 * Q.C), .inl Q.qf)), (Q.qe, .inl (cL, (3 * Q.C), .inr (.inl Q.ef))), (tv, .inr (12, MF 13 (tw V))), (V.au, .inl (cC, V.U, .inl V.un))]) [5, 0, 1, 2, 3, 4] (by decide) rfl
                  obtain ⟨b7, h_b7⟩ := rf_fail (v := (rs v Q o)) (i := i) (br := br) (b2 := br) (wh := (nI i))
                  have hw : r0 = 0 ∧ u2 = _ := hw
                  obtain ⟨hw1, hw2⟩ := hw
                  rw [h_b7] at hw2
                  rw [hw2] at hP hD
                  subst hw1
                  have hP : va_P (dC, dI) classes [(mo, .inr (13, MF 30 (rf (rs v Q o) i b7))), (qx, .inl (cB, NN, .inl f)), (Q.qq, .inl (cI, (8 * Q.C), .inl Q.qf)), (Q.qe, .inl (cL, (3 * Q.C), .inr (.inl Q.ef))), (tv, .inr (12, MF 13 (tw V))), (V.au, .inl (cC, V.U, .inl V.un))] H := hP
                  have hD : va_D A [(mo, .inr (13, MF 30 (rf (rs v Q o) i b7))), (qx, .inl (cB, NN, .inl f)), (Q.qq, .inl (cI, (8 * Q.C), .inl Q.qf)), (Q.qe, .inl (cL, (3 * Q.C), .inr (.inl Q.ef))), (tv, .inr (12, MF 13 (tw V))), (V.au, .inl (cC, V.U, .inl V.un))] := hD
                  refine lv_pop hx hb d_Mo_selector_182 rfl ?_
                  refine lv_iconst (v := (-1)) hx hb d_Mo_selector_183 (by decide) ?_
                  have hfin : selP f n (orL f n) true i = none := by
                    unfold selP
                    rw [if_neg (fun h => by rw [← h_r1] at h; exact h.elim c8 c14), if_neg (fun h => absurd h.2 (by decide)), if_neg (fun h => absurd h.2 (by decide)), if_pos ⟨fun h => c154 (h_r1.trans h), (by rw [← h_r1]; exact h_d1.2 c161), Or.inl (fun h => c167 (h_r1.trans h))⟩]
                  refine w_same (fun hq => ?_)
                  refine W.widen (k := kcap Q (Q.R + 8 * (n - i) + 4) + qcap V (V.us + (n + 12 - i))) (n := 22 * kcap Q (Q.R + 8 * (n - i) + 4) + 2 * qcap V (V.us + (n + 12 - i))) hfit_QV.1 hfit_QV.2 ?_
                  have hPo : QPo n i 4 Q V (Q, V, i, b7, o) := ⟨hQk_Q, hG_QV, ⟨[], TX.rf hTk_V, Nat.zero_le _⟩, by show Q.R ≤ Q.R; omega, by show Q.R ≤ Q.R + 8 * (n - i) + 4; omega⟩
                  exact W.iret (v := -1) hx hb hr (fun t9 ht hW => ⟨⟨-1, (Q, V, i, b7, o), rfl, ⟨hPo, Or.inr ⟨rfl, hfin⟩⟩, ⟨by rw [ht]; exact hP, va_K.moved hW.alike hK, hD⟩, by rw [ht]; exact hq⟩, hS.F ht⟩) hS.2.2 d_Mo_selector_184
                · refine lv_iload_n hx hb d_Mo_selector_170 rfl (lv_at hl 2 rfl) ?_
                  refine lv_if_eq (tgt := 185) hx hb d_Mo_selector_171 (by decide) (fun h => absurd h (by decide)) (fun _ => ?_)
                  refine lv_aload_n hx hb d_Mo_selector_174 rfl (lv_at hl 1 rfl) ?_
                  refine lv_aload_n hx hb d_Mo_selector_175 rfl (lv_at hl 1 rfl) ?_
                  refine va_get (D := (dC, dI)) (ci := 13) (v := .int (nI i)) (C := R_Mo) (T := F_Mo) (N := 30) hx hb hts in_Mo hown hK hP 0 rfl rfl 7 (by decide) (hts _ w_1096) (fun _ h9 => h9) (MFg (by decide) rf_7) d_Mo_selector_176 ?_
                  have hPc := hP.sub (ws' := [(mo, .inr (13, MF 30 (rf (rs v Q o) i br)))]) [0] rfl
                  have hDc := hD.sub (ws' := [(mo, .inr (13, MF 30 (rf (rs v Q o) i br)))]) [0] (by decide) rfl
                  have hKc := hK.sub (tys' := []) [] rfl
                  have hFc := va_free (wc := [(mo, .inr (13, MF 30 (rf (rs v Q o) i br)))]) hD hS hA [0] rfl
                  refine va_calli (va_runV (As := [.int (nI i)]) (rest := []) ⟨hx, hb, hml, hown, hts⟩ (c_Mo_fail l dC dI mo H (rf (rs v Q o) i br) br ((nI i)) rf_9) (cwV 1 hts (gt_V (own := R_Mo) (C := R_Mo) (i := 151) (y := y_Mo_fail) i_Mo_fail w_1250 w_1252 (gt_sel (y := y_Mo_fail) (n := 30) (by decide +kernel)) w_7) rfl rfl rfl (by decide +kernel) ⟨Nat.le_trans (m := 7) (Nat.le_of_ble_eq_true rfl) (Nat.le_add_right 7 F), Nat.le_trans (m := 200) (Nat.le_of_ble_eq_true rfl) (Nat.le_add_right 200 L)⟩) ⟨mp_blind, va_recv hKc hPc (ci := 13) (q0 := 0) rfl rfl, fun U hU hW => ⟨rfl, hU, by rw [hU]; exact hPc, va_K.moved hW.alike hKc, hDc.weaken (fun _ _ _ _ => trivial)⟩⟩ rfl rfl hl.1 rfl (lv_room (Nat.le_of_ble_eq_true rfl)) d_Mo_selector_179 ⟨hfit_QV.1, hfit_QV.2⟩) hS (fun q _ h => hFc q h) hFc (fun r0 u2 t9 H1 locs ht hvm hw hB hz1 hk1 hS => ?_)
                  obtain ⟨hP1, hK1, hD1⟩ := hB
                  rw [ht] at hP1
                  obtain ⟨hP, hD⟩ := va_join (wr := [(qx, .inl (cB, NN, .inl f)), (Q.qq, .inl (cI, (8 * Q.C), .inl Q.qf)), (Q.qe, .inl (cL, (3 * Q.C), .inr (.inl Q.ef))), (tv, .inr (12, MF 13 (tw V))), (V.au, .inl (cC, V.U, .inl V.un))]) (w1 := [(mo, .inr (13, MF 30 u2))]) hP hD [0] [1, 2, 3, 4, 5] rfl rfl (by decide) (by decide) hk1 hFc hP1 hD1
                  generalize H1 = H at hP hS ⊢
                  have hP : va_P (dC, dI) classes [(qx, .inl (cB, NN, .inl f)), (Q.qq, .inl (cI, (8 * Q.C), .inl Q.qf)), (Q.qe, .inl (cL, (3 * Q.C), .inr (.inl Q.ef))), (tv, .inr (12, MF 13 (tw V))), (V.au, .inl (cC, V.U, .inl V.un)), (mo, .inr (13, MF 30 u2))] H := hP
                  have hD : va_D A [(qx, .inl (cB, NN, .inl f)), (Q.qq, .inl (cI, (8 * Q.C), .inl Q.qf)), (Q.qe, .inl (cL, (3 * Q.C), .inr (.inl Q.ef))), (tv, .inr (12, MF 13 (tw V))), (V.au, .inl (cC, V.U, .inl V.un)), (mo, .inr (13, MF 30 u2))] := hD
                  have hP := hP.sub (ws' := [(mo, .inr (13, MF 30 u2)), (qx, .inl (cB, NN, .inl f)), (Q.qq, .inl (cI, (8 * Q.C), .inl Q.qf)), (Q.qe, .inl (cL, (3 * Q.C), .inr (.inl Q.ef))), (tv, .inr (12, MF 13 (tw V))), (V.au, .inl (cC, V.U, .inl V.un))]) [5, 0, 1, 2, 3, 4] rfl
                  have hD := hD.sub (ws' := [(mo, .inr (13, MF 30 u2)), (qx, .inl (cB, NN, .inl f)), (Q.qq, .inl (cI, (8 * Q.C), .inl Q.qf)), (Q.qe, .inl (cL, (3 * Q.C), .inr (.inl Q.ef))), (tv, .inr (12, MF 13 (tw V))), (V.au, .inl (cC, V.U, .inl V.un))]) [5, 0, 1, 2, 3, 4] (by decide) rfl
                  obtain ⟨b7, h_b7⟩ := rf_fail (v := (rs v Q o)) (i := i) (br := br) (b2 := br) (wh := (nI i))
                  have hw : r0 = 0 ∧ u2 = _ := hw
                  obtain ⟨hw1, hw2⟩ := hw
                  rw [h_b7] at hw2
                  rw [hw2] at hP hD
                  subst hw1
                  have hP : va_P (dC, dI) classes [(mo, .inr (13, MF 30 (rf (rs v Q o) i b7))), (qx, .inl (cB, NN, .inl f)), (Q.qq, .inl (cI, (8 * Q.C), .inl Q.qf)), (Q.qe, .inl (cL, (3 * Q.C), .inr (.inl Q.ef))), (tv, .inr (12, MF 13 (tw V))), (V.au, .inl (cC, V.U, .inl V.un))] H := hP
                  have hD : va_D A [(mo, .inr (13, MF 30 (rf (rs v Q o) i b7))), (qx, .inl (cB, NN, .inl f)), (Q.qq, .inl (cI, (8 * Q.C), .inl Q.qf)), (Q.qe, .inl (cL, (3 * Q.C), .inr (.inl Q.ef))), (tv, .inr (12, MF 13 (tw V))), (V.au, .inl (cC, V.U, .inl V.un))] := hD
                  refine lv_pop hx hb d_Mo_selector_182 rfl ?_
                  refine lv_iconst (v := (-1)) hx hb d_Mo_selector_183 (by decide) ?_
                  have hfin : selP f n (orL f n) true i = none := by
                    unfold selP
                    rw [if_neg (fun h => by rw [← h_r1] at h; exact h.elim c8 c14), if_neg (fun h => absurd h.2 (by decide)), if_neg (fun h => absurd h.2 (by decide)), if_pos ⟨fun h => c154 (h_r1.trans h), (by rw [← h_r1]; exact h_d1.2 c161), Or.inr rfl⟩]
                  refine w_same (fun hq => ?_)
                  refine W.widen (k := kcap Q (Q.R + 8 * (n - i) + 4) + qcap V (V.us + (n + 12 - i))) (n := 22 * kcap Q (Q.R + 8 * (n - i) + 4) + 2 * qcap V (V.us + (n + 12 - i))) hfit_QV.1 hfit_QV.2 ?_
                  have hPo : QPo n i 4 Q V (Q, V, i, b7, o) := ⟨hQk_Q, hG_QV, ⟨[], TX.rf hTk_V, Nat.zero_le _⟩, by show Q.R ≤ Q.R; omega, by show Q.R ≤ Q.R + 8 * (n - i) + 4; omega⟩
                  exact W.iret (v := -1) hx hb hr (fun t9 ht hW => ⟨⟨-1, (Q, V, i, b7, o), rfl, ⟨hPo, Or.inr ⟨rfl, hfin⟩⟩, ⟨by rw [ht]; exact hP, va_K.moved hW.alike hK, hD⟩, by rw [ht]; exact hq⟩, hS.F ht⟩) hS.2.2 d_Mo_selector_184
      · refine lv_aload_n hx hb d_Mo_selector_17 rfl (lv_at hl 1 rfl) ?_
        refine lv_iconst (v := 1) hx hb d_Mo_selector_18 (by decide) ?_
        have hPc := hP.sub (ws' := [(mo, .inr (13, MF 30 (rf (rs v Q o) i br))), (Q.qq, .inl (cI, (8 * Q.C), .inl Q.qf)), (Q.qe, .inl (cL, (3 * Q.C), .inr (.inl Q.ef)))]) [0, 2, 3] rfl
        have hDc := hD.sub (ws' := [(mo, .inr (13, MF 30 (rf (rs v Q o) i br))), (Q.qq, .inl (cI, (8 * Q.C), .inl Q.qf)), (Q.qe, .inl (cL, (3 * Q.C), .inr (.inl Q.ef)))]) [0, 2, 3] (by decide) rfl
        have hKc := hK.sub (tys' := [(cI, .int), (cL, .long)]) [1, 2] rfl
        have hFc := va_free (wc := [(mo, .inr (13, MF 30 (rf (rs v Q o) i br))), (Q.qq, .inl (cI, (8 * Q.C), .inl Q.qf)), (Q.qe, .inl (cL, (3 * Q.C), .inr (.inl Q.ef)))]) hD hS hA [0, 2, 3] rfl
        refine w_same (fun hq0 => ?_)
        refine va_calli (va_runV (As := [.int 1]) (rest := []) ⟨hx, hb, hml, hown, hts⟩ (c_Mo_row l dC dI mo H v cI cL Q o i br 1 hQk_Q) (cwV 1 hts (gt_V (own := R_Mo) (C := R_Mo) (i := 269) (y := y_Mo_row) i_Mo_row w_1407 w_1409 (gt_sel (y := y_Mo_row) (n := 30) (by decide +kernel)) w_7) rfl rfl rfl (by decide +kernel) ⟨Nat.le_trans (m := 7) (Nat.le_of_ble_eq_true rfl) (Nat.le_add_right 7 F), Nat.le_trans (m := 200) (Nat.le_of_ble_eq_true rfl) (Nat.le_add_right 200 L)⟩) ⟨mp_blind, va_recv hKc hPc (ci := 13) (q0 := 0) rfl rfl, fun U hU hW => ⟨rfl, hU, by rw [hU]; exact hPc, va_K.moved hW.alike hKc, hDc.weaken (fun _ _ _ _ => trivial)⟩⟩ rfl rfl hl.1 rfl (lv_room (Nat.le_of_ble_eq_true rfl)) d_Mo_selector_19 ⟨(QAd.fit hG_QV hQk_Q (by omega)).1, (QAd.fit hG_QV hQk_Q (by omega)).2⟩) hS (fun q _ h => hFc q h) hFc (fun r0 Q1 t9 H1 locs ht hvm hw hB hz1 hk1 hS => ?_)
        obtain ⟨⟨hP1, hK1, hD1⟩, hz9⟩ := hB
        rw [ht] at hP1
        rw [ht] at hz9
        obtain ⟨hr0, hA_Q1⟩ := hw
        have hA_Q1 : QAd Q Q1 1 := hA_Q1
        obtain ⟨hQk_Q1, hGa, hGb, hGd, hR_Q1⟩ := hA_Q1.gq hQk_Q (by omega) V
        obtain ⟨hG_Q1V, hGc, hGs⟩ := hG_QV.tr hGa (show Q.R + 1 ≤ Q.R + 8 * (n - i) + 4 by omega) (Nat.zero_le _)
        have hGc := Nat.le_trans (Nat.add_le_add_left hGb _) hGc
        have hGs := Nat.le_trans (Nat.add_le_add_left hGd _) hGs
        have hq1 : szk s.heap H1 (cQ Q V Q1 V) (sQ Q V Q1 V) := (hq0.trans hz9).mono hGc hGs
        refine w_tight hq1 ?_
        obtain ⟨hP, hD⟩ := va_join (wr := [(qx, .inl (cB, NN, .inl f)), (tv, .inr (12, MF 13 (tw V))), (V.au, .inl (cC, V.U, .inl V.un))]) (w1 := [(mo, .inr (13, MF 30 (rf (rs v Q1 o) i br))), (Q1.qq, .inl (cI, (8 * Q1.C), .inl Q1.qf)), (Q1.qe, .inl (cL, (3 * Q1.C), .inr (.inl Q1.ef)))]) hP hD [0, 2, 3] [1, 4, 5] rfl rfl (by decide) (by decide) hk1 hFc hP1 hD1
        generalize H1 = H at hP hS ⊢
        have hP : va_P (dC, dI) classes [(qx, .inl (cB, NN, .inl f)), (tv, .inr (12, MF 13 (tw V))), (V.au, .inl (cC, V.U, .inl V.un)), (mo, .inr (13, MF 30 (rf (rs v Q1 o) i br))), (Q1.qq, .inl (cI, (8 * Q1.C), .inl Q1.qf)), (Q1.qe, .inl (cL, (3 * Q1.C), .inr (.inl Q1.ef)))] H := hP
        have hD : va_D A [(qx, .inl (cB, NN, .inl f)), (tv, .inr (12, MF 13 (tw V))), (V.au, .inl (cC, V.U, .inl V.un)), (mo, .inr (13, MF 30 (rf (rs v Q1 o) i br))), (Q1.qq, .inl (cI, (8 * Q1.C), .inl Q1.qf)), (Q1.qe, .inl (cL, (3 * Q1.C), .inr (.inl Q1.ef)))] := hD
        have hP := hP.sub (ws' := [(mo, .inr (13, MF 30 (rf (rs v Q1 o) i br))), (qx, .inl (cB, NN, .inl f)), (tv, .inr (12, MF 13 (tw V))), (V.au, .inl (cC, V.U, .inl V.un)), (Q1.qq, .inl (cI, (8 * Q1.C), .inl Q1.qf)), (Q1.qe, .inl (cL, (3 * Q1.C), .inr (.inl Q1.ef)))]) [3, 0, 1, 2, 4, 5] rfl
        have hD := hD.sub (ws' := [(mo, .inr (13, MF 30 (rf (rs v Q1 o) i br))), (qx, .inl (cB, NN, .inl f)), (tv, .inr (12, MF 13 (tw V))), (V.au, .inl (cC, V.U, .inl V.un)), (Q1.qq, .inl (cI, (8 * Q1.C), .inl Q1.qf)), (Q1.qe, .inl (cL, (3 * Q1.C), .inr (.inl Q1.ef)))]) [3, 0, 1, 2, 4, 5] (by decide) rfl
        have hP := hP.sub (ws' := [(mo, .inr (13, MF 30 (rf (rs v Q1 o) i br))), (qx, .inl (cB, NN, .inl f)), (Q1.qq, .inl (cI, (8 * Q1.C), .inl Q1.qf)), (Q1.qe, .inl (cL, (3 * Q1.C), .inr (.inl Q1.ef))), (tv, .inr (12, MF 13 (tw V))), (V.au, .inl (cC, V.U, .inl V.un))]) [0, 1, 4, 5, 2, 3] rfl
        have hD := hD.sub (ws' := [(mo, .inr (13, MF 30 (rf (rs v Q1 o) i br))), (qx, .inl (cB, NN, .inl f)), (Q1.qq, .inl (cI, (8 * Q1.C), .inl Q1.qf)), (Q1.qe, .inl (cL, (3 * Q1.C), .inr (.inl Q1.ef))), (tv, .inr (12, MF 13 (tw V))), (V.au, .inl (cC, V.U, .inl V.un))]) [0, 1, 4, 5, 2, 3] (by decide) rfl
        have hr0 : r0 = nI Q.R := hr0
        subst hr0
        have hqb_Q1V : Q1.R ≤ Q1.C ∧ Q1.C ≤ 100000 := ⟨hQk_Q1.2.2.1, hQk_Q1.2.1⟩
        have hfit_Q1V := hG_Q1V.fits
        have hE_Q1 : alr Q V Q1 V 0 Q.R := ⟨fun r9 k9 _ h1 h2 => hA_Q1.2.2.1 _ (by omega), ⟨fun r9 k9 _ h1 h2 => hA_Q1.2.2.2.1.2 _ (by omega), Nat.le_refl _, fun _ _ => rfl⟩⟩
        have hk0_Q1 : Q1.qf (8 * Q.R + 0) = 1 := hA_Q1.2.2.2.2.1
        have hl1_Q1 : Q1.qf (8 * Q.R + 1) = -1 := hA_Q1.2.2.2.2.2 1 (by decide) (by decide)
        have hEx_Q1V : alr Q V Q1 V 0 Q.R := hE_Q1
        refine lv_istore_n (lv' := [(3, .int (nI Q.R)), (2, .int r1), (0, .ref mo), (1, .int 1)]) hx hb d_Mo_selector_22 rfl hl (by decide) rfl (fun ls hl => ?_)
        refine lv_aload_n hx hb d_Mo_selector_23 rfl (lv_at hl 2 rfl) ?_
        refine lv_iload_n hx hb d_Mo_selector_24 rfl (lv_at hl 0 rfl) ?_
        refine lv_iconst (v := 2) hx hb d_Mo_selector_25 (by decide) ?_
        refine lv_aload_n hx hb d_Mo_selector_26 rfl (lv_at hl 2 rfl) ?_
        refine va_get (D := (dC, dI)) (ci := 13) (v := .ref tv) (C := R_Mo) (T := F_Mo) (N := 30) hx hb hts in_Mo hown hK hP 0 rfl rfl 22 (by decide) (hts _ w_1111) (fun _ h9 => h9) (MFg (by decide) ((rf_ne (by decide) (by decide)).trans ((rs_ne (by decide) (by decide) (by decide) (by decide)).trans h22))) d_Mo_selector_27 ?_
        refine va_get (D := (dC, dI)) (ci := 12) (v := .int (nI V.us)) (C := R_Tree) (T := F_Tree) (N := 13) hx hb hts in_Tree hown hK hP 4 rfl rfl 12 (by decide) (hts _ w_1058) (fun _ h9 => h9) (MFg (by decide) rfl) d_Mo_selector_30 ?_
        refine W.eq (g2 := F0 m 33 ls [.int (nI V.us), .int (nI 2), .int (nI Q.R), .ref mo]) rfl ?_
        have hPc := hP.sub (ws' := [(mo, .inr (13, MF 30 (rf (rs v Q1 o) i br))), (Q1.qq, .inl (cI, (8 * Q1.C), .inl Q1.qf))]) [0, 2] rfl
        have hDc := hD.sub (ws' := [(mo, .inr (13, MF 30 (rf (rs v Q1 o) i br))), (Q1.qq, .inl (cI, (8 * Q1.C), .inl Q1.qf))]) [0, 2] (by decide) rfl
        have hKc := hK.sub (tys' := [(cI, .int)]) [1] rfl
        have hFc := va_free (wc := [(mo, .inr (13, MF 30 (rf (rs v Q1 o) i br))), (Q1.qq, .inl (cI, (8 * Q1.C), .inl Q1.qf))]) hD hS hA [0, 2] rfl
        refine va_callv (va_runV (As := [.int (nI Q.R), .int (nI 2), .int (nI V.us)]) (rest := []) ⟨hx, hb, hml, hown, hts⟩ (c_Mo_set l dC dI mo H (rf (rs v Q1 o) i br) cI Q1.qq (8 * Q1.C) Q1.qf Q.R 2 ((nI V.us)) (by omega) (by omega) ((rf_ne (by decide) (by decide)).trans rs_19)) (cwV 3 hts (gt_V (own := R_Mo) (C := R_Mo) (i := 272) (y := y_Mo_set) i_Mo_set w_1411 w_1413 (gt_sel (y := y_Mo_set) (n := 30) (by decide +kernel)) w_7) rfl rfl rfl (by decide +kernel) ⟨Nat.le_trans (m := 7) (Nat.le_of_ble_eq_true rfl) (Nat.le_add_right 7 F), Nat.le_trans (m := 200) (Nat.le_of_ble_eq_true rfl) (Nat.le_add_right 200 L)⟩) ⟨mp_blind, va_recv hKc hPc (ci := 13) (q0 := 0) rfl rfl, fun U hU hW => ⟨rfl, hU, by rw [hU]; exact hPc, va_K.moved hW.alike hKc, hDc.weaken (fun _ _ _ _ => trivial)⟩⟩ rfl rfl hl.1 rfl (lv_room (Nat.le_of_ble_eq_true rfl)) d_Mo_selector_33 ⟨hfit_Q1V.1, hfit_Q1V.2⟩) hS (fun q _ h => hFc q h) hFc (fun _u t9 H1 locs ht hvm hw hB hz1 hk1 hS => ?_)
        obtain ⟨hP1, hK1, hD1⟩ := hB
        rw [ht] at hP1
        obtain ⟨hP, hD⟩ := va_join (wr := [(qx, .inl (cB, NN, .inl f)), (Q1.qe, .inl (cL, (3 * Q1.C), .inr (.inl Q1.ef))), (tv, .inr (12, MF 13 (tw V))), (V.au, .inl (cC, V.U, .inl V.un))]) (w1 := [(mo, .inr (13, MF 30 (rf (rs v Q1 o) i br))), (Q1.qq, .inl (cI, (8 * Q1.C), .inl (upd Q1.qf (8 * Q.R + 2) ((nI V.us)))))]) hP hD [0, 2] [1, 3, 4, 5] rfl rfl (by decide) (by decide) hk1 hFc hP1 hD1
        generalize H1 = H at hP hS ⊢
        have hP : va_P (dC, dI) classes [(qx, .inl (cB, NN, .inl f)), (Q1.qe, .inl (cL, (3 * Q1.C), .inr (.inl Q1.ef))), (tv, .inr (12, MF 13 (tw V))), (V.au, .inl (cC, V.U, .inl V.un)), (mo, .inr (13, MF 30 (rf (rs v Q1 o) i br))), (Q1.qq, .inl (cI, (8 * Q1.C), .inl (upd Q1.qf (8 * Q.R + 2) ((nI V.us)))))] H := hP
        have hD : va_D A [(qx, .inl (cB, NN, .inl f)), (Q1.qe, .inl (cL, (3 * Q1.C), .inr (.inl Q1.ef))), (tv, .inr (12, MF 13 (tw V))), (V.au, .inl (cC, V.U, .inl V.un)), (mo, .inr (13, MF 30 (rf (rs v Q1 o) i br))), (Q1.qq, .inl (cI, (8 * Q1.C), .inl (upd Q1.qf (8 * Q.R + 2) ((nI V.us)))))] := hD
        have hP := hP.sub (ws' := [(mo, .inr (13, MF 30 (rf (rs v Q1 o) i br))), (qx, .inl (cB, NN, .inl f)), (Q1.qq, .inl (cI, (8 * Q1.C), .inl (upd Q1.qf (8 * Q.R + 2) ((nI V.us))))), (Q1.qe, .inl (cL, (3 * Q1.C), .inr (.inl Q1.ef))), (tv, .inr (12, MF 13 (tw V))), (V.au, .inl (cC, V.U, .inl V.un))]) [4, 0, 5, 1, 2, 3] rfl
        have hD := hD.sub (ws' := [(mo, .inr (13, MF 30 (rf (rs v Q1 o) i br))), (qx, .inl (cB, NN, .inl f)), (Q1.qq, .inl (cI, (8 * Q1.C), .inl (upd Q1.qf (8 * Q.R + 2) ((nI V.us))))), (Q1.qe, .inl (cL, (3 * Q1.C), .inr (.inl Q1.ef))), (tv, .inr (12, MF 13 (tw V))), (V.au, .inl (cC, V.U, .inl V.un))]) [4, 0, 5, 1, 2, 3] (by decide) rfl
        obtain ⟨Q2, e_Q2⟩ : ∃ z : QS, z = QS.wf Q1 (upd Q1.qf (8 * Q.R + 2) ((nI V.us))) := ⟨_, rfl⟩
        have hP : va_P (dC, dI) classes [(mo, .inr (13, MF 30 (rf (rs v Q2 o) i br))), (qx, .inl (cB, NN, .inl f)), (Q2.qq, .inl (cI, (8 * Q2.C), .inl Q2.qf)), (Q2.qe, .inl (cL, (3 * Q2.C), .inr (.inl Q2.ef))), (tv, .inr (12, MF 13 (tw V))), (V.au, .inl (cC, V.U, .inl V.un))] H := by subst e_Q2; exact hP
        have hD : va_D A [(mo, .inr (13, MF 30 (rf (rs v Q2 o) i br))), (qx, .inl (cB, NN, .inl f)), (Q2.qq, .inl (cI, (8 * Q2.C), .inl Q2.qf)), (Q2.qe, .inl (cL, (3 * Q2.C), .inr (.inl Q2.ef))), (tv, .inr (12, MF 13 (tw V))), (V.au, .inl (cC, V.U, .inl V.un))] := by subst e_Q2; exact hD
        have hf_Q2 : Q2.C = Q1.C ∧ Q2.R = Q1.R ∧ Q2.qf = upd Q1.qf (8 * Q.R + 2) ((nI V.us)) := by rw [e_Q2]; exact ⟨rfl, rfl, rfl⟩
        have he_Q2 : Q2.ef = Q1.ef := by rw [e_Q2]; rfl
        have hQk_Q2 : QOK Q2 := by rw [e_Q2]; exact hQk_Q1
        have hG_Q2V : GQ (Q.R + 8 * (n - i) + 4) (V.us + (n + 12 - i)) Q V Q2 V := by unfold GQ at hG_Q1V ⊢; rw [hf_Q2.1]; exact hG_Q1V
        refine w_same (fun hq => ?_)
        refine w_tight (k := cQ Q V Q2 V) (n := sQ Q V Q2 V) (by unfold cQ sQ at hq ⊢; rw [hf_Q2.1]; exact hq) ?_
        have hR_Q2 := hf_Q2.2.1
        have hqb_Q2V : Q2.R ≤ Q2.C ∧ Q2.C ≤ 100000 := ⟨hQk_Q2.2.2.1, hQk_Q2.2.1⟩
        have hfit_Q2V := hG_Q2V.fits
        have hk0_Q2 : Q2.qf (8 * Q.R + 0) = 1 := by rw [hf_Q2.2.2, pk_un (by omega)]; exact hk0_Q1
        have hl1_Q2 : Q2.qf (8 * Q.R + 1) = -1 := by rw [hf_Q2.2.2, pk_un (by omega)]; exact hl1_Q1
        have hEx_Q2V : alr Q V Q2 V 0 Q.R := hEx_Q1V.tr (alr.upd hf_Q2.2.2 he_Q2 (by decide) (by omega))
        refine lv_aload_n hx hb d_Mo_selector_36 rfl (lv_at hl 2 rfl) ?_
        refine lv_iload_n hx hb d_Mo_selector_37 rfl (lv_at hl 1 rfl) ?_
        refine lv_aload_n hx hb d_Mo_selector_38 rfl (lv_at hl 2 rfl) ?_
        refine va_get (D := (dC, dI)) (ci := 13) (v := .ref tv) (C := R_Mo) (T := F_Mo) (N := 30) hx hb hts in_Mo hown hK hP 0 rfl rfl 22 (by decide) (hts _ w_1111) (fun _ h9 => h9) (MFg (by decide) ((rf_ne (by decide) (by decide)).trans ((rs_ne (by decide) (by decide) (by decide) (by decide)).trans h22))) d_Mo_selector_39 ?_
        have hqr : 0 ≤ r1 := by rw [c14]; decide
        have hlt0 := here_in h_r1.symm hqr
        have hPc := hP.sub (ws' := [(mo, .inr (13, MF 30 (rf (rs v Q2 o) i br))), (qx, .inl (cB, NN, .inl f)), (tv, .inr (12, MF 13 (tw V))), (V.au, .inl (cC, V.U, .inl V.un))]) [0, 1, 4, 5] rfl
        have hDc := hD.sub (ws' := [(mo, .inr (13, MF 30 (rf (rs v Q2 o) i br))), (qx, .inl (cB, NN, .inl f)), (tv, .inr (12, MF 13 (tw V))), (V.au, .inl (cC, V.U, .inl V.un))]) [0, 1, 4, 5] (by decide) rfl
        have hKc := hK.sub (tys' := [(cB, .byte), (cC, .char)]) [0, 3] rfl
        have hFc := va_free (wc := [(mo, .inr (13, MF 30 (rf (rs v Q2 o) i br))), (qx, .inl (cB, NN, .inl f)), (tv, .inr (12, MF 13 (tw V))), (V.au, .inl (cC, V.U, .inl V.un))]) hD hS hA [0, 1, 4, 5] rfl
        refine w_same (fun hq0 => ?_)
        refine va_calli (va_runV (As := [.int r1, .ref tv]) (rest := []) ⟨hx, hb, hml, hown, hts⟩ (c_Mo_quoted l dC dI mo H (rs v Q2 o) cB cC qx NN f n K tv V i br r1 hnN (by omega) (by omega) ((rs_ne (by decide) (by decide) (by decide) (by decide)).trans h6) ((rs_ne (by decide) (by decide) (by decide) (by decide)).trans h8) hqr hTk_V (by omega)) (cwV 2 hts (gt_V (own := R_Mo) (C := R_Mo) (i := 200) (y := y_Mo_quoted) i_Mo_quoted w_1261 w_1263 (gt_sel (y := y_Mo_quoted) (n := 30) (by decide +kernel)) w_7) rfl rfl rfl (by decide +kernel) ⟨Nat.le_trans (m := 7) (Nat.le_of_ble_eq_true rfl) (Nat.le_add_right 7 F), Nat.le_trans (m := 200) (Nat.le_of_ble_eq_true rfl) (Nat.le_add_right 200 L)⟩) ⟨me_blind, va_recv hKc hPc (ci := 13) (q0 := 0) rfl rfl, fun U hU hW => ⟨rfl, ⟨hU, by rw [hU]; exact hPc, va_K.moved hW.alike hKc, hDc.weaken (fun _ _ _ _ => trivial)⟩, by rw [hU]; exact ME.call hM hS.2.1 hFc hW⟩⟩ rfl rfl hl.1 rfl (lv_room (Nat.le_of_ble_eq_true rfl)) d_Mo_selector_42 ⟨(hG_Q2V.stepQ (C2 := V.us + (n + 12 - i)) (by omega)).1, (hG_Q2V.stepQ (C2 := V.us + (n + 12 - i)) (by omega)).2⟩) hS (fun q _ h => hFc q h) hFc (fun r0 ⟨V1, us9, j_V1, b_V1⟩ t9 H1 locs ht hvm hw hB hz1 hk1 hS => ?_)
        obtain ⟨⟨hP1, hK1, hD1⟩, hz9⟩ := hB
        rw [ht] at hP1
        rw [ht] at hz9
        obtain ⟨hX_V1, hw⟩ := hw
        have hX_V1 : TX V V1 us9 := hX_V1
        have hXs_V1 := hX_V1.us
        have hln_V1 : us9.length ≤ n + 12 - i := by rcases hw with ⟨_, _, h9, h8⟩ | ⟨_, _, h9, _⟩; exact Nat.le_sub_of_add_le (show us9.length + i ≤ n + 12 by have h8 : us9.length + i + 2 ≤ j_V1 := h8; have h9 : j_V1 ≤ n := h9; omega); exact h9
        obtain ⟨hG_Q2V1, hGc, hGs⟩ := hG_Q2V.tr (hX_V1.gq Q2).1 (Nat.zero_le _) (show V.us + us9.length ≤ V.us + (n + 12 - i) by omega)
        rw [← (hX_V1.gq Q2).2.1] at hGc
        rw [← (hX_V1.gq Q2).2.2] at hGs
        have hz9 : szk H H1 (V1.U - V.U) (2 * (V1.U - V.U)) := hz9
        have hq1 : szk s.heap H1 (cQ Q V Q2 V1) (sQ Q V Q2 V1) := (hq0.trans hz9).mono hGc hGs
        refine w_tight hq1 ?_
        obtain ⟨hP, hD⟩ := va_join (wr := [(Q2.qq, .inl (cI, (8 * Q2.C), .inl Q2.qf)), (Q2.qe, .inl (cL, (3 * Q2.C), .inr (.inl Q2.ef)))]) (w1 := [(mo, .inr (13, MF 30 (rf (rs v Q2 o) j_V1 b_V1))), (qx, .inl (cB, NN, .inl f)), (tv, .inr (12, MF 13 (tw V1))), (V1.au, .inl (cC, V1.U, .inl V1.un))]) hP hD [0, 1, 4, 5] [2, 3] rfl rfl (by decide) (by decide) hk1 hFc hP1 hD1
        generalize H1 = H at hP hS ⊢
        have hP : va_P (dC, dI) classes [(Q2.qq, .inl (cI, (8 * Q2.C), .inl Q2.qf)), (Q2.qe, .inl (cL, (3 * Q2.C), .inr (.inl Q2.ef))), (mo, .inr (13, MF 30 (rf (rs v Q2 o) j_V1 b_V1))), (qx, .inl (cB, NN, .inl f)), (tv, .inr (12, MF 13 (tw V1))), (V1.au, .inl (cC, V1.U, .inl V1.un))] H := hP
        have hD : va_D A [(Q2.qq, .inl (cI, (8 * Q2.C), .inl Q2.qf)), (Q2.qe, .inl (cL, (3 * Q2.C), .inr (.inl Q2.ef))), (mo, .inr (13, MF 30 (rf (rs v Q2 o) j_V1 b_V1))), (qx, .inl (cB, NN, .inl f)), (tv, .inr (12, MF 13 (tw V1))), (V1.au, .inl (cC, V1.U, .inl V1.un))] := hD
        have hP := hP.sub (ws' := [(mo, .inr (13, MF 30 (rf (rs v Q2 o) j_V1 b_V1))), (qx, .inl (cB, NN, .inl f)), (Q2.qq, .inl (cI, (8 * Q2.C), .inl Q2.qf)), (Q2.qe, .inl (cL, (3 * Q2.C), .inr (.inl Q2.ef))), (tv, .inr (12, MF 13 (tw V1))), (V1.au, .inl (cC, V1.U, .inl V1.un))]) [2, 3, 0, 1, 4, 5] rfl
        have hD := hD.sub (ws' := [(mo, .inr (13, MF 30 (rf (rs v Q2 o) j_V1 b_V1))), (qx, .inl (cB, NN, .inl f)), (Q2.qq, .inl (cI, (8 * Q2.C), .inl Q2.qf)), (Q2.qe, .inl (cL, (3 * Q2.C), .inr (.inl Q2.ef))), (tv, .inr (12, MF 13 (tw V1))), (V1.au, .inl (cC, V1.U, .inl V1.un))]) [2, 3, 0, 1, 4, 5] (by decide) rfl
        have hP := hP.sub (ws' := [(mo, .inr (13, MF 30 (rf (rs v Q2 o) j_V1 b_V1))), (qx, .inl (cB, NN, .inl f)), (Q2.qq, .inl (cI, (8 * Q2.C), .inl Q2.qf)), (Q2.qe, .inl (cL, (3 * Q2.C), .inr (.inl Q2.ef))), (tv, .inr (12, MF 13 (tw V1))), (V1.au, .inl (cC, V1.U, .inl V1.un))]) [0, 1, 2, 3, 4, 5] rfl
        have hD := hD.sub (ws' := [(mo, .inr (13, MF 30 (rf (rs v Q2 o) j_V1 b_V1))), (qx, .inl (cB, NN, .inl f)), (Q2.qq, .inl (cI, (8 * Q2.C), .inl Q2.qf)), (Q2.qe, .inl (cL, (3 * Q2.C), .inr (.inl Q2.ef))), (tv, .inr (12, MF 13 (tw V1))), (V1.au, .inl (cC, V1.U, .inl V1.un))]) [0, 1, 2, 3, 4, 5] (by decide) rfl
        rcases hw with ⟨ho_1, ho_2, ho_3, ho_4⟩ | ⟨ho_1, ho_2, ho_3, ho_4⟩
        · have hqt_V1 : qtQ f n r1 i = some (us9, j_V1) := ho_2
          have ho_3 : j_V1 ≤ n := ho_3
          have ho_4 : us9.length + i + 2 ≤ j_V1 := ho_4
          have hTk_V1 := hX_V1.ok hTk_V (by omega)
          subst ho_1
          have hEx_Q2V1 : alr Q V Q2 V1 0 Q.R := hEx_Q2V.tr hX_V1.alr
          have hqb_Q2V1 : Q2.R ≤ Q2.C ∧ Q2.C ≤ 100000 := ⟨hQk_Q2.2.2.1, hQk_Q2.2.1⟩
          have hfit_Q2V1 := hG_Q2V1.fits
          refine lv_if_ne (tgt := 50) hx hb d_Mo_selector_45 (by decide) (fun _ => ?_) (fun h => absurd h (by decide))
          refine lv_aload_n hx hb d_Mo_selector_50 rfl (lv_at hl 2 rfl) ?_
          refine lv_iload_n hx hb d_Mo_selector_51 rfl (lv_at hl 0 rfl) ?_
          refine lv_iconst (v := 3) hx hb d_Mo_selector_52 (by decide) ?_
          refine lv_aload_n hx hb d_Mo_selector_53 rfl (lv_at hl 2 rfl) ?_
          refine va_get (D := (dC, dI)) (ci := 13) (v := .ref tv) (C := R_Mo) (T := F_Mo) (N := 30) hx hb hts in_Mo hown hK hP 0 rfl rfl 22 (by decide) (hts _ w_1111) (fun _ h9 => h9) (MFg (by decide) ((rf_ne (by decide) (by decide)).trans ((rs_ne (by decide) (by decide) (by decide) (by decide)).trans h22))) d_Mo_selector_54 ?_
          refine va_get (D := (dC, dI)) (ci := 12) (v := .int (nI V1.us)) (C := R_Tree) (T := F_Tree) (N := 13) hx hb hts in_Tree hown hK hP 4 rfl rfl 12 (by decide) (hts _ w_1058) (fun _ h9 => h9) (MFg (by decide) rfl) d_Mo_selector_57 ?_
          refine lv_aload_n hx hb d_Mo_selector_60 rfl (lv_at hl 2 rfl) ?_
          refine lv_iload_n hx hb d_Mo_selector_61 rfl (lv_at hl 0 rfl) ?_
          refine lv_iconst (v := 2) hx hb d_Mo_selector_62 (by decide) ?_
          refine W.eq (g2 := F0 m 63 ls [.int (nI 2), .int (nI Q.R), .ref mo, .int (nI V1.us), .int 3, .int (nI Q.R), .ref mo]) rfl ?_
          have hPc := hP.sub (ws' := [(mo, .inr (13, MF 30 (rf (rs v Q2 o) j_V1 b_V1))), (Q2.qq, .inl (cI, (8 * Q2.C), .inl Q2.qf))]) [0, 2] rfl
          have hDc := hD.sub (ws' := [(mo, .inr (13, MF 30 (rf (rs v Q2 o) j_V1 b_V1))), (Q2.qq, .inl (cI, (8 * Q2.C), .inl Q2.qf))]) [0, 2] (by decide) rfl
          have hKc := hK.sub (tys' := [(cI, .int)]) [1] rfl
          have hFc := va_free (wc := [(mo, .inr (13, MF 30 (rf (rs v Q2 o) j_V1 b_V1))), (Q2.qq, .inl (cI, (8 * Q2.C), .inl Q2.qf))]) hD hS hA [0, 2] rfl
          refine va_calli (va_runV (As := [.int (nI Q.R), .int (nI 2)]) (rest := [.int (nI V1.us), .int 3, .int (nI Q.R), .ref mo]) ⟨hx, hb, hml, hown, hts⟩ (c_Mo_field l dC dI mo H (rf (rs v Q2 o) j_V1 b_V1) cI Q2.qq (8 * Q2.C) Q2.qf Q.R 2 (by omega) (by omega) ((rf_ne (by decide) (by decide)).trans rs_19)) (cwV 2 hts (gt_V (own := R_Mo) (C := R_Mo) (i := 286) (y := y_Mo_field) i_Mo_field w_1431 w_1433 (gt_sel (y := y_Mo_field) (n := 30) (by decide +kernel)) w_7) rfl rfl rfl (by decide +kernel) ⟨Nat.le_trans (m := 7) (Nat.le_of_ble_eq_true rfl) (Nat.le_add_right 7 F), Nat.le_trans (m := 200) (Nat.le_of_ble_eq_true rfl) (Nat.le_add_right 200 L)⟩) ⟨mp_blind, va_recv hKc hPc (ci := 13) (q0 := 0) rfl rfl, fun U hU hW => ⟨rfl, hU, by rw [hU]; exact hPc, va_K.moved hW.alike hKc, hDc.weaken (fun _ _ _ _ => trivial)⟩⟩ rfl rfl hl.1 rfl (lv_room (Nat.le_of_ble_eq_true rfl)) d_Mo_selector_63 ⟨hfit_Q2V1.1, hfit_Q2V1.2⟩) hS (fun q _ h => hFc q h) hFc (fun r7 _u t9 H1 locs ht hvm hw hB hz1 hk1 hS => ?_)
          obtain ⟨hP1, hK1, hD1⟩ := hB
          rw [ht] at hP1
          obtain ⟨hP, hD⟩ := va_join (wr := [(qx, .inl (cB, NN, .inl f)), (Q2.qe, .inl (cL, (3 * Q2.C), .inr (.inl Q2.ef))), (tv, .inr (12, MF 13 (tw V1))), (V1.au, .inl (cC, V1.U, .inl V1.un))]) (w1 := [(mo, .inr (13, MF 30 (rf (rs v Q2 o) j_V1 b_V1))), (Q2.qq, .inl (cI, (8 * Q2.C), .inl Q2.qf))]) hP hD [0, 2] [1, 3, 4, 5] rfl rfl (by decide) (by decide) hk1 hFc hP1 hD1
          generalize H1 = H at hP hS ⊢
          have hP : va_P (dC, dI) classes [(qx, .inl (cB, NN, .inl f)), (Q2.qe, .inl (cL, (3 * Q2.C), .inr (.inl Q2.ef))), (tv, .inr (12, MF 13 (tw V1))), (V1.au, .inl (cC, V1.U, .inl V1.un)), (mo, .inr (13, MF 30 (rf (rs v Q2 o) j_V1 b_V1))), (Q2.qq, .inl (cI, (8 * Q2.C), .inl Q2.qf))] H := hP
          have hD : va_D A [(qx, .inl (cB, NN, .inl f)), (Q2.qe, .inl (cL, (3 * Q2.C), .inr (.inl Q2.ef))), (tv, .inr (12, MF 13 (tw V1))), (V1.au, .inl (cC, V1.U, .inl V1.un)), (mo, .inr (13, MF 30 (rf (rs v Q2 o) j_V1 b_V1))), (Q2.qq, .inl (cI, (8 * Q2.C), .inl Q2.qf))] := hD
          have hP := hP.sub (ws' := [(mo, .inr (13, MF 30 (rf (rs v Q2 o) j_V1 b_V1))), (qx, .inl (cB, NN, .inl f)), (Q2.qq, .inl (cI, (8 * Q2.C), .inl Q2.qf)), (Q2.qe, .inl (cL, (3 * Q2.C), .inr (.inl Q2.ef))), (tv, .inr (12, MF 13 (tw V1))), (V1.au, .inl (cC, V1.U, .inl V1.un))]) [4, 0, 5, 1, 2, 3] rfl
          have hD := hD.sub (ws' := [(mo, .inr (13, MF 30 (rf (rs v Q2 o) j_V1 b_V1))), (qx, .inl (cB, NN, .inl f)), (Q2.qq, .inl (cI, (8 * Q2.C), .inl Q2.qf)), (Q2.qe, .inl (cL, (3 * Q2.C), .inr (.inl Q2.ef))), (tv, .inr (12, MF 13 (tw V1))), (V1.au, .inl (cC, V1.U, .inl V1.un))]) [4, 0, 5, 1, 2, 3] (by decide) rfl
          have h_r7 : r7 = Q2.qf (8 * Q.R + 2) := hw
          have h7 : r7 = nI V.us := by rw [h_r7, hf_Q2.2.2]; exact pk_us
          subst h7
          refine lv_isub hx hb d_Mo_selector_66 ?_
          refine W.eq (g2 := F0 m 67 ls [.int (nI us9.length), .int 3, .int (nI Q.R), .ref mo]) (by rw [show ((nI V1.us) - (nI V.us)) = (nI us9.length) from (by rw [hXs_V1]; exact nI_asub _ _)]) ?_
          refine W.eq (g2 := F0 m 67 ls [.int (nI us9.length), .int (nI 3), .int (nI Q.R), .ref mo]) rfl ?_
          have hPc := hP.sub (ws' := [(mo, .inr (13, MF 30 (rf (rs v Q2 o) j_V1 b_V1))), (Q2.qq, .inl (cI, (8 * Q2.C), .inl Q2.qf))]) [0, 2] rfl
          have hDc := hD.sub (ws' := [(mo, .inr (13, MF 30 (rf (rs v Q2 o) j_V1 b_V1))), (Q2.qq, .inl (cI, (8 * Q2.C), .inl Q2.qf))]) [0, 2] (by decide) rfl
          have hKc := hK.sub (tys' := [(cI, .int)]) [1] rfl
          have hFc := va_free (wc := [(mo, .inr (13, MF 30 (rf (rs v Q2 o) j_V1 b_V1))), (Q2.qq, .inl (cI, (8 * Q2.C), .inl Q2.qf))]) hD hS hA [0, 2] rfl
          refine va_callv (va_runV (As := [.int (nI Q.R), .int (nI 3), .int (nI us9.length)]) (rest := []) ⟨hx, hb, hml, hown, hts⟩ (c_Mo_set l dC dI mo H (rf (rs v Q2 o) j_V1 b_V1) cI Q2.qq (8 * Q2.C) Q2.qf Q.R 3 ((nI us9.length)) (by omega) (by omega) ((rf_ne (by decide) (by decide)).trans rs_19)) (cwV 3 hts (gt_V (own := R_Mo) (C := R_Mo) (i := 272) (y := y_Mo_set) i_Mo_set w_1411 w_1413 (gt_sel (y := y_Mo_set) (n := 30) (by decide +kernel)) w_7) rfl rfl rfl (by decide +kernel) ⟨Nat.le_trans (m := 7) (Nat.le_of_ble_eq_true rfl) (Nat.le_add_right 7 F), Nat.le_trans (m := 200) (Nat.le_of_ble_eq_true rfl) (Nat.le_add_right 200 L)⟩) ⟨mp_blind, va_recv hKc hPc (ci := 13) (q0 := 0) rfl rfl, fun U hU hW => ⟨rfl, hU, by rw [hU]; exact hPc, va_K.moved hW.alike hKc, hDc.weaken (fun _ _ _ _ => trivial)⟩⟩ rfl rfl hl.1 rfl (lv_room (Nat.le_of_ble_eq_true rfl)) d_Mo_selector_67 ⟨hfit_Q2V1.1, hfit_Q2V1.2⟩) hS (fun q _ h => hFc q h) hFc (fun _u t9 H1 locs ht hvm hw hB hz1 hk1 hS => ?_)
          obtain ⟨hP1, hK1, hD1⟩ := hB
          rw [ht] at hP1
          obtain ⟨hP, hD⟩ := va_join (wr := [(qx, .inl (cB, NN, .inl f)), (Q2.qe, .inl (cL, (3 * Q2.C), .inr (.inl Q2.ef))), (tv, .inr (12, MF 13 (tw V1))), (V1.au, .inl (cC, V1.U, .inl V1.un))]) (w1 := [(mo, .inr (13, MF 30 (rf (rs v Q2 o) j_V1 b_V1))), (Q2.qq, .inl (cI, (8 * Q2.C), .inl (upd Q2.qf (8 * Q.R + 3) ((nI us9.length)))))]) hP hD [0, 2] [1, 3, 4, 5] rfl rfl (by decide) (by decide) hk1 hFc hP1 hD1
          generalize H1 = H at hP hS ⊢
          have hP : va_P (dC, dI) classes [(qx, .inl (cB, NN, .inl f)), (Q2.qe, .inl (cL, (3 * Q2.C), .inr (.inl Q2.ef))), (tv, .inr (12, MF 13 (tw V1))), (V1.au, .inl (cC, V1.U, .inl V1.un)), (mo, .inr (13, MF 30 (rf (rs v Q2 o) j_V1 b_V1))), (Q2.qq, .inl (cI, (8 * Q2.C), .inl (upd Q2.qf (8 * Q.R + 3) ((nI us9.length)))))] H := hP
          have hD : va_D A [(qx, .inl (cB, NN, .inl f)), (Q2.qe, .inl (cL, (3 * Q2.C), .inr (.inl Q2.ef))), (tv, .inr (12, MF 13 (tw V1))), (V1.au, .inl (cC, V1.U, .inl V1.un)), (mo, .inr (13, MF 30 (rf (rs v Q2 o) j_V1 b_V1))), (Q2.qq, .inl (cI, (8 * Q2.C), .inl (upd Q2.qf (8 * Q.R + 3) ((nI us9.length)))))] := hD
          have hP := hP.sub (ws' := [(mo, .inr (13, MF 30 (rf (rs v Q2 o) j_V1 b_V1))), (qx, .inl (cB, NN, .inl f)), (Q2.qq, .inl (cI, (8 * Q2.C), .inl (upd Q2.qf (8 * Q.R + 3) ((nI us9.length))))), (Q2.qe, .inl (cL, (3 * Q2.C), .inr (.inl Q2.ef))), (tv, .inr (12, MF 13 (tw V1))), (V1.au, .inl (cC, V1.U, .inl V1.un))]) [4, 0, 5, 1, 2, 3] rfl
          have hD := hD.sub (ws' := [(mo, .inr (13, MF 30 (rf (rs v Q2 o) j_V1 b_V1))), (qx, .inl (cB, NN, .inl f)), (Q2.qq, .inl (cI, (8 * Q2.C), .inl (upd Q2.qf (8 * Q.R + 3) ((nI us9.length))))), (Q2.qe, .inl (cL, (3 * Q2.C), .inr (.inl Q2.ef))), (tv, .inr (12, MF 13 (tw V1))), (V1.au, .inl (cC, V1.U, .inl V1.un))]) [4, 0, 5, 1, 2, 3] (by decide) rfl
          obtain ⟨Q3, e_Q3⟩ : ∃ z : QS, z = QS.wf Q2 (upd Q2.qf (8 * Q.R + 3) ((nI us9.length))) := ⟨_, rfl⟩
          have hP : va_P (dC, dI) classes [(mo, .inr (13, MF 30 (rf (rs v Q3 o) j_V1 b_V1))), (qx, .inl (cB, NN, .inl f)), (Q3.qq, .inl (cI, (8 * Q3.C), .inl Q3.qf)), (Q3.qe, .inl (cL, (3 * Q3.C), .inr (.inl Q3.ef))), (tv, .inr (12, MF 13 (tw V1))), (V1.au, .inl (cC, V1.U, .inl V1.un))] H := by subst e_Q3; exact hP
          have hD : va_D A [(mo, .inr (13, MF 30 (rf (rs v Q3 o) j_V1 b_V1))), (qx, .inl (cB, NN, .inl f)), (Q3.qq, .inl (cI, (8 * Q3.C), .inl Q3.qf)), (Q3.qe, .inl (cL, (3 * Q3.C), .inr (.inl Q3.ef))), (tv, .inr (12, MF 13 (tw V1))), (V1.au, .inl (cC, V1.U, .inl V1.un))] := by subst e_Q3; exact hD
          have hf_Q3 : Q3.C = Q2.C ∧ Q3.R = Q2.R ∧ Q3.qf = upd Q2.qf (8 * Q.R + 3) ((nI us9.length)) := by rw [e_Q3]; exact ⟨rfl, rfl, rfl⟩
          have he_Q3 : Q3.ef = Q2.ef := by rw [e_Q3]; rfl
          have hQk_Q3 : QOK Q3 := by rw [e_Q3]; exact hQk_Q2
          have hG_Q3V1 : GQ (Q.R + 8 * (n - i) + 4) (V.us + (n + 12 - i)) Q V Q3 V1 := by unfold GQ at hG_Q2V1 ⊢; rw [hf_Q3.1]; exact hG_Q2V1
          refine w_same (fun hq => ?_)
          refine w_tight (k := cQ Q V Q3 V1) (n := sQ Q V Q3 V1) (by unfold cQ sQ at hq ⊢; rw [hf_Q3.1]; exact hq) ?_
          have hR_Q3 := hf_Q3.2.1
          have hqb_Q3V1 : Q3.R ≤ Q3.C ∧ Q3.C ≤ 100000 := ⟨hQk_Q3.2.2.1, hQk_Q3.2.1⟩
          have hfit_Q3V1 := hG_Q3V1.fits
          have hk0_Q3 : Q3.qf (8 * Q.R + 0) = 1 := by rw [hf_Q3.2.2, pk_un (by omega)]; exact hk0_Q2
          have hl1_Q3 : Q3.qf (8 * Q.R + 1) = -1 := by rw [hf_Q3.2.2, pk_un (by omega)]; exact hl1_Q2
          have hEx_Q3V1 : alr Q V Q3 V1 0 Q.R := hEx_Q2V1.tr (alr.upd hf_Q3.2.2 he_Q3 (by decide) (by omega))
          refine lv_iload_n hx hb d_Mo_selector_70 rfl (lv_at hl 0 rfl) ?_
          have hfin : selP f n (orL f n) true i = some (j_V1, true, namS us9) := by
            unfold selP
            rw [if_pos (Or.inr (h_r1.symm.trans c14))]
            rw [← h_r1, hqt_V1]; rfl
          have hu9 := qtQ_uok (Or.inr c14) hqt_V1
          have hNM : NMq Q3 V1 Q.R us9 := ⟨V.us, us9.length, by rw [hf_Q3.2.2, pk_un (by omega), hf_Q2.2.2]; exact pk_us, by rw [hf_Q3.2.2]; exact pk_us, by omega, by rw [hX_V1.un.2]; exact hu9.2⟩
          have hSE : SELp O Q3 V1 Q.R Q3.R Q.R (namS us9) := ⟨Nat.le_refl _, by omega, Or.inl ⟨hk0_Q3, us9, hNM, rfl⟩⟩
          refine w_same (fun hq => ?_)
          refine W.widen (k := kcap Q (Q.R + 8 * (n - i) + 4) + qcap V (V.us + (n + 12 - i))) (n := 22 * kcap Q (Q.R + 8 * (n - i) + 4) + 2 * qcap V (V.us + (n + 12 - i))) hfit_Q3V1.1 hfit_Q3V1.2 ?_
          have hPo : QPo n i 4 Q V (Q3, V1, j_V1, b_V1, o) := ⟨hQk_Q3, hG_Q3V1, ⟨us9, hX_V1, by omega⟩, by show Q.R ≤ Q3.R; omega, by show Q3.R ≤ Q.R + 8 * (n - i) + 4; omega⟩
          exact W.iret (v := nI Q.R) hx hb hr (fun t9 ht hW => ⟨⟨nI Q.R, (Q3, V1, j_V1, b_V1, o), rfl, ⟨hPo, Or.inl ⟨true, namS us9, rfl, hfin, hSE, ⟨fun _ => by rw [hk0_Q3]; decide, fun _ => rfl⟩, hl1_Q3, hEx_Q3V1, by show Q3.R + 8 * i + 7 ≤ Q.R + 8 * j_V1; omega, by show V1.us + i ≤ V.us + j_V1; omega, by show j_V1 ≤ n; omega, by show Q.R < Q3.R; omega, rfl⟩⟩, ⟨by rw [ht]; exact hP, va_K.moved hW.alike hK, hD⟩, by rw [ht]; exact hq⟩, hS.F ht⟩) hS.2.2 d_Mo_selector_71
        · have hqt_V1 : qtQ f n r1 i = none := ho_2
          clear ho_3 ho_4
          have hTk_V1 := hX_V1.ok hTk_V (by omega)
          subst ho_1
          have hEx_Q2V1 : alr Q V Q2 V1 0 Q.R := hEx_Q2V.tr hX_V1.alr
          have hqb_Q2V1 : Q2.R ≤ Q2.C ∧ Q2.C ≤ 100000 := ⟨hQk_Q2.2.2.1, hQk_Q2.2.1⟩
          have hfit_Q2V1 := hG_Q2V1.fits
          refine lv_if_ne (tgt := 50) hx hb d_Mo_selector_45 (by decide) (fun h => absurd h (by decide)) (fun _ => ?_)
          refine lv_iconst (v := (-1)) hx hb d_Mo_selector_48 (by decide) ?_
          have hfin : selP f n (orL f n) true i = none := by
            unfold selP
            rw [if_pos (Or.inr (h_r1.symm.trans c14))]
            rw [← h_r1, hqt_V1]; rfl
          refine w_same (fun hq => ?_)
          refine W.widen (k := kcap Q (Q.R + 8 * (n - i) + 4) + qcap V (V.us + (n + 12 - i))) (n := 22 * kcap Q (Q.R + 8 * (n - i) + 4) + 2 * qcap V (V.us + (n + 12 - i))) hfit_Q2V1.1 hfit_Q2V1.2 ?_
          have hPo : QPo n i 4 Q V (Q2, V1, j_V1, b_V1, o) := ⟨hQk_Q2, hG_Q2V1, ⟨us9, hX_V1, by omega⟩, by show Q.R ≤ Q2.R; omega, by show Q2.R ≤ Q.R + 8 * (n - i) + 4; omega⟩
          exact W.iret (v := -1) hx hb hr (fun t9 ht hW => ⟨⟨-1, (Q2, V1, j_V1, b_V1, o), rfl, ⟨hPo, Or.inr ⟨rfl, hfin⟩⟩, ⟨by rw [ht]; exact hP, va_K.moved hW.alike hK, hD⟩, by rw [ht]; exact hq⟩, hS.F ht⟩) hS.2.2 d_Mo_selector_49
  · rintro _ H locs ls hI185 hP hD hS hl
    have hP : va_P (dC, dI) classes [(mo, .inr (13, MF 30 (rf (rs v Q o) i br))), (qx, .inl (cB, NN, .inl f)), (Q.qq, .inl (cI, (8 * Q.C), .inl Q.qf)), (Q.qe, .inl (cL, (3 * Q.C), .inr (.inl Q.ef))), (tv, .inr (12, MF 13 (tw V))), (V.au, .inl (cC, V.U, .inl V.un))] H := hP
    have hD : va_D A [(mo, .inr (13, MF 30 (rf (rs v Q o) i br))), (qx, .inl (cB, NN, .inl f)), (Q.qq, .inl (cI, (8 * Q.C), .inl Q.qf)), (Q.qe, .inl (cL, (3 * Q.C), .inr (.inl Q.ef))), (tv, .inr (12, MF 13 (tw V))), (V.au, .inl (cC, V.U, .inl V.un))] := hD
    have hl : lv_has ls 5 [(0, .ref mo), (1, .int 1), (2, .int r1)] := hl
    obtain ⟨hCn, hC⟩ := hI185
    have hlt185 : i < n := here_l32 (by rw [← h_r1]; rcases hC with h | h | h; rw [h]; decide; exact fun q => absurd (Int32.lt_of_le_of_lt h.1 q) (by decide); rw [h]; decide)
    refine lv_aload_n hx hb d_Mo_selector_185 rfl (lv_at hl 0 rfl) ?_
    refine lv_iconst (v := 3) hx hb d_Mo_selector_186 (by decide) ?_
    have hPc := hP.sub (ws' := [(mo, .inr (13, MF 30 (rf (rs v Q o) i br))), (Q.qq, .inl (cI, (8 * Q.C), .inl Q.qf)), (Q.qe, .inl (cL, (3 * Q.C), .inr (.inl Q.ef)))]) [0, 2, 3] rfl
    have hDc := hD.sub (ws' := [(mo, .inr (13, MF 30 (rf (rs v Q o) i br))), (Q.qq, .inl (cI, (8 * Q.C), .inl Q.qf)), (Q.qe, .inl (cL, (3 * Q.C), .inr (.inl Q.ef)))]) [0, 2, 3] (by decide) rfl
    have hKc := hK.sub (tys' := [(cI, .int), (cL, .long)]) [1, 2] rfl
    have hFc := va_free (wc := [(mo, .inr (13, MF 30 (rf (rs v Q o) i br))), (Q.qq, .inl (cI, (8 * Q.C), .inl Q.qf)), (Q.qe, .inl (cL, (3 * Q.C), .inr (.inl Q.ef)))]) hD hS hA [0, 2, 3] rfl
    refine w_same (fun hq0 => ?_)
    refine va_calli (va_runV (As := [.int 3]) (rest := []) ⟨hx, hb, hml, hown, hts⟩ (c_Mo_row l dC dI mo H v cI cL Q o i br 3 hQk_Q) (cwV 1 hts (gt_V (own := R_Mo) (C := R_Mo) (i := 269) (y := y_Mo_row) i_Mo_row w_1407 w_1409 (gt_sel (y := y_Mo_row) (n := 30) (by decide +kernel)) w_7) rfl rfl rfl (by decide +kernel) ⟨Nat.le_trans (m := 7) (Nat.le_of_ble_eq_true rfl) (Nat.le_add_right 7 F), Nat.le_trans (m := 200) (Nat.le_of_ble_eq_true rfl) (Nat.le_add_right 200 L)⟩) ⟨mp_blind, va_recv hKc hPc (ci := 13) (q0 := 0) rfl rfl, fun U hU hW => ⟨rfl, hU, by rw [hU]; exact hPc, va_K.moved hW.alike hKc, hDc.weaken (fun _ _ _ _ => trivial)⟩⟩ rfl rfl hl.1 rfl (lv_room (Nat.le_of_ble_eq_true rfl)) d_Mo_selector_187 ⟨(QAd.fit hG_QV hQk_Q (by omega)).1, (QAd.fit hG_QV hQk_Q (by omega)).2⟩) hS (fun q _ h => hFc q h) hFc (fun r0 Q1 t9 H1 locs ht hvm hw hB hz1 hk1 hS => ?_)
    obtain ⟨⟨hP1, hK1, hD1⟩, hz9⟩ := hB
    rw [ht] at hP1
    rw [ht] at hz9
    obtain ⟨hr0, hA_Q1⟩ := hw
    have hA_Q1 : QAd Q Q1 3 := hA_Q1
    obtain ⟨hQk_Q1, hGa, hGb, hGd, hR_Q1⟩ := hA_Q1.gq hQk_Q (by omega) V
    obtain ⟨hG_Q1V, hGc, hGs⟩ := hG_QV.tr hGa (show Q.R + 1 ≤ Q.R + 8 * (n - i) + 4 by omega) (Nat.zero_le _)
    have hGc := Nat.le_trans (Nat.add_le_add_left hGb _) hGc
    have hGs := Nat.le_trans (Nat.add_le_add_left hGd _) hGs
    have hq1 : szk s.heap H1 (cQ Q V Q1 V) (sQ Q V Q1 V) := (hq0.trans hz9).mono hGc hGs
    refine w_tight hq1 ?_
    obtain ⟨hP, hD⟩ := va_join (wr := [(qx, .inl (cB, NN, .inl f)), (tv, .inr (12, MF 13 (tw V))), (V.au, .inl (cC, V.U, .inl V.un))]) (w1 := [(mo, .inr (13, MF 30 (rf (rs v Q1 o) i br))), (Q1.qq, .inl (cI, (8 * Q1.C), .inl Q1.qf)), (Q1.qe, .inl (cL, (3 * Q1.C), .inr (.inl Q1.ef)))]) hP hD [0, 2, 3] [1, 4, 5] rfl rfl (by decide) (by decide) hk1 hFc hP1 hD1
    generalize H1 = H at hP hS ⊢
    have hP : va_P (dC, dI) classes [(qx, .inl (cB, NN, .inl f)), (tv, .inr (12, MF 13 (tw V))), (V.au, .inl (cC, V.U, .inl V.un)), (mo, .inr (13, MF 30 (rf (rs v Q1 o) i br))), (Q1.qq, .inl (cI, (8 * Q1.C), .inl Q1.qf)), (Q1.qe, .inl (cL, (3 * Q1.C), .inr (.inl Q1.ef)))] H := hP
    have hD : va_D A [(qx, .inl (cB, NN, .inl f)), (tv, .inr (12, MF 13 (tw V))), (V.au, .inl (cC, V.U, .inl V.un)), (mo, .inr (13, MF 30 (rf (rs v Q1 o) i br))), (Q1.qq, .inl (cI, (8 * Q1.C), .inl Q1.qf)), (Q1.qe, .inl (cL, (3 * Q1.C), .inr (.inl Q1.ef)))] := hD
    have hP := hP.sub (ws' := [(mo, .inr (13, MF 30 (rf (rs v Q1 o) i br))), (qx, .inl (cB, NN, .inl f)), (tv, .inr (12, MF 13 (tw V))), (V.au, .inl (cC, V.U, .inl V.un)), (Q1.qq, .inl (cI, (8 * Q1.C), .inl Q1.qf)), (Q1.qe, .inl (cL, (3 * Q1.C), .inr (.inl Q1.ef)))]) [3, 0, 1, 2, 4, 5] rfl
    have hD := hD.sub (ws' := [(mo, .inr (13, MF 30 (rf (rs v Q1 o) i br))), (qx, .inl (cB, NN, .inl f)), (tv, .inr (12, MF 13 (tw V))), (V.au, .inl (cC, V.U, .inl V.un)), (Q1.qq, .inl (cI, (8 * Q1.C), .inl Q1.qf)), (Q1.qe, .inl (cL, (3 * Q1.C), .inr (.inl Q1.ef)))]) [3, 0, 1, 2, 4, 5] (by decide) rfl
    have hP := hP.sub (ws' := [(mo, .inr (13, MF 30 (rf (rs v Q1 o) i br))), (qx, .inl (cB, NN, .inl f)), (Q1.qq, .inl (cI, (8 * Q1.C), .inl Q1.qf)), (Q1.qe, .inl (cL, (3 * Q1.C), .inr (.inl Q1.ef))), (tv, .inr (12, MF 13 (tw V))), (V.au, .inl (cC, V.U, .inl V.un))]) [0, 1, 4, 5, 2, 3] rfl
    have hD := hD.sub (ws' := [(mo, .inr (13, MF 30 (rf (rs v Q1 o) i br))), (qx, .inl (cB, NN, .inl f)), (Q1.qq, .inl (cI, (8 * Q1.C), .inl Q1.qf)), (Q1.qe, .inl (cL, (3 * Q1.C), .inr (.inl Q1.ef))), (tv, .inr (12, MF 13 (tw V))), (V.au, .inl (cC, V.U, .inl V.un))]) [0, 1, 4, 5, 2, 3] (by decide) rfl
    have hr0 : r0 = nI Q.R := hr0
    subst hr0
    have hqb_Q1V : Q1.R ≤ Q1.C ∧ Q1.C ≤ 100000 := ⟨hQk_Q1.2.2.1, hQk_Q1.2.1⟩
    have hfit_Q1V := hG_Q1V.fits
    have hE_Q1 : alr Q V Q1 V 0 Q.R := ⟨fun r9 k9 _ h1 h2 => hA_Q1.2.2.1 _ (by omega), ⟨fun r9 k9 _ h1 h2 => hA_Q1.2.2.2.1.2 _ (by omega), Nat.le_refl _, fun _ _ => rfl⟩⟩
    have hk0_Q1 : Q1.qf (8 * Q.R + 0) = 3 := hA_Q1.2.2.2.2.1
    have hl1_Q1 : Q1.qf (8 * Q.R + 1) = -1 := hA_Q1.2.2.2.2.2 1 (by decide) (by decide)
    have hEx_Q1V : alr Q V Q1 V 0 Q.R := hE_Q1
    refine lv_istore_n (lv' := [(3, .int (nI Q.R)), (0, .ref mo), (1, .int 1), (2, .int r1)]) hx hb d_Mo_selector_190 rfl hl (by decide) rfl (fun ls hl => ?_)
    refine lv_aload_n hx hb d_Mo_selector_191 rfl (lv_at hl 1 rfl) ?_
    refine lv_iload_n hx hb d_Mo_selector_192 rfl (lv_at hl 0 rfl) ?_
    refine lv_iconst (v := 2) hx hb d_Mo_selector_193 (by decide) ?_
    refine lv_iconst (v := 0) hx hb d_Mo_selector_194 (by decide) ?_
    refine W.eq (g2 := F0 m 195 ls [.int 0, .int (nI 2), .int (nI Q.R), .ref mo]) rfl ?_
    have hPc := hP.sub (ws' := [(mo, .inr (13, MF 30 (rf (rs v Q1 o) i br))), (Q1.qq, .inl (cI, (8 * Q1.C), .inl Q1.qf))]) [0, 2] rfl
    have hDc := hD.sub (ws' := [(mo, .inr (13, MF 30 (rf (rs v Q1 o) i br))), (Q1.qq, .inl (cI, (8 * Q1.C), .inl Q1.qf))]) [0, 2] (by decide) rfl
    have hKc := hK.sub (tys' := [(cI, .int)]) [1] rfl
    have hFc := va_free (wc := [(mo, .inr (13, MF 30 (rf (rs v Q1 o) i br))), (Q1.qq, .inl (cI, (8 * Q1.C), .inl Q1.qf))]) hD hS hA [0, 2] rfl
    refine va_callv (va_runV (As := [.int (nI Q.R), .int (nI 2), .int 0]) (rest := []) ⟨hx, hb, hml, hown, hts⟩ (c_Mo_set l dC dI mo H (rf (rs v Q1 o) i br) cI Q1.qq (8 * Q1.C) Q1.qf Q.R 2 0 (by omega) (by omega) ((rf_ne (by decide) (by decide)).trans rs_19)) (cwV 3 hts (gt_V (own := R_Mo) (C := R_Mo) (i := 272) (y := y_Mo_set) i_Mo_set w_1411 w_1413 (gt_sel (y := y_Mo_set) (n := 30) (by decide +kernel)) w_7) rfl rfl rfl (by decide +kernel) ⟨Nat.le_trans (m := 7) (Nat.le_of_ble_eq_true rfl) (Nat.le_add_right 7 F), Nat.le_trans (m := 200) (Nat.le_of_ble_eq_true rfl) (Nat.le_add_right 200 L)⟩) ⟨mp_blind, va_recv hKc hPc (ci := 13) (q0 := 0) rfl rfl, fun U hU hW => ⟨rfl, hU, by rw [hU]; exact hPc, va_K.moved hW.alike hKc, hDc.weaken (fun _ _ _ _ => trivial)⟩⟩ rfl rfl hl.1 rfl (lv_room (Nat.le_of_ble_eq_true rfl)) d_Mo_selector_195 ⟨hfit_Q1V.1, hfit_Q1V.2⟩) hS (fun q _ h => hFc q h) hFc (fun _u t9 H1 locs ht hvm hw hB hz1 hk1 hS => ?_)
    obtain ⟨hP1, hK1, hD1⟩ := hB
    rw [ht] at hP1
    obtain ⟨hP, hD⟩ := va_join (wr := [(qx, .inl (cB, NN, .inl f)), (Q1.qe, .inl (cL, (3 * Q1.C), .inr (.inl Q1.ef))), (tv, .inr (12, MF 13 (tw V))), (V.au, .inl (cC, V.U, .inl V.un))]) (w1 := [(mo, .inr (13, MF 30 (rf (rs v Q1 o) i br))), (Q1.qq, .inl (cI, (8 * Q1.C), .inl (upd Q1.qf (8 * Q.R + 2) 0)))]) hP hD [0, 2] [1, 3, 4, 5] rfl rfl (by decide) (by decide) hk1 hFc hP1 hD1
    generalize H1 = H at hP hS ⊢
    have hP : va_P (dC, dI) classes [(qx, .inl (cB, NN, .inl f)), (Q1.qe, .inl (cL, (3 * Q1.C), .inr (.inl Q1.ef))), (tv, .inr (12, MF 13 (tw V))), (V.au, .inl (cC, V.U, .inl V.un)), (mo, .inr (13, MF 30 (rf (rs v Q1 o) i br))), (Q1.qq, .inl (cI, (8 * Q1.C), .inl (upd Q1.qf (8 * Q.R + 2) 0)))] H := hP
    have hD : va_D A [(qx, .inl (cB, NN, .inl f)), (Q1.qe, .inl (cL, (3 * Q1.C), .inr (.inl Q1.ef))), (tv, .inr (12, MF 13 (tw V))), (V.au, .inl (cC, V.U, .inl V.un)), (mo, .inr (13, MF 30 (rf (rs v Q1 o) i br))), (Q1.qq, .inl (cI, (8 * Q1.C), .inl (upd Q1.qf (8 * Q.R + 2) 0)))] := hD
    have hP := hP.sub (ws' := [(mo, .inr (13, MF 30 (rf (rs v Q1 o) i br))), (qx, .inl (cB, NN, .inl f)), (Q1.qq, .inl (cI, (8 * Q1.C), .inl (upd Q1.qf (8 * Q.R + 2) 0))), (Q1.qe, .inl (cL, (3 * Q1.C), .inr (.inl Q1.ef))), (tv, .inr (12, MF 13 (tw V))), (V.au, .inl (cC, V.U, .inl V.un))]) [4, 0, 5, 1, 2, 3] rfl
    have hD := hD.sub (ws' := [(mo, .inr (13, MF 30 (rf (rs v Q1 o) i br))), (qx, .inl (cB, NN, .inl f)), (Q1.qq, .inl (cI, (8 * Q1.C), .inl (upd Q1.qf (8 * Q.R + 2) 0))), (Q1.qe, .inl (cL, (3 * Q1.C), .inr (.inl Q1.ef))), (tv, .inr (12, MF 13 (tw V))), (V.au, .inl (cC, V.U, .inl V.un))]) [4, 0, 5, 1, 2, 3] (by decide) rfl
    obtain ⟨Q2, e_Q2⟩ : ∃ z : QS, z = QS.wf Q1 (upd Q1.qf (8 * Q.R + 2) 0) := ⟨_, rfl⟩
    have hP : va_P (dC, dI) classes [(mo, .inr (13, MF 30 (rf (rs v Q2 o) i br))), (qx, .inl (cB, NN, .inl f)), (Q2.qq, .inl (cI, (8 * Q2.C), .inl Q2.qf)), (Q2.qe, .inl (cL, (3 * Q2.C), .inr (.inl Q2.ef))), (tv, .inr (12, MF 13 (tw V))), (V.au, .inl (cC, V.U, .inl V.un))] H := by subst e_Q2; exact hP
    have hD : va_D A [(mo, .inr (13, MF 30 (rf (rs v Q2 o) i br))), (qx, .inl (cB, NN, .inl f)), (Q2.qq, .inl (cI, (8 * Q2.C), .inl Q2.qf)), (Q2.qe, .inl (cL, (3 * Q2.C), .inr (.inl Q2.ef))), (tv, .inr (12, MF 13 (tw V))), (V.au, .inl (cC, V.U, .inl V.un))] := by subst e_Q2; exact hD
    have hf_Q2 : Q2.C = Q1.C ∧ Q2.R = Q1.R ∧ Q2.qf = upd Q1.qf (8 * Q.R + 2) 0 := by rw [e_Q2]; exact ⟨rfl, rfl, rfl⟩
    have he_Q2 : Q2.ef = Q1.ef := by rw [e_Q2]; rfl
    have hQk_Q2 : QOK Q2 := by rw [e_Q2]; exact hQk_Q1
    have hG_Q2V : GQ (Q.R + 8 * (n - i) + 4) (V.us + (n + 12 - i)) Q V Q2 V := by unfold GQ at hG_Q1V ⊢; rw [hf_Q2.1]; exact hG_Q1V
    refine w_same (fun hq => ?_)
    refine w_tight (k := cQ Q V Q2 V) (n := sQ Q V Q2 V) (by unfold cQ sQ at hq ⊢; rw [hf_Q2.1]; exact hq) ?_
    have hR_Q2 := hf_Q2.2.1
    have hqb_Q2V : Q2.R ≤ Q2.C ∧ Q2.C ≤ 100000 := ⟨hQk_Q2.2.2.1, hQk_Q2.2.1⟩
    have hfit_Q2V := hG_Q2V.fits
    have hk0_Q2 : Q2.qf (8 * Q.R + 0) = 3 := by rw [hf_Q2.2.2, pk_un (by omega)]; exact hk0_Q1
    have hl1_Q2 : Q2.qf (8 * Q.R + 1) = -1 := by rw [hf_Q2.2.2, pk_un (by omega)]; exact hl1_Q1
    have hEx_Q2V : alr Q V Q2 V 0 Q.R := hEx_Q1V.tr (alr.upd hf_Q2.2.2 he_Q2 (by decide) (by omega))
    refine w_join (D := (dC, dI)) (cl := classes) (A := A) (H0 := s.heap) (nL := 5) 246 (σ := QS × Nat × Int32 × Option Int64) (fun ⟨Qy, j0, b0, a0⟩ => QOK Qy ∧ GQ (Q.R + 8 * (n - i) + 4) (V.us + (n + 12 - i)) Q V Qy V ∧ Qy.R = Q.R + 1 ∧ Qy.qf (8 * Q.R + 1) = -1 ∧ alr Q V Qy V 0 Q.R ∧ i ≤ j0 ∧ j0 < n ∧ selP f n (orL f n) true i = (slP f n j0).map (fun j => (j.1, false, slcS a0 j.2.1 j.2.2)) ∧ slA Qy Q.R a0) (fun ⟨Qy, j0, b0, a0⟩ => cQ Q V Qy V) (fun ⟨Qy, j0, b0, a0⟩ => sQ Q V Qy V) (fun ⟨Qy, j0, b0, a0⟩ => [(mo, .inr (13, MF 30 (rf (rs v Qy o) j0 b0))), (qx, .inl (cB, NN, .inl f)), (Qy.qq, .inl (cI, (8 * Qy.C), .inl Qy.qf)), (Qy.qe, .inl (cL, (3 * Qy.C), .inr (.inl Qy.ef))), (tv, .inr (12, MF 13 (tw V))), (V.au, .inl (cC, V.U, .inl V.un))]) (fun ⟨Qy, j0, b0, a0⟩ => [(0, .ref mo), (1, .int 1), (2, .int r1), (3, .int (nI Q.R))]) (fun jn246 => ?_) ?_
    · refine lv_iload_n hx hb d_Mo_selector_198 rfl (lv_at hl 3 rfl) ?_
      refine lv_bipush (v := 58) hx hb d_Mo_selector_199 (by decide) ?_
      refine lv_icmp_eq (tgt := 246) hx hb d_Mo_selector_201 (by decide) (fun c201 => ?_) (fun c201 => ?_)
      · have h2_Q2 : Q2.qf (8 * Q.R + 2) = 0 := by rw [hf_Q2.2.2]; exact pk_us
        have hs9 : selP f n (orL f n) true i = (slP f n i).map (fun j => (j.1, false, slcS none j.2.1 j.2.2)) := by rw [hCn]; unfold selT; rw [if_pos (h_r1.symm.trans c201)]
        exact jn246 (Q2, i, br, none) _ _ _ ⟨hQk_Q2, hG_Q2V, by show Q2.R = Q.R + 1; omega, hl1_Q2, hEx_Q2V, by show i ≤ i; omega, hlt185, hs9, slA.st h2_Q2⟩ hP hD hS (lv_sub hl [1, 2, 3, 0] rfl)
      · refine lv_aload_n hx hb d_Mo_selector_204 rfl (lv_at hl 1 rfl) ?_
        refine lv_iload_n hx hb d_Mo_selector_205 rfl (lv_at hl 0 rfl) ?_
        refine lv_iconst (v := 0) hx hb d_Mo_selector_206 (by decide) ?_
        refine W.eq (g2 := F0 m 207 ls [.int (nI 0), .int (nI Q.R), .ref mo]) rfl ?_
        have hPc := hP.sub (ws' := [(mo, .inr (13, MF 30 (rf (rs v Q2 o) i br))), (qx, .inl (cB, NN, .inl f)), (Q2.qq, .inl (cI, (8 * Q2.C), .inl Q2.qf)), (Q2.qe, .inl (cL, (3 * Q2.C), .inr (.inl Q2.ef)))]) [0, 1, 2, 3] rfl
        have hDc := hD.sub (ws' := [(mo, .inr (13, MF 30 (rf (rs v Q2 o) i br))), (qx, .inl (cB, NN, .inl f)), (Q2.qq, .inl (cI, (8 * Q2.C), .inl Q2.qf)), (Q2.qe, .inl (cL, (3 * Q2.C), .inr (.inl Q2.ef)))]) [0, 1, 2, 3] (by decide) rfl
        have hKc := hK.sub (tys' := [(cB, .byte), (cI, .int), (cL, .long)]) [0, 1, 2] rfl
        have hFc := va_free (wc := [(mo, .inr (13, MF 30 (rf (rs v Q2 o) i br))), (qx, .inl (cB, NN, .inl f)), (Q2.qq, .inl (cI, (8 * Q2.C), .inl Q2.qf)), (Q2.qe, .inl (cL, (3 * Q2.C), .inr (.inl Q2.ef)))]) hD hS hA [0, 1, 2, 3] rfl
        refine va_calli (va_runV (As := [.int (nI Q.R), .int (nI 0)]) (rest := []) ⟨hx, hb, hml, hown, hts⟩ (c_Mo_whole l dC dI mo H v cB cI cL qx NN f n Q2 o i br Q.R 0 hnN (by omega) (by omega) h6 h8 hQk_Q2 (by omega) (by decide)) (cwV 2 hts (gt_V (own := R_Mo) (C := R_Mo) (i := 303) (y := y_Mo_whole) i_Mo_whole w_1465 w_1467 (gt_sel (y := y_Mo_whole) (n := 30) (by decide +kernel)) w_7) rfl rfl rfl (by decide +kernel) ⟨Nat.le_trans (m := 7) (Nat.le_of_ble_eq_true rfl) (Nat.le_add_right 7 F), Nat.le_trans (m := 200) (Nat.le_of_ble_eq_true rfl) (Nat.le_add_right 200 L)⟩) ⟨mp_blind, va_recv hKc hPc (ci := 13) (q0 := 0) rfl rfl, fun U hU hW => ⟨rfl, hU, by rw [hU]; exact hPc, va_K.moved hW.alike hKc, hDc.weaken (fun _ _ _ _ => trivial)⟩⟩ rfl rfl hl.1 rfl (lv_room (Nat.le_of_ble_eq_true rfl)) d_Mo_selector_207 ⟨hfit_Q2V.1, hfit_Q2V.2⟩) hS (fun q _ h => hFc q h) hFc (fun r0 ⟨j3, b_j3, qf2, ef2⟩ t9 H1 locs ht hvm hw hB hz1 hk1 hS => ?_)
        obtain ⟨hP1, hK1, hD1⟩ := hB
        rw [ht] at hP1
        obtain ⟨hP, hD⟩ := va_join (wr := [(tv, .inr (12, MF 13 (tw V))), (V.au, .inl (cC, V.U, .inl V.un))]) (w1 := [(mo, .inr (13, MF 30 (rf (rs v Q2 o) j3 b_j3))), (qx, .inl (cB, NN, .inl f)), (Q2.qq, .inl (cI, (8 * Q2.C), .inl qf2)), (Q2.qe, .inl (cL, (3 * Q2.C), .inr (.inl ef2)))]) hP hD [0, 1, 2, 3] [4, 5] rfl rfl (by decide) (by decide) hk1 hFc hP1 hD1
        generalize H1 = H at hP hS ⊢
        have hP : va_P (dC, dI) classes [(tv, .inr (12, MF 13 (tw V))), (V.au, .inl (cC, V.U, .inl V.un)), (mo, .inr (13, MF 30 (rf (rs v Q2 o) j3 b_j3))), (qx, .inl (cB, NN, .inl f)), (Q2.qq, .inl (cI, (8 * Q2.C), .inl qf2)), (Q2.qe, .inl (cL, (3 * Q2.C), .inr (.inl ef2)))] H := hP
        have hD : va_D A [(tv, .inr (12, MF 13 (tw V))), (V.au, .inl (cC, V.U, .inl V.un)), (mo, .inr (13, MF 30 (rf (rs v Q2 o) j3 b_j3))), (qx, .inl (cB, NN, .inl f)), (Q2.qq, .inl (cI, (8 * Q2.C), .inl qf2)), (Q2.qe, .inl (cL, (3 * Q2.C), .inr (.inl ef2)))] := hD
        have hP := hP.sub (ws' := [(mo, .inr (13, MF 30 (rf (rs v Q2 o) j3 b_j3))), (qx, .inl (cB, NN, .inl f)), (Q2.qq, .inl (cI, (8 * Q2.C), .inl qf2)), (Q2.qe, .inl (cL, (3 * Q2.C), .inr (.inl ef2))), (tv, .inr (12, MF 13 (tw V))), (V.au, .inl (cC, V.U, .inl V.un))]) [2, 3, 4, 5, 0, 1] rfl
        have hD := hD.sub (ws' := [(mo, .inr (13, MF 30 (rf (rs v Q2 o) j3 b_j3))), (qx, .inl (cB, NN, .inl f)), (Q2.qq, .inl (cI, (8 * Q2.C), .inl qf2)), (Q2.qe, .inl (cL, (3 * Q2.C), .inr (.inl ef2))), (tv, .inr (12, MF 13 (tw V))), (V.au, .inl (cC, V.U, .inl V.un))]) [2, 3, 4, 5, 0, 1] (by decide) rfl
        rcases hw with ⟨hw1, val_j3, hw2, hw3, hw4, hw5⟩ | ⟨hw1, hw2, hw3, hw4⟩
        · have hw_j3 : whM f n i = some (val_j3, j3) := hw2
          have hw3 : qf2 = upd Q2.qf (8 * Q.R + 2) (Q2.qf (8 * Q.R + 2) ||| 1 <<< (nI 0 &&& 31)) := hw3
          have hw4 : ef2 = vp_updL Q2.ef (3 * Q.R + 0) val_j3 := hw4
          have hn_j3 : j3 ≤ n := hw5
          have hlt_j3 := whM_lt hw_j3
          subst hw1
          obtain ⟨Qa, e_Qa⟩ : ∃ z : QS, z = QS.mk Q2.C Q2.R Q2.qq Q2.qe qf2 ef2 := ⟨_, rfl⟩
          have hP : va_P (dC, dI) classes [(mo, .inr (13, MF 30 (rf (rs v Qa o) j3 b_j3))), (qx, .inl (cB, NN, .inl f)), (Qa.qq, .inl (cI, (8 * Qa.C), .inl Qa.qf)), (Qa.qe, .inl (cL, (3 * Qa.C), .inr (.inl Qa.ef))), (tv, .inr (12, MF 13 (tw V))), (V.au, .inl (cC, V.U, .inl V.un))] H := by subst e_Qa; exact hP
          have hD : va_D A [(mo, .inr (13, MF 30 (rf (rs v Qa o) j3 b_j3))), (qx, .inl (cB, NN, .inl f)), (Qa.qq, .inl (cI, (8 * Qa.C), .inl Qa.qf)), (Qa.qe, .inl (cL, (3 * Qa.C), .inr (.inl Qa.ef))), (tv, .inr (12, MF 13 (tw V))), (V.au, .inl (cC, V.U, .inl V.un))] := by subst e_Qa; exact hD
          have hf_Qa : Qa.C = Q2.C ∧ Qa.R = Q2.R ∧ Qa.qf = qf2 := by rw [e_Qa]; exact ⟨rfl, rfl, rfl⟩
          have he_Qa : Qa.ef = vp_updL Q2.ef (3 * Q.R + 0) val_j3 := by rw [e_Qa]; exact hw4
          have h2_Qa : Qa.qf (8 * Q.R + 2) = Q2.qf (8 * Q.R + 2) ||| 1 <<< (nI 0 &&& 31) := by rw [hf_Qa.2.2, hw3]; exact pk_us
          have hev_Qa : Qa.ef (3 * Q.R + 0) = val_j3 := by rw [he_Qa]; exact updL_s
          have hQk_Qa : QOK Qa := by rw [e_Qa, hw4]; exact ⟨hQk_Q2.1, hQk_Q2.2.1, hQk_Q2.2.2.1, QOK_upd hQk_Q2.2.2.2 (whM_gL hw_j3)⟩
          have hG_QaV : GQ (Q.R + 8 * (n - i) + 4) (V.us + (n + 12 - i)) Q V Qa V := by unfold GQ at hG_Q2V ⊢; rw [hf_Qa.1]; exact hG_Q2V
          refine w_same (fun hq => ?_)
          refine w_tight (k := cQ Q V Qa V) (n := sQ Q V Qa V) (by unfold cQ sQ at hq ⊢; rw [hf_Qa.1]; exact hq) ?_
          have hR_Qa := hf_Qa.2.1
          have hqb_QaV : Qa.R ≤ Qa.C ∧ Qa.C ≤ 100000 := ⟨hQk_Qa.2.2.1, hQk_Qa.2.1⟩
          have hfit_QaV := hG_QaV.fits
          have hk0_Qa : Qa.qf (8 * Q.R + 0) = 3 := by rw [hf_Qa.2.2, hw3, pk_un (by omega)]; exact hk0_Q2
          have hl1_Qa : Qa.qf (8 * Q.R + 1) = -1 := by rw [hf_Qa.2.2, hw3, pk_un (by omega)]; exact hl1_Q2
          have hEx_QaV : alr Q V Qa V 0 Q.R := hEx_Q2V.tr (alr_who (hf_Qa.2.2.trans hw3) he_Qa (by decide) (by omega))
          refine lv_if_ne (tgt := 215) hx hb d_Mo_selector_210 (by decide) (fun _ => ?_) (fun h => absurd h (by decide))
          refine lv_aload_n hx hb d_Mo_selector_215 rfl (lv_at hl 1 rfl) ?_
          refine va_get (D := (dC, dI)) (ci := 13) (v := .int (nI j3)) (C := R_Mo) (T := F_Mo) (N := 30) hx hb hts in_Mo hown hK hP 0 rfl rfl 7 (by decide) (hts _ w_1096) (fun _ h9 => h9) (MFg (by decide) rf_7) d_Mo_selector_216 ?_
          refine lv_istore (lv' := [(4, .int (nI j3)), (3, .int (nI Q.R)), (0, .ref mo), (1, .int 1), (2, .int r1)]) hx hb d_Mo_selector_219 hl (by decide) rfl (fun ls hl => ?_)
          refine lv_aload_n hx hb d_Mo_selector_221 rfl (lv_at hl 2 rfl) ?_
          have hPc := hP.sub (ws' := [(mo, .inr (13, MF 30 (rf (rs v Qa o) j3 b_j3))), (qx, .inl (cB, NN, .inl f))]) [0, 1] rfl
          have hDc := hD.sub (ws' := [(mo, .inr (13, MF 30 (rf (rs v Qa o) j3 b_j3))), (qx, .inl (cB, NN, .inl f))]) [0, 1] (by decide) rfl
          have hKc := hK.sub (tys' := [(cB, .byte)]) [0] rfl
          have hFc := va_free (wc := [(mo, .inr (13, MF 30 (rf (rs v Qa o) j3 b_j3))), (qx, .inl (cB, NN, .inl f))]) hD hS hA [0, 1] rfl
          refine va_callv (va_runV (As := []) (rest := []) ⟨hx, hb, hml, hown, hts⟩ (c_Mo_blanks l dC dI mo H (rf (rs v Qa o) j3 b_j3) cB qx NN f n j3 (by omega) (by omega) (by omega) ((rf_ne (by decide) (by decide)).trans ((rs_ne (by decide) (by decide) (by decide) (by decide)).trans h6)) rf_7 ((rf_ne (by decide) (by decide)).trans ((rs_ne (by decide) (by decide) (by decide) (by decide)).trans h8))) (cwV 0 hts (gt_V (own := R_Mo) (C := R_Mo) (i := 184) (y := y_Mo_blanks) i_Mo_blanks w_1229 w_1231 (gt_sel (y := y_Mo_blanks) (n := 30) (by decide +kernel)) w_7) rfl rfl rfl (by decide +kernel) ⟨Nat.le_trans (m := 7) (Nat.le_of_ble_eq_true rfl) (Nat.le_add_right 7 F), Nat.le_trans (m := 200) (Nat.le_of_ble_eq_true rfl) (Nat.le_add_right 200 L)⟩) ⟨mp_blind, va_recv hKc hPc (ci := 13) (q0 := 0) rfl rfl, fun U hU hW => ⟨rfl, hU, by rw [hU]; exact hPc, va_K.moved hW.alike hKc, hDc.weaken (fun _ _ _ _ => trivial)⟩⟩ rfl rfl hl.1 rfl (lv_room (Nat.le_of_ble_eq_true rfl)) d_Mo_selector_222 ⟨hfit_QaV.1, hfit_QaV.2⟩) hS (fun q _ h => hFc q h) hFc (fun _u t9 H1 locs ht hvm hw hB hz1 hk1 hS => ?_)
          obtain ⟨hP1, hK1, hD1⟩ := hB
          rw [ht] at hP1
          obtain ⟨hP, hD⟩ := va_join (wr := [(Qa.qq, .inl (cI, (8 * Qa.C), .inl Qa.qf)), (Qa.qe, .inl (cL, (3 * Qa.C), .inr (.inl Qa.ef))), (tv, .inr (12, MF 13 (tw V))), (V.au, .inl (cC, V.U, .inl V.un))]) (w1 := [(mo, .inr (13, MF 30 (va_up (rf (rs v Qa o) j3 b_j3) 7 (.int (nI (skipH f n j3)))))), (qx, .inl (cB, NN, .inl f))]) hP hD [0, 1] [2, 3, 4, 5] rfl rfl (by decide) (by decide) hk1 hFc hP1 hD1
          generalize H1 = H at hP hS ⊢
          have hP : va_P (dC, dI) classes [(Qa.qq, .inl (cI, (8 * Qa.C), .inl Qa.qf)), (Qa.qe, .inl (cL, (3 * Qa.C), .inr (.inl Qa.ef))), (tv, .inr (12, MF 13 (tw V))), (V.au, .inl (cC, V.U, .inl V.un)), (mo, .inr (13, MF 30 (va_up (rf (rs v Qa o) j3 b_j3) 7 (.int (nI (skipH f n j3)))))), (qx, .inl (cB, NN, .inl f))] H := hP
          have hD : va_D A [(Qa.qq, .inl (cI, (8 * Qa.C), .inl Qa.qf)), (Qa.qe, .inl (cL, (3 * Qa.C), .inr (.inl Qa.ef))), (tv, .inr (12, MF 13 (tw V))), (V.au, .inl (cC, V.U, .inl V.un)), (mo, .inr (13, MF 30 (va_up (rf (rs v Qa o) j3 b_j3) 7 (.int (nI (skipH f n j3)))))), (qx, .inl (cB, NN, .inl f))] := hD
          have hP := hP.sub (ws' := [(mo, .inr (13, MF 30 (va_up (rf (rs v Qa o) j3 b_j3) 7 (.int (nI (skipH f n j3)))))), (qx, .inl (cB, NN, .inl f)), (Qa.qq, .inl (cI, (8 * Qa.C), .inl Qa.qf)), (Qa.qe, .inl (cL, (3 * Qa.C), .inr (.inl Qa.ef))), (tv, .inr (12, MF 13 (tw V))), (V.au, .inl (cC, V.U, .inl V.un))]) [4, 5, 0, 1, 2, 3] rfl
          have hD := hD.sub (ws' := [(mo, .inr (13, MF 30 (va_up (rf (rs v Qa o) j3 b_j3) 7 (.int (nI (skipH f n j3)))))), (qx, .inl (cB, NN, .inl f)), (Qa.qq, .inl (cI, (8 * Qa.C), .inl Qa.qf)), (Qa.qe, .inl (cL, (3 * Qa.C), .inr (.inl Qa.ef))), (tv, .inr (12, MF 13 (tw V))), (V.au, .inl (cC, V.U, .inl V.un))]) [4, 5, 0, 1, 2, 3] (by decide) rfl
          rw [rf_u7] at hP hD
          have hP : va_P (dC, dI) classes [(mo, .inr (13, MF 30 (rf (rs v Qa o) (skipH f n j3) b_j3))), (qx, .inl (cB, NN, .inl f)), (Qa.qq, .inl (cI, (8 * Qa.C), .inl Qa.qf)), (Qa.qe, .inl (cL, (3 * Qa.C), .inr (.inl Qa.ef))), (tv, .inr (12, MF 13 (tw V))), (V.au, .inl (cC, V.U, .inl V.un))] H := hP
          have hD : va_D A [(mo, .inr (13, MF 30 (rf (rs v Qa o) (skipH f n j3) b_j3))), (qx, .inl (cB, NN, .inl f)), (Qa.qq, .inl (cI, (8 * Qa.C), .inl Qa.qf)), (Qa.qe, .inl (cL, (3 * Qa.C), .inr (.inl Qa.ef))), (tv, .inr (12, MF 13 (tw V))), (V.au, .inl (cC, V.U, .inl V.un))] := hD
          have hsk_225 := skipH_n (f := f) (show j3 ≤ n by omega)
          refine lv_aload_n hx hb d_Mo_selector_225 rfl (lv_at hl 2 rfl) ?_
          have hPc := hP.sub (ws' := [(mo, .inr (13, MF 30 (rf (rs v Qa o) (skipH f n j3) b_j3))), (qx, .inl (cB, NN, .inl f))]) [0, 1] rfl
          have hDc := hD.sub (ws' := [(mo, .inr (13, MF 30 (rf (rs v Qa o) (skipH f n j3) b_j3))), (qx, .inl (cB, NN, .inl f))]) [0, 1] (by decide) rfl
          have hKc := hK.sub (tys' := [(cB, .byte)]) [0] rfl
          have hFc := va_free (wc := [(mo, .inr (13, MF 30 (rf (rs v Qa o) (skipH f n j3) b_j3))), (qx, .inl (cB, NN, .inl f))]) hD hS hA [0, 1] rfl
          refine va_calli (va_runV (As := []) (rest := []) ⟨hx, hb, hml, hown, hts⟩ (c_Mo_c l dC dI mo H (rf (rs v Qa o) (skipH f n j3) b_j3) cB qx NN f n (skipH f n j3) (by omega) (by omega) (by omega) ((rf_ne (by decide) (by decide)).trans ((rs_ne (by decide) (by decide) (by decide) (by decide)).trans h6)) rf_7 ((rf_ne (by decide) (by decide)).trans ((rs_ne (by decide) (by decide) (by decide) (by decide)).trans h8))) (cwV 0 hts (gt_V (own := R_Mo) (C := R_Mo) (i := 147) (y := y_Mo_c) i_Mo_c w_1233 w_1235 (gt_sel (y := y_Mo_c) (n := 30) (by decide +kernel)) w_7) rfl rfl rfl (by decide +kernel) ⟨Nat.le_trans (m := 7) (Nat.le_of_ble_eq_true rfl) (Nat.le_add_right 7 F), Nat.le_trans (m := 200) (Nat.le_of_ble_eq_true rfl) (Nat.le_add_right 200 L)⟩) ⟨mp_blind, va_recv hKc hPc (ci := 13) (q0 := 0) rfl rfl, fun U hU hW => ⟨rfl, hU, by rw [hU]; exact hPc, va_K.moved hW.alike hKc, hDc.weaken (fun _ _ _ _ => trivial)⟩⟩ rfl rfl hl.1 rfl (lv_room (Nat.le_of_ble_eq_true rfl)) d_Mo_selector_226 ⟨hfit_QaV.1, hfit_QaV.2⟩) hS (fun q _ h => hFc q h) hFc (fun r2 _u t9 H1 locs ht hvm hw hB hz1 hk1 hS => ?_)
          obtain ⟨hP1, hK1, hD1⟩ := hB
          rw [ht] at hP1
          obtain ⟨hP, hD⟩ := va_join (wr := [(Qa.qq, .inl (cI, (8 * Qa.C), .inl Qa.qf)), (Qa.qe, .inl (cL, (3 * Qa.C), .inr (.inl Qa.ef))), (tv, .inr (12, MF 13 (tw V))), (V.au, .inl (cC, V.U, .inl V.un))]) (w1 := [(mo, .inr (13, MF 30 (rf (rs v Qa o) (skipH f n j3) b_j3))), (qx, .inl (cB, NN, .inl f))]) hP hD [0, 1] [2, 3, 4, 5] rfl rfl (by decide) (by decide) hk1 hFc hP1 hD1
          generalize H1 = H at hP hS ⊢
          have hP : va_P (dC, dI) classes [(Qa.qq, .inl (cI, (8 * Qa.C), .inl Qa.qf)), (Qa.qe, .inl (cL, (3 * Qa.C), .inr (.inl Qa.ef))), (tv, .inr (12, MF 13 (tw V))), (V.au, .inl (cC, V.U, .inl V.un)), (mo, .inr (13, MF 30 (rf (rs v Qa o) (skipH f n j3) b_j3))), (qx, .inl (cB, NN, .inl f))] H := hP
          have hD : va_D A [(Qa.qq, .inl (cI, (8 * Qa.C), .inl Qa.qf)), (Qa.qe, .inl (cL, (3 * Qa.C), .inr (.inl Qa.ef))), (tv, .inr (12, MF 13 (tw V))), (V.au, .inl (cC, V.U, .inl V.un)), (mo, .inr (13, MF 30 (rf (rs v Qa o) (skipH f n j3) b_j3))), (qx, .inl (cB, NN, .inl f))] := hD
          have hP := hP.sub (ws' := [(mo, .inr (13, MF 30 (rf (rs v Qa o) (skipH f n j3) b_j3))), (qx, .inl (cB, NN, .inl f)), (Qa.qq, .inl (cI, (8 * Qa.C), .inl Qa.qf)), (Qa.qe, .inl (cL, (3 * Qa.C), .inr (.inl Qa.ef))), (tv, .inr (12, MF 13 (tw V))), (V.au, .inl (cC, V.U, .inl V.un))]) [4, 5, 0, 1, 2, 3] rfl
          have hD := hD.sub (ws' := [(mo, .inr (13, MF 30 (rf (rs v Qa o) (skipH f n j3) b_j3))), (qx, .inl (cB, NN, .inl f)), (Qa.qq, .inl (cI, (8 * Qa.C), .inl Qa.qf)), (Qa.qe, .inl (cL, (3 * Qa.C), .inr (.inl Qa.ef))), (tv, .inr (12, MF 13 (tw V))), (V.au, .inl (cC, V.U, .inl V.un))]) [4, 5, 0, 1, 2, 3] (by decide) rfl
          have h_r2 : r2 = hereV f n (skipH f n j3) := hw
          refine lv_bipush (v := 58) hx hb d_Mo_selector_229 (by decide) ?_
          refine lv_icmp_ne (tgt := 238) hx hb d_Mo_selector_231 (by decide) (fun c231 => ?_) (fun c231 => ?_)
          · refine lv_aload_n hx hb d_Mo_selector_238 rfl (lv_at hl 2 rfl) ?_
            refine lv_iload hx hb d_Mo_selector_239 (lv_at hl 0 rfl) ?_
            refine va_put (D := (dC, dI)) (ci := 13) (v := .int (nI j3)) (ty := .int) (C := R_Mo) (T := F_Mo) (N := 30) hx hb hts in_Mo t_Mo t_Mo_ok n_Mo hown hK hP hD hS 0 rfl rfl 7 (by decide) (hts _ w_1096) (fun _ h9 => h9) rfl (by decide +kernel) rfl rfl (by rw [MFl]; decide) d_Mo_selector_241 (fun H locs hP hD hS => ?_)
            rw [MFs (n := 30) (k := 7) (by decide)] at hP hD
            have hP : va_P (dC, dI) classes [(mo, .inr (13, MF 30 (va_up (rf (rs v Qa o) (skipH f n j3) b_j3) 7 (.int (nI j3))))), (qx, .inl (cB, NN, .inl f)), (Qa.qq, .inl (cI, (8 * Qa.C), .inl Qa.qf)), (Qa.qe, .inl (cL, (3 * Qa.C), .inr (.inl Qa.ef))), (tv, .inr (12, MF 13 (tw V))), (V.au, .inl (cC, V.U, .inl V.un))] H := hP
            have hD : va_D A [(mo, .inr (13, MF 30 (va_up (rf (rs v Qa o) (skipH f n j3) b_j3) 7 (.int (nI j3))))), (qx, .inl (cB, NN, .inl f)), (Qa.qq, .inl (cI, (8 * Qa.C), .inl Qa.qf)), (Qa.qe, .inl (cL, (3 * Qa.C), .inr (.inl Qa.ef))), (tv, .inr (12, MF 13 (tw V))), (V.au, .inl (cC, V.U, .inl V.un))] := hD
            rw [rf_u7] at hP hD
            have hP : va_P (dC, dI) classes [(mo, .inr (13, MF 30 (rf (rs v Qa o) j3 b_j3))), (qx, .inl (cB, NN, .inl f)), (Qa.qq, .inl (cI, (8 * Qa.C), .inl Qa.qf)), (Qa.qe, .inl (cL, (3 * Qa.C), .inr (.inl Qa.ef))), (tv, .inr (12, MF 13 (tw V))), (V.au, .inl (cC, V.U, .inl V.un))] H := hP
            have hD : va_D A [(mo, .inr (13, MF 30 (rf (rs v Qa o) j3 b_j3))), (qx, .inl (cB, NN, .inl f)), (Qa.qq, .inl (cI, (8 * Qa.C), .inl Qa.qf)), (Qa.qe, .inl (cL, (3 * Qa.C), .inr (.inl Qa.ef))), (tv, .inr (12, MF 13 (tw V))), (V.au, .inl (cC, V.U, .inl V.un))] := hD
            refine lv_iload_n hx hb d_Mo_selector_244 rfl (lv_at hl 1 rfl) ?_
            have hfin : selP f n (orL f n) true i = some (j3, true, idxS val_j3) := by rw [hCn]; unfold selT; rw [if_neg (fun h => c201 (h_r1.trans h)), hw_j3]; exact if_pos (Or.inl (fun h => c231 (h_r2.trans h)))
            have hSE : SELp O Qa V Q.R Qa.R Q.R (idxS val_j3) := ⟨Nat.le_refl _, by omega, Or.inr (Or.inr (Or.inl ⟨hk0_Qa, by rw [hev_Qa]⟩))⟩
            refine w_same (fun hq => ?_)
            refine W.widen (k := kcap Q (Q.R + 8 * (n - i) + 4) + qcap V (V.us + (n + 12 - i))) (n := 22 * kcap Q (Q.R + 8 * (n - i) + 4) + 2 * qcap V (V.us + (n + 12 - i))) hfit_QaV.1 hfit_QaV.2 ?_
            have hPo : QPo n i 4 Q V (Qa, V, j3, b_j3, o) := ⟨hQk_Qa, hG_QaV, ⟨[], TX.rf hTk_V, Nat.zero_le _⟩, by show Q.R ≤ Qa.R; omega, by show Qa.R ≤ Q.R + 8 * (n - i) + 4; omega⟩
            exact W.iret (v := nI Q.R) hx hb hr (fun t9 ht hW => ⟨⟨nI Q.R, (Qa, V, j3, b_j3, o), rfl, ⟨hPo, Or.inl ⟨true, idxS val_j3, rfl, hfin, hSE, ⟨fun _ => by rw [hk0_Qa]; decide, fun _ => rfl⟩, hl1_Qa, hEx_QaV, by show Qa.R + 8 * i + 7 ≤ Q.R + 8 * j3; omega, by show V.us + i ≤ V.us + j3; omega, by show j3 ≤ n; omega, by show Q.R < Qa.R; omega, rfl⟩⟩, ⟨by rw [ht]; exact hP, va_K.moved hW.alike hK, hD⟩, by rw [ht]; exact hq⟩, hS.F ht⟩) hS.2.2 d_Mo_selector_245
          · refine lv_iload_n hx hb d_Mo_selector_234 rfl (lv_at hl 3 rfl) ?_
            refine lv_if_eq (tgt := 246) hx hb d_Mo_selector_235 (by decide) (fun h => absurd h (by decide)) (fun _ => ?_)
            refine lv_aload_n hx hb d_Mo_selector_238 rfl (lv_at hl 2 rfl) ?_
            refine lv_iload hx hb d_Mo_selector_239 (lv_at hl 0 rfl) ?_
            refine va_put (D := (dC, dI)) (ci := 13) (v := .int (nI j3)) (ty := .int) (C := R_Mo) (T := F_Mo) (N := 30) hx hb hts in_Mo t_Mo t_Mo_ok n_Mo hown hK hP hD hS 0 rfl rfl 7 (by decide) (hts _ w_1096) (fun _ h9 => h9) rfl (by decide +kernel) rfl rfl (by rw [MFl]; decide) d_Mo_selector_241 (fun H locs hP hD hS => ?_)
            rw [MFs (n := 30) (k := 7) (by decide)] at hP hD
            have hP : va_P (dC, dI) classes [(mo, .inr (13, MF 30 (va_up (rf (rs v Qa o) (skipH f n j3) b_j3) 7 (.int (nI j3))))), (qx, .inl (cB, NN, .inl f)), (Qa.qq, .inl (cI, (8 * Qa.C), .inl Qa.qf)), (Qa.qe, .inl (cL, (3 * Qa.C), .inr (.inl Qa.ef))), (tv, .inr (12, MF 13 (tw V))), (V.au, .inl (cC, V.U, .inl V.un))] H := hP
            have hD : va_D A [(mo, .inr (13, MF 30 (va_up (rf (rs v Qa o) (skipH f n j3) b_j3) 7 (.int (nI j3))))), (qx, .inl (cB, NN, .inl f)), (Qa.qq, .inl (cI, (8 * Qa.C), .inl Qa.qf)), (Qa.qe, .inl (cL, (3 * Qa.C), .inr (.inl Qa.ef))), (tv, .inr (12, MF 13 (tw V))), (V.au, .inl (cC, V.U, .inl V.un))] := hD
            rw [rf_u7] at hP hD
            have hP : va_P (dC, dI) classes [(mo, .inr (13, MF 30 (rf (rs v Qa o) j3 b_j3))), (qx, .inl (cB, NN, .inl f)), (Qa.qq, .inl (cI, (8 * Qa.C), .inl Qa.qf)), (Qa.qe, .inl (cL, (3 * Qa.C), .inr (.inl Qa.ef))), (tv, .inr (12, MF 13 (tw V))), (V.au, .inl (cC, V.U, .inl V.un))] H := hP
            have hD : va_D A [(mo, .inr (13, MF 30 (rf (rs v Qa o) j3 b_j3))), (qx, .inl (cB, NN, .inl f)), (Qa.qq, .inl (cI, (8 * Qa.C), .inl Qa.qf)), (Qa.qe, .inl (cL, (3 * Qa.C), .inr (.inl Qa.ef))), (tv, .inr (12, MF 13 (tw V))), (V.au, .inl (cC, V.U, .inl V.un))] := hD
            refine lv_iload_n hx hb d_Mo_selector_244 rfl (lv_at hl 1 rfl) ?_
            have hfin : selP f n (orL f n) true i = some (j3, true, idxS val_j3) := by rw [hCn]; unfold selT; rw [if_neg (fun h => c201 (h_r1.trans h)), hw_j3]; exact if_pos (Or.inr rfl)
            have hSE : SELp O Qa V Q.R Qa.R Q.R (idxS val_j3) := ⟨Nat.le_refl _, by omega, Or.inr (Or.inr (Or.inl ⟨hk0_Qa, by rw [hev_Qa]⟩))⟩
            refine w_same (fun hq => ?_)
            refine W.widen (k := kcap Q (Q.R + 8 * (n - i) + 4) + qcap V (V.us + (n + 12 - i))) (n := 22 * kcap Q (Q.R + 8 * (n - i) + 4) + 2 * qcap V (V.us + (n + 12 - i))) hfit_QaV.1 hfit_QaV.2 ?_
            have hPo : QPo n i 4 Q V (Qa, V, j3, b_j3, o) := ⟨hQk_Qa, hG_QaV, ⟨[], TX.rf hTk_V, Nat.zero_le _⟩, by show Q.R ≤ Qa.R; omega, by show Qa.R ≤ Q.R + 8 * (n - i) + 4; omega⟩
            exact W.iret (v := nI Q.R) hx hb hr (fun t9 ht hW => ⟨⟨nI Q.R, (Qa, V, j3, b_j3, o), rfl, ⟨hPo, Or.inl ⟨true, idxS val_j3, rfl, hfin, hSE, ⟨fun _ => by rw [hk0_Qa]; decide, fun _ => rfl⟩, hl1_Qa, hEx_QaV, by show Qa.R + 8 * i + 7 ≤ Q.R + 8 * j3; omega, by show V.us + i ≤ V.us + j3; omega, by show j3 ≤ n; omega, by show Q.R < Qa.R; omega, rfl⟩⟩, ⟨by rw [ht]; exact hP, va_K.moved hW.alike hK, hD⟩, by rw [ht]; exact hq⟩, hS.F ht⟩) hS.2.2 d_Mo_selector_245
        · have hw_j3 : whM f n i = none := hw2
          have hw3 : qf2 = Q2.qf := hw3
          have hw4 : ef2 = Q2.ef := hw4
          subst hw1
          subst hw3
          subst hw4
          have hP : va_P (dC, dI) classes [(mo, .inr (13, MF 30 (rf (rs v Q2 o) j3 b_j3))), (qx, .inl (cB, NN, .inl f)), (Q2.qq, .inl (cI, (8 * Q2.C), .inl Q2.qf)), (Q2.qe, .inl (cL, (3 * Q2.C), .inr (.inl Q2.ef))), (tv, .inr (12, MF 13 (tw V))), (V.au, .inl (cC, V.U, .inl V.un))] H := hP
          have hD : va_D A [(mo, .inr (13, MF 30 (rf (rs v Q2 o) j3 b_j3))), (qx, .inl (cB, NN, .inl f)), (Q2.qq, .inl (cI, (8 * Q2.C), .inl Q2.qf)), (Q2.qe, .inl (cL, (3 * Q2.C), .inr (.inl Q2.ef))), (tv, .inr (12, MF 13 (tw V))), (V.au, .inl (cC, V.U, .inl V.un))] := hD
          refine lv_if_ne (tgt := 215) hx hb d_Mo_selector_210 (by decide) (fun h => absurd h (by decide)) (fun _ => ?_)
          refine lv_iconst (v := (-1)) hx hb d_Mo_selector_213 (by decide) ?_
          have hfin : selP f n (orL f n) true i = none := by rw [hCn]; unfold selT; rw [if_neg (fun h => c201 (h_r1.trans h)), hw_j3]
          refine w_same (fun hq => ?_)
          refine W.widen (k := kcap Q (Q.R + 8 * (n - i) + 4) + qcap V (V.us + (n + 12 - i))) (n := 22 * kcap Q (Q.R + 8 * (n - i) + 4) + 2 * qcap V (V.us + (n + 12 - i))) hfit_Q2V.1 hfit_Q2V.2 ?_
          have hPo : QPo n i 4 Q V (Q2, V, j3, b_j3, o) := ⟨hQk_Q2, hG_Q2V, ⟨[], TX.rf hTk_V, Nat.zero_le _⟩, by show Q.R ≤ Q2.R; omega, by show Q2.R ≤ Q.R + 8 * (n - i) + 4; omega⟩
          exact W.iret (v := -1) hx hb hr (fun t9 ht hW => ⟨⟨-1, (Q2, V, j3, b_j3, o), rfl, ⟨hPo, Or.inr ⟨rfl, hfin⟩⟩, ⟨by rw [ht]; exact hP, va_K.moved hW.alike hK, hD⟩, by rw [ht]; exact hq⟩, hS.F ht⟩) hS.2.2 d_Mo_selector_214
    · rintro ⟨Qy, j0, b0, a0⟩ H locs ls hI246 hP hD hS hl
      have hP : va_P (dC, dI) classes [(mo, .inr (13, MF 30 (rf (rs v Qy o) j0 b0))), (qx, .inl (cB, NN, .inl f)), (Qy.qq, .inl (cI, (8 * Qy.C), .inl Qy.qf)), (Qy.qe, .inl (cL, (3 * Qy.C), .inr (.inl Qy.ef))), (tv, .inr (12, MF 13 (tw V))), (V.au, .inl (cC, V.U, .inl V.un))] H := hP
      have hD : va_D A [(mo, .inr (13, MF 30 (rf (rs v Qy o) j0 b0))), (qx, .inl (cB, NN, .inl f)), (Qy.qq, .inl (cI, (8 * Qy.C), .inl Qy.qf)), (Qy.qe, .inl (cL, (3 * Qy.C), .inr (.inl Qy.ef))), (tv, .inr (12, MF 13 (tw V))), (V.au, .inl (cC, V.U, .inl V.un))] := hD
      have hl : lv_has ls 5 [(0, .ref mo), (1, .int 1), (2, .int r1), (3, .int (nI Q.R))] := hl
      obtain ⟨hQk_Qy, hG_QyV, hR_Qy, hl1_Qy, hEx_QyV, hj1, hj2, hsl, hsa⟩ := hI246
      have hqb_QyV : Qy.R ≤ Qy.C ∧ Qy.C ≤ 100000 := ⟨hQk_Qy.2.2.1, hQk_Qy.2.1⟩
      have hfit_QyV := hG_QyV.fits
      obtain ⟨kd9, hk0_Qy⟩ : ∃ z9, Qy.qf (8 * Q.R + 0) = z9 := ⟨_, rfl⟩
      refine lv_aload_n hx hb d_Mo_selector_246 rfl (lv_at hl 0 rfl) ?_
      refine lv_iload_n hx hb d_Mo_selector_247 rfl (lv_at hl 3 rfl) ?_
      refine lv_iconst (v := 0) hx hb d_Mo_selector_248 (by decide) ?_
      refine lv_iconst (v := 4) hx hb d_Mo_selector_249 (by decide) ?_
      refine W.eq (g2 := F0 m 250 ls [.int 4, .int (nI 0), .int (nI Q.R), .ref mo]) rfl ?_
      have hPc := hP.sub (ws' := [(mo, .inr (13, MF 30 (rf (rs v Qy o) j0 b0))), (Qy.qq, .inl (cI, (8 * Qy.C), .inl Qy.qf))]) [0, 2] rfl
      have hDc := hD.sub (ws' := [(mo, .inr (13, MF 30 (rf (rs v Qy o) j0 b0))), (Qy.qq, .inl (cI, (8 * Qy.C), .inl Qy.qf))]) [0, 2] (by decide) rfl
      have hKc := hK.sub (tys' := [(cI, .int)]) [1] rfl
      have hFc := va_free (wc := [(mo, .inr (13, MF 30 (rf (rs v Qy o) j0 b0))), (Qy.qq, .inl (cI, (8 * Qy.C), .inl Qy.qf))]) hD hS hA [0, 2] rfl
      refine va_callv (va_runV (As := [.int (nI Q.R), .int (nI 0), .int 4]) (rest := []) ⟨hx, hb, hml, hown, hts⟩ (c_Mo_set l dC dI mo H (rf (rs v Qy o) j0 b0) cI Qy.qq (8 * Qy.C) Qy.qf Q.R 0 4 (by omega) (by omega) ((rf_ne (by decide) (by decide)).trans rs_19)) (cwV 3 hts (gt_V (own := R_Mo) (C := R_Mo) (i := 272) (y := y_Mo_set) i_Mo_set w_1411 w_1413 (gt_sel (y := y_Mo_set) (n := 30) (by decide +kernel)) w_7) rfl rfl rfl (by decide +kernel) ⟨Nat.le_trans (m := 7) (Nat.le_of_ble_eq_true rfl) (Nat.le_add_right 7 F), Nat.le_trans (m := 200) (Nat.le_of_ble_eq_true rfl) (Nat.le_add_right 200 L)⟩) ⟨mp_blind, va_recv hKc hPc (ci := 13) (q0 := 0) rfl rfl, fun U hU hW => ⟨rfl, hU, by rw [hU]; exact hPc, va_K.moved hW.alike hKc, hDc.weaken (fun _ _ _ _ => trivial)⟩⟩ rfl rfl hl.1 rfl (lv_room (Nat.le_of_ble_eq_true rfl)) d_Mo_selector_250 ⟨hfit_QyV.1, hfit_QyV.2⟩) hS (fun q _ h => hFc q h) hFc (fun _u t9 H1 locs ht hvm hw hB hz1 hk1 hS => ?_)
      obtain ⟨hP1, hK1, hD1⟩ := hB
      rw [ht] at hP1
      obtain ⟨hP, hD⟩ := va_join (wr := [(qx, .inl (cB, NN, .inl f)), (Qy.qe, .inl (cL, (3 * Qy.C), .inr (.inl Qy.ef))), (tv, .inr (12, MF 13 (tw V))), (V.au, .inl (cC, V.U, .inl V.un))]) (w1 := [(mo, .inr (13, MF 30 (rf (rs v Qy o) j0 b0))), (Qy.qq, .inl (cI, (8 * Qy.C), .inl (upd Qy.qf (8 * Q.R + 0) 4)))]) hP hD [0, 2] [1, 3, 4, 5] rfl rfl (by decide) (by decide) hk1 hFc hP1 hD1
      generalize H1 = H at hP hS ⊢
      have hP : va_P (dC, dI) classes [(qx, .inl (cB, NN, .inl f)), (Qy.qe, .inl (cL, (3 * Qy.C), .inr (.inl Qy.ef))), (tv, .inr (12, MF 13 (tw V))), (V.au, .inl (cC, V.U, .inl V.un)), (mo, .inr (13, MF 30 (rf (rs v Qy o) j0 b0))), (Qy.qq, .inl (cI, (8 * Qy.C), .inl (upd Qy.qf (8 * Q.R + 0) 4)))] H := hP
      have hD : va_D A [(qx, .inl (cB, NN, .inl f)), (Qy.qe, .inl (cL, (3 * Qy.C), .inr (.inl Qy.ef))), (tv, .inr (12, MF 13 (tw V))), (V.au, .inl (cC, V.U, .inl V.un)), (mo, .inr (13, MF 30 (rf (rs v Qy o) j0 b0))), (Qy.qq, .inl (cI, (8 * Qy.C), .inl (upd Qy.qf (8 * Q.R + 0) 4)))] := hD
      have hP := hP.sub (ws' := [(mo, .inr (13, MF 30 (rf (rs v Qy o) j0 b0))), (qx, .inl (cB, NN, .inl f)), (Qy.qq, .inl (cI, (8 * Qy.C), .inl (upd Qy.qf (8 * Q.R + 0) 4))), (Qy.qe, .inl (cL, (3 * Qy.C), .inr (.inl Qy.ef))), (tv, .inr (12, MF 13 (tw V))), (V.au, .inl (cC, V.U, .inl V.un))]) [4, 0, 5, 1, 2, 3] rfl
      have hD := hD.sub (ws' := [(mo, .inr (13, MF 30 (rf (rs v Qy o) j0 b0))), (qx, .inl (cB, NN, .inl f)), (Qy.qq, .inl (cI, (8 * Qy.C), .inl (upd Qy.qf (8 * Q.R + 0) 4))), (Qy.qe, .inl (cL, (3 * Qy.C), .inr (.inl Qy.ef))), (tv, .inr (12, MF 13 (tw V))), (V.au, .inl (cC, V.U, .inl V.un))]) [4, 0, 5, 1, 2, 3] (by decide) rfl
      obtain ⟨Qs, e_Qs⟩ : ∃ z : QS, z = QS.wf Qy (upd Qy.qf (8 * Q.R + 0) 4) := ⟨_, rfl⟩
      have hP : va_P (dC, dI) classes [(mo, .inr (13, MF 30 (rf (rs v Qs o) j0 b0))), (qx, .inl (cB, NN, .inl f)), (Qs.qq, .inl (cI, (8 * Qs.C), .inl Qs.qf)), (Qs.qe, .inl (cL, (3 * Qs.C), .inr (.inl Qs.ef))), (tv, .inr (12, MF 13 (tw V))), (V.au, .inl (cC, V.U, .inl V.un))] H := by subst e_Qs; exact hP
      have hD : va_D A [(mo, .inr (13, MF 30 (rf (rs v Qs o) j0 b0))), (qx, .inl (cB, NN, .inl f)), (Qs.qq, .inl (cI, (8 * Qs.C), .inl Qs.qf)), (Qs.qe, .inl (cL, (3 * Qs.C), .inr (.inl Qs.ef))), (tv, .inr (12, MF 13 (tw V))), (V.au, .inl (cC, V.U, .inl V.un))] := by subst e_Qs; exact hD
      have hf_Qs : Qs.C = Qy.C ∧ Qs.R = Qy.R ∧ Qs.qf = upd Qy.qf (8 * Q.R + 0) 4 := by rw [e_Qs]; exact ⟨rfl, rfl, rfl⟩
      have he_Qs : Qs.ef = Qy.ef := by rw [e_Qs]; rfl
      have hQk_Qs : QOK Qs := by rw [e_Qs]; exact hQk_Qy
      have hG_QsV : GQ (Q.R + 8 * (n - i) + 4) (V.us + (n + 12 - i)) Q V Qs V := by unfold GQ at hG_QyV ⊢; rw [hf_Qs.1]; exact hG_QyV
      refine w_same (fun hq => ?_)
      refine w_tight (k := cQ Q V Qs V) (n := sQ Q V Qs V) (by unfold cQ sQ at hq ⊢; rw [hf_Qs.1]; exact hq) ?_
      have hR_Qs := hf_Qs.2.1
      have hqb_QsV : Qs.R ≤ Qs.C ∧ Qs.C ≤ 100000 := ⟨hQk_Qs.2.2.1, hQk_Qs.2.1⟩
      have hfit_QsV := hG_QsV.fits
      have hk0_Qs : Qs.qf (8 * Q.R + 0) = 4 := by rw [hf_Qs.2.2]; exact pk_us
      have hl1_Qs : Qs.qf (8 * Q.R + 1) = -1 := by rw [hf_Qs.2.2, pk_un (by omega)]; exact hl1_Qy
      have hEx_QsV : alr Q V Qs V 0 Q.R := hEx_QyV.tr (alr.upd hf_Qs.2.2 he_Qs (by decide) (by omega))
      have hsas : slA Qs Q.R a0 := hsa.set hf_Qs.2.2 he_Qs
      refine w_join (D := (dC, dI)) (cl := classes) (A := A) (H0 := s.heap) (nL := 5) 297 (σ := QS × Nat × Int32 × Option Int64) (fun ⟨Qz, j2, b3, e0⟩ => QOK Qz ∧ GQ (Q.R + 8 * (n - i) + 4) (V.us + (n + 12 - i)) Q V Qz V ∧ Qz.R = Q.R + 1 ∧ Qz.qf (8 * Q.R + 1) = -1 ∧ alr Q V Qz V 0 Q.R ∧ Qz.qf (8 * Q.R + 0) = 4 ∧ i + 1 ≤ j2 ∧ j2 ≤ n ∧ selP f n (orL f n) true i = (slT f n e0 j2).map (fun j => (j.1, false, slcS a0 j.2.1 j.2.2)) ∧ slB Qz Q.R a0 e0) (fun ⟨Qz, j2, b3, e0⟩ => cQ Q V Qz V) (fun ⟨Qz, j2, b3, e0⟩ => sQ Q V Qz V) (fun ⟨Qz, j2, b3, e0⟩ => [(mo, .inr (13, MF 30 (rf (rs v Qz o) j2 b3))), (qx, .inl (cB, NN, .inl f)), (Qz.qq, .inl (cI, (8 * Qz.C), .inl Qz.qf)), (Qz.qe, .inl (cL, (3 * Qz.C), .inr (.inl Qz.ef))), (tv, .inr (12, MF 13 (tw V))), (V.au, .inl (cC, V.U, .inl V.un))]) (fun ⟨Qz, j2, b3, e0⟩ => [(0, .ref mo), (1, .int 1), (2, .int r1), (3, .int (nI Q.R))]) (fun jn297 => ?_) ?_
      · refine lv_aload_n hx hb d_Mo_selector_253 rfl (lv_at hl 0 rfl) ?_
        refine lv_dup hx hb d_Mo_selector_254 rfl ?_
        refine va_get (D := (dC, dI)) (ci := 13) (v := .int (nI j0)) (C := R_Mo) (T := F_Mo) (N := 30) hx hb hts in_Mo hown hK hP 0 rfl rfl 7 (by decide) (hts _ w_1096) (fun _ h9 => h9) (MFg (by decide) rf_7) d_Mo_selector_255 ?_
        refine lv_iconst (v := 1) hx hb d_Mo_selector_258 (by decide) ?_
        refine lv_iadd hx hb d_Mo_selector_259 ?_
        refine W.eq (g2 := F0 m 260 ls [.int (nI (j0 + 1)), .ref mo]) (by rw [show ((nI j0) + 1) = (nI (j0 + 1)) from nI_1 _]) ?_
        refine va_put (D := (dC, dI)) (ci := 13) (v := .int (nI (j0 + 1))) (ty := .int) (C := R_Mo) (T := F_Mo) (N := 30) hx hb hts in_Mo t_Mo t_Mo_ok n_Mo hown hK hP hD hS 0 rfl rfl 7 (by decide) (hts _ w_1096) (fun _ h9 => h9) rfl (by decide +kernel) rfl rfl (by rw [MFl]; decide) d_Mo_selector_260 (fun H locs hP hD hS => ?_)
        rw [MFs (n := 30) (k := 7) (by decide)] at hP hD
        have hP : va_P (dC, dI) classes [(mo, .inr (13, MF 30 (va_up (rf (rs v Qs o) j0 b0) 7 (.int (nI (j0 + 1)))))), (qx, .inl (cB, NN, .inl f)), (Qs.qq, .inl (cI, (8 * Qs.C), .inl Qs.qf)), (Qs.qe, .inl (cL, (3 * Qs.C), .inr (.inl Qs.ef))), (tv, .inr (12, MF 13 (tw V))), (V.au, .inl (cC, V.U, .inl V.un))] H := hP
        have hD : va_D A [(mo, .inr (13, MF 30 (va_up (rf (rs v Qs o) j0 b0) 7 (.int (nI (j0 + 1)))))), (qx, .inl (cB, NN, .inl f)), (Qs.qq, .inl (cI, (8 * Qs.C), .inl Qs.qf)), (Qs.qe, .inl (cL, (3 * Qs.C), .inr (.inl Qs.ef))), (tv, .inr (12, MF 13 (tw V))), (V.au, .inl (cC, V.U, .inl V.un))] := hD
        rw [rf_u7] at hP hD
        have hP : va_P (dC, dI) classes [(mo, .inr (13, MF 30 (rf (rs v Qs o) (j0 + 1) b0))), (qx, .inl (cB, NN, .inl f)), (Qs.qq, .inl (cI, (8 * Qs.C), .inl Qs.qf)), (Qs.qe, .inl (cL, (3 * Qs.C), .inr (.inl Qs.ef))), (tv, .inr (12, MF 13 (tw V))), (V.au, .inl (cC, V.U, .inl V.un))] H := hP
        have hD : va_D A [(mo, .inr (13, MF 30 (rf (rs v Qs o) (j0 + 1) b0))), (qx, .inl (cB, NN, .inl f)), (Qs.qq, .inl (cI, (8 * Qs.C), .inl Qs.qf)), (Qs.qe, .inl (cL, (3 * Qs.C), .inr (.inl Qs.ef))), (tv, .inr (12, MF 13 (tw V))), (V.au, .inl (cC, V.U, .inl V.un))] := hD
        refine lv_aload_n hx hb d_Mo_selector_263 rfl (lv_at hl 0 rfl) ?_
        have hPc := hP.sub (ws' := [(mo, .inr (13, MF 30 (rf (rs v Qs o) (j0 + 1) b0))), (qx, .inl (cB, NN, .inl f))]) [0, 1] rfl
        have hDc := hD.sub (ws' := [(mo, .inr (13, MF 30 (rf (rs v Qs o) (j0 + 1) b0))), (qx, .inl (cB, NN, .inl f))]) [0, 1] (by decide) rfl
        have hKc := hK.sub (tys' := [(cB, .byte)]) [0] rfl
        have hFc := va_free (wc := [(mo, .inr (13, MF 30 (rf (rs v Qs o) (j0 + 1) b0))), (qx, .inl (cB, NN, .inl f))]) hD hS hA [0, 1] rfl
        refine va_callv (va_runV (As := []) (rest := []) ⟨hx, hb, hml, hown, hts⟩ (c_Mo_blanks l dC dI mo H (rf (rs v Qs o) (j0 + 1) b0) cB qx NN f n (j0 + 1) (by omega) (by omega) (by omega) ((rf_ne (by decide) (by decide)).trans ((rs_ne (by decide) (by decide) (by decide) (by decide)).trans h6)) rf_7 ((rf_ne (by decide) (by decide)).trans ((rs_ne (by decide) (by decide) (by decide) (by decide)).trans h8))) (cwV 0 hts (gt_V (own := R_Mo) (C := R_Mo) (i := 184) (y := y_Mo_blanks) i_Mo_blanks w_1229 w_1231 (gt_sel (y := y_Mo_blanks) (n := 30) (by decide +kernel)) w_7) rfl rfl rfl (by decide +kernel) ⟨Nat.le_trans (m := 7) (Nat.le_of_ble_eq_true rfl) (Nat.le_add_right 7 F), Nat.le_trans (m := 200) (Nat.le_of_ble_eq_true rfl) (Nat.le_add_right 200 L)⟩) ⟨mp_blind, va_recv hKc hPc (ci := 13) (q0 := 0) rfl rfl, fun U hU hW => ⟨rfl, hU, by rw [hU]; exact hPc, va_K.moved hW.alike hKc, hDc.weaken (fun _ _ _ _ => trivial)⟩⟩ rfl rfl hl.1 rfl (lv_room (Nat.le_of_ble_eq_true rfl)) d_Mo_selector_264 ⟨hfit_QsV.1, hfit_QsV.2⟩) hS (fun q _ h => hFc q h) hFc (fun _u t9 H1 locs ht hvm hw hB hz1 hk1 hS => ?_)
        obtain ⟨hP1, hK1, hD1⟩ := hB
        rw [ht] at hP1
        obtain ⟨hP, hD⟩ := va_join (wr := [(Qs.qq, .inl (cI, (8 * Qs.C), .inl Qs.qf)), (Qs.qe, .inl (cL, (3 * Qs.C), .inr (.inl Qs.ef))), (tv, .inr (12, MF 13 (tw V))), (V.au, .inl (cC, V.U, .inl V.un))]) (w1 := [(mo, .inr (13, MF 30 (va_up (rf (rs v Qs o) (j0 + 1) b0) 7 (.int (nI (skipH f n (j0 + 1))))))), (qx, .inl (cB, NN, .inl f))]) hP hD [0, 1] [2, 3, 4, 5] rfl rfl (by decide) (by decide) hk1 hFc hP1 hD1
        generalize H1 = H at hP hS ⊢
        have hP : va_P (dC, dI) classes [(Qs.qq, .inl (cI, (8 * Qs.C), .inl Qs.qf)), (Qs.qe, .inl (cL, (3 * Qs.C), .inr (.inl Qs.ef))), (tv, .inr (12, MF 13 (tw V))), (V.au, .inl (cC, V.U, .inl V.un)), (mo, .inr (13, MF 30 (va_up (rf (rs v Qs o) (j0 + 1) b0) 7 (.int (nI (skipH f n (j0 + 1))))))), (qx, .inl (cB, NN, .inl f))] H := hP
        have hD : va_D A [(Qs.qq, .inl (cI, (8 * Qs.C), .inl Qs.qf)), (Qs.qe, .inl (cL, (3 * Qs.C), .inr (.inl Qs.ef))), (tv, .inr (12, MF 13 (tw V))), (V.au, .inl (cC, V.U, .inl V.un)), (mo, .inr (13, MF 30 (va_up (rf (rs v Qs o) (j0 + 1) b0) 7 (.int (nI (skipH f n (j0 + 1))))))), (qx, .inl (cB, NN, .inl f))] := hD
        have hP := hP.sub (ws' := [(mo, .inr (13, MF 30 (va_up (rf (rs v Qs o) (j0 + 1) b0) 7 (.int (nI (skipH f n (j0 + 1))))))), (qx, .inl (cB, NN, .inl f)), (Qs.qq, .inl (cI, (8 * Qs.C), .inl Qs.qf)), (Qs.qe, .inl (cL, (3 * Qs.C), .inr (.inl Qs.ef))), (tv, .inr (12, MF 13 (tw V))), (V.au, .inl (cC, V.U, .inl V.un))]) [4, 5, 0, 1, 2, 3] rfl
        have hD := hD.sub (ws' := [(mo, .inr (13, MF 30 (va_up (rf (rs v Qs o) (j0 + 1) b0) 7 (.int (nI (skipH f n (j0 + 1))))))), (qx, .inl (cB, NN, .inl f)), (Qs.qq, .inl (cI, (8 * Qs.C), .inl Qs.qf)), (Qs.qe, .inl (cL, (3 * Qs.C), .inr (.inl Qs.ef))), (tv, .inr (12, MF 13 (tw V))), (V.au, .inl (cC, V.U, .inl V.un))]) [4, 5, 0, 1, 2, 3] (by decide) rfl
        rw [rf_u7] at hP hD
        have hP : va_P (dC, dI) classes [(mo, .inr (13, MF 30 (rf (rs v Qs o) (skipH f n (j0 + 1)) b0))), (qx, .inl (cB, NN, .inl f)), (Qs.qq, .inl (cI, (8 * Qs.C), .inl Qs.qf)), (Qs.qe, .inl (cL, (3 * Qs.C), .inr (.inl Qs.ef))), (tv, .inr (12, MF 13 (tw V))), (V.au, .inl (cC, V.U, .inl V.un))] H := hP
        have hD : va_D A [(mo, .inr (13, MF 30 (rf (rs v Qs o) (skipH f n (j0 + 1)) b0))), (qx, .inl (cB, NN, .inl f)), (Qs.qq, .inl (cI, (8 * Qs.C), .inl Qs.qf)), (Qs.qe, .inl (cL, (3 * Qs.C), .inr (.inl Qs.ef))), (tv, .inr (12, MF 13 (tw V))), (V.au, .inl (cC, V.U, .inl V.un))] := hD
        have hsk_267 := skipH_n (f := f) (show (j0 + 1) ≤ n by omega)
        refine lv_aload_n hx hb d_Mo_selector_267 rfl (lv_at hl 0 rfl) ?_
        have hPc := hP.sub (ws' := [(mo, .inr (13, MF 30 (rf (rs v Qs o) (skipH f n (j0 + 1)) b0))), (qx, .inl (cB, NN, .inl f))]) [0, 1] rfl
        have hDc := hD.sub (ws' := [(mo, .inr (13, MF 30 (rf (rs v Qs o) (skipH f n (j0 + 1)) b0))), (qx, .inl (cB, NN, .inl f))]) [0, 1] (by decide) rfl
        have hKc := hK.sub (tys' := [(cB, .byte)]) [0] rfl
        have hFc := va_free (wc := [(mo, .inr (13, MF 30 (rf (rs v Qs o) (skipH f n (j0 + 1)) b0))), (qx, .inl (cB, NN, .inl f))]) hD hS hA [0, 1] rfl
        refine va_calli (va_runV (As := []) (rest := []) ⟨hx, hb, hml, hown, hts⟩ (c_Mo_c l dC dI mo H (rf (rs v Qs o) (skipH f n (j0 + 1)) b0) cB qx NN f n (skipH f n (j0 + 1)) (by omega) (by omega) (by omega) ((rf_ne (by decide) (by decide)).trans ((rs_ne (by decide) (by decide) (by decide) (by decide)).trans h6)) rf_7 ((rf_ne (by decide) (by decide)).trans ((rs_ne (by decide) (by decide) (by decide) (by decide)).trans h8))) (cwV 0 hts (gt_V (own := R_Mo) (C := R_Mo) (i := 147) (y := y_Mo_c) i_Mo_c w_1233 w_1235 (gt_sel (y := y_Mo_c) (n := 30) (by decide +kernel)) w_7) rfl rfl rfl (by decide +kernel) ⟨Nat.le_trans (m := 7) (Nat.le_of_ble_eq_true rfl) (Nat.le_add_right 7 F), Nat.le_trans (m := 200) (Nat.le_of_ble_eq_true rfl) (Nat.le_add_right 200 L)⟩) ⟨mp_blind, va_recv hKc hPc (ci := 13) (q0 := 0) rfl rfl, fun U hU hW => ⟨rfl, hU, by rw [hU]; exact hPc, va_K.moved hW.alike hKc, hDc.weaken (fun _ _ _ _ => trivial)⟩⟩ rfl rfl hl.1 rfl (lv_room (Nat.le_of_ble_eq_true rfl)) d_Mo_selector_268 ⟨hfit_QsV.1, hfit_QsV.2⟩) hS (fun q _ h => hFc q h) hFc (fun r3 _u t9 H1 locs ht hvm hw hB hz1 hk1 hS => ?_)
        obtain ⟨hP1, hK1, hD1⟩ := hB
        rw [ht] at hP1
        obtain ⟨hP, hD⟩ := va_join (wr := [(Qs.qq, .inl (cI, (8 * Qs.C), .inl Qs.qf)), (Qs.qe, .inl (cL, (3 * Qs.C), .inr (.inl Qs.ef))), (tv, .inr (12, MF 13 (tw V))), (V.au, .inl (cC, V.U, .inl V.un))]) (w1 := [(mo, .inr (13, MF 30 (rf (rs v Qs o) (skipH f n (j0 + 1)) b0))), (qx, .inl (cB, NN, .inl f))]) hP hD [0, 1] [2, 3, 4, 5] rfl rfl (by decide) (by decide) hk1 hFc hP1 hD1
        generalize H1 = H at hP hS ⊢
        have hP : va_P (dC, dI) classes [(Qs.qq, .inl (cI, (8 * Qs.C), .inl Qs.qf)), (Qs.qe, .inl (cL, (3 * Qs.C), .inr (.inl Qs.ef))), (tv, .inr (12, MF 13 (tw V))), (V.au, .inl (cC, V.U, .inl V.un)), (mo, .inr (13, MF 30 (rf (rs v Qs o) (skipH f n (j0 + 1)) b0))), (qx, .inl (cB, NN, .inl f))] H := hP
        have hD : va_D A [(Qs.qq, .inl (cI, (8 * Qs.C), .inl Qs.qf)), (Qs.qe, .inl (cL, (3 * Qs.C), .inr (.inl Qs.ef))), (tv, .inr (12, MF 13 (tw V))), (V.au, .inl (cC, V.U, .inl V.un)), (mo, .inr (13, MF 30 (rf (rs v Qs o) (skipH f n (j0 + 1)) b0))), (qx, .inl (cB, NN, .inl f))] := hD
        have hP := hP.sub (ws' := [(mo, .inr (13, MF 30 (rf (rs v Qs o) (skipH f n (j0 + 1)) b0))), (qx, .inl (cB, NN, .inl f)), (Qs.qq, .inl (cI, (8 * Qs.C), .inl Qs.qf)), (Qs.qe, .inl (cL, (3 * Qs.C), .inr (.inl Qs.ef))), (tv, .inr (12, MF 13 (tw V))), (V.au, .inl (cC, V.U, .inl V.un))]) [4, 5, 0, 1, 2, 3] rfl
        have hD := hD.sub (ws' := [(mo, .inr (13, MF 30 (rf (rs v Qs o) (skipH f n (j0 + 1)) b0))), (qx, .inl (cB, NN, .inl f)), (Qs.qq, .inl (cI, (8 * Qs.C), .inl Qs.qf)), (Qs.qe, .inl (cL, (3 * Qs.C), .inr (.inl Qs.ef))), (tv, .inr (12, MF 13 (tw V))), (V.au, .inl (cC, V.U, .inl V.un))]) [4, 5, 0, 1, 2, 3] (by decide) rfl
        have h_r3 : r3 = hereV f n (skipH f n (j0 + 1)) := hw
        refine lv_bipush (v := 45) hx hb d_Mo_selector_271 (by decide) ?_
        refine lv_icmp_eq (tgt := 286) hx hb d_Mo_selector_273 (by decide) (fun c273 => ?_) (fun c273 => ?_)
        · refine lv_aload_n hx hb d_Mo_selector_286 rfl (lv_at hl 0 rfl) ?_
          refine lv_iload_n hx hb d_Mo_selector_287 rfl (lv_at hl 3 rfl) ?_
          refine lv_iconst (v := 1) hx hb d_Mo_selector_288 (by decide) ?_
          refine W.eq (g2 := F0 m 289 ls [.int (nI 1), .int (nI Q.R), .ref mo]) rfl ?_
          have hPc := hP.sub (ws' := [(mo, .inr (13, MF 30 (rf (rs v Qs o) (skipH f n (j0 + 1)) b0))), (qx, .inl (cB, NN, .inl f)), (Qs.qq, .inl (cI, (8 * Qs.C), .inl Qs.qf)), (Qs.qe, .inl (cL, (3 * Qs.C), .inr (.inl Qs.ef)))]) [0, 1, 2, 3] rfl
          have hDc := hD.sub (ws' := [(mo, .inr (13, MF 30 (rf (rs v Qs o) (skipH f n (j0 + 1)) b0))), (qx, .inl (cB, NN, .inl f)), (Qs.qq, .inl (cI, (8 * Qs.C), .inl Qs.qf)), (Qs.qe, .inl (cL, (3 * Qs.C), .inr (.inl Qs.ef)))]) [0, 1, 2, 3] (by decide) rfl
          have hKc := hK.sub (tys' := [(cB, .byte), (cI, .int), (cL, .long)]) [0, 1, 2] rfl
          have hFc := va_free (wc := [(mo, .inr (13, MF 30 (rf (rs v Qs o) (skipH f n (j0 + 1)) b0))), (qx, .inl (cB, NN, .inl f)), (Qs.qq, .inl (cI, (8 * Qs.C), .inl Qs.qf)), (Qs.qe, .inl (cL, (3 * Qs.C), .inr (.inl Qs.ef)))]) hD hS hA [0, 1, 2, 3] rfl
          refine va_calli (va_runV (As := [.int (nI Q.R), .int (nI 1)]) (rest := []) ⟨hx, hb, hml, hown, hts⟩ (c_Mo_whole l dC dI mo H v cB cI cL qx NN f n Qs o (skipH f n (j0 + 1)) b0 Q.R 1 hnN (by omega) (by omega) h6 h8 hQk_Qs (by omega) (by decide)) (cwV 2 hts (gt_V (own := R_Mo) (C := R_Mo) (i := 303) (y := y_Mo_whole) i_Mo_whole w_1465 w_1467 (gt_sel (y := y_Mo_whole) (n := 30) (by decide +kernel)) w_7) rfl rfl rfl (by decide +kernel) ⟨Nat.le_trans (m := 7) (Nat.le_of_ble_eq_true rfl) (Nat.le_add_right 7 F), Nat.le_trans (m := 200) (Nat.le_of_ble_eq_true rfl) (Nat.le_add_right 200 L)⟩) ⟨mp_blind, va_recv hKc hPc (ci := 13) (q0 := 0) rfl rfl, fun U hU hW => ⟨rfl, hU, by rw [hU]; exact hPc, va_K.moved hW.alike hKc, hDc.weaken (fun _ _ _ _ => trivial)⟩⟩ rfl rfl hl.1 rfl (lv_room (Nat.le_of_ble_eq_true rfl)) d_Mo_selector_289 ⟨hfit_QsV.1, hfit_QsV.2⟩) hS (fun q _ h => hFc q h) hFc (fun r0 ⟨j4, b_j4, qf2, ef2⟩ t9 H1 locs ht hvm hw hB hz1 hk1 hS => ?_)
          obtain ⟨hP1, hK1, hD1⟩ := hB
          rw [ht] at hP1
          obtain ⟨hP, hD⟩ := va_join (wr := [(tv, .inr (12, MF 13 (tw V))), (V.au, .inl (cC, V.U, .inl V.un))]) (w1 := [(mo, .inr (13, MF 30 (rf (rs v Qs o) j4 b_j4))), (qx, .inl (cB, NN, .inl f)), (Qs.qq, .inl (cI, (8 * Qs.C), .inl qf2)), (Qs.qe, .inl (cL, (3 * Qs.C), .inr (.inl ef2)))]) hP hD [0, 1, 2, 3] [4, 5] rfl rfl (by decide) (by decide) hk1 hFc hP1 hD1
          generalize H1 = H at hP hS ⊢
          have hP : va_P (dC, dI) classes [(tv, .inr (12, MF 13 (tw V))), (V.au, .inl (cC, V.U, .inl V.un)), (mo, .inr (13, MF 30 (rf (rs v Qs o) j4 b_j4))), (qx, .inl (cB, NN, .inl f)), (Qs.qq, .inl (cI, (8 * Qs.C), .inl qf2)), (Qs.qe, .inl (cL, (3 * Qs.C), .inr (.inl ef2)))] H := hP
          have hD : va_D A [(tv, .inr (12, MF 13 (tw V))), (V.au, .inl (cC, V.U, .inl V.un)), (mo, .inr (13, MF 30 (rf (rs v Qs o) j4 b_j4))), (qx, .inl (cB, NN, .inl f)), (Qs.qq, .inl (cI, (8 * Qs.C), .inl qf2)), (Qs.qe, .inl (cL, (3 * Qs.C), .inr (.inl ef2)))] := hD
          have hP := hP.sub (ws' := [(mo, .inr (13, MF 30 (rf (rs v Qs o) j4 b_j4))), (qx, .inl (cB, NN, .inl f)), (Qs.qq, .inl (cI, (8 * Qs.C), .inl qf2)), (Qs.qe, .inl (cL, (3 * Qs.C), .inr (.inl ef2))), (tv, .inr (12, MF 13 (tw V))), (V.au, .inl (cC, V.U, .inl V.un))]) [2, 3, 4, 5, 0, 1] rfl
          have hD := hD.sub (ws' := [(mo, .inr (13, MF 30 (rf (rs v Qs o) j4 b_j4))), (qx, .inl (cB, NN, .inl f)), (Qs.qq, .inl (cI, (8 * Qs.C), .inl qf2)), (Qs.qe, .inl (cL, (3 * Qs.C), .inr (.inl ef2))), (tv, .inr (12, MF 13 (tw V))), (V.au, .inl (cC, V.U, .inl V.un))]) [2, 3, 4, 5, 0, 1] (by decide) rfl
          rcases hw with ⟨hw1, val_j4, hw2, hw3, hw4, hw5⟩ | ⟨hw1, hw2, hw3, hw4⟩
          · have hw_j4 : whM f n (skipH f n (j0 + 1)) = some (val_j4, j4) := hw2
            have hw3 : qf2 = upd Qs.qf (8 * Q.R + 2) (Qs.qf (8 * Q.R + 2) ||| 1 <<< (nI 1 &&& 31)) := hw3
            have hw4 : ef2 = vp_updL Qs.ef (3 * Q.R + 1) val_j4 := hw4
            have hn_j4 : j4 ≤ n := hw5
            have hlt_j4 := whM_lt hw_j4
            subst hw1
            obtain ⟨Qb, e_Qb⟩ : ∃ z : QS, z = QS.mk Qs.C Qs.R Qs.qq Qs.qe qf2 ef2 := ⟨_, rfl⟩
            have hP : va_P (dC, dI) classes [(mo, .inr (13, MF 30 (rf (rs v Qb o) j4 b_j4))), (qx, .inl (cB, NN, .inl f)), (Qb.qq, .inl (cI, (8 * Qb.C), .inl Qb.qf)), (Qb.qe, .inl (cL, (3 * Qb.C), .inr (.inl Qb.ef))), (tv, .inr (12, MF 13 (tw V))), (V.au, .inl (cC, V.U, .inl V.un))] H := by subst e_Qb; exact hP
            have hD : va_D A [(mo, .inr (13, MF 30 (rf (rs v Qb o) j4 b_j4))), (qx, .inl (cB, NN, .inl f)), (Qb.qq, .inl (cI, (8 * Qb.C), .inl Qb.qf)), (Qb.qe, .inl (cL, (3 * Qb.C), .inr (.inl Qb.ef))), (tv, .inr (12, MF 13 (tw V))), (V.au, .inl (cC, V.U, .inl V.un))] := by subst e_Qb; exact hD
            have hf_Qb : Qb.C = Qs.C ∧ Qb.R = Qs.R ∧ Qb.qf = qf2 := by rw [e_Qb]; exact ⟨rfl, rfl, rfl⟩
            have he_Qb : Qb.ef = vp_updL Qs.ef (3 * Q.R + 1) val_j4 := by rw [e_Qb]; exact hw4
            have h2_Qb : Qb.qf (8 * Q.R + 2) = Qs.qf (8 * Q.R + 2) ||| 1 <<< (nI 1 &&& 31) := by rw [hf_Qb.2.2, hw3]; exact pk_us
            have hev_Qb : Qb.ef (3 * Q.R + 1) = val_j4 := by rw [he_Qb]; exact updL_s
            have hQk_Qb : QOK Qb := by rw [e_Qb, hw4]; exact ⟨hQk_Qs.1, hQk_Qs.2.1, hQk_Qs.2.2.1, QOK_upd hQk_Qs.2.2.2 (whM_gL hw_j4)⟩
            have hG_QbV : GQ (Q.R + 8 * (n - i) + 4) (V.us + (n + 12 - i)) Q V Qb V := by unfold GQ at hG_QsV ⊢; rw [hf_Qb.1]; exact hG_QsV
            refine w_same (fun hq => ?_)
            refine w_tight (k := cQ Q V Qb V) (n := sQ Q V Qb V) (by unfold cQ sQ at hq ⊢; rw [hf_Qb.1]; exact hq) ?_
            have hR_Qb := hf_Qb.2.1
            have hqb_QbV : Qb.R ≤ Qb.C ∧ Qb.C ≤ 100000 := ⟨hQk_Qb.2.2.1, hQk_Qb.2.1⟩
            have hfit_QbV := hG_QbV.fits
            have hk0_Qb : Qb.qf (8 * Q.R + 0) = 4 := by rw [hf_Qb.2.2, hw3, pk_un (by omega)]; exact hk0_Qs
            have hl1_Qb : Qb.qf (8 * Q.R + 1) = -1 := by rw [hf_Qb.2.2, hw3, pk_un (by omega)]; exact hl1_Qs
            have hEx_QbV : alr Q V Qb V 0 Q.R := hEx_QsV.tr (alr_who (hf_Qb.2.2.trans hw3) he_Qb (by decide) (by omega))
            refine lv_if_ne (tgt := 297) hx hb d_Mo_selector_292 (by decide) (fun _ => ?_) (fun h => absurd h (by decide))
            have hs9 : selP f n (orL f n) true i = (slT f n (some val_j4) j4).map (fun j => (j.1, false, slcS a0 j.2.1 j.2.2)) := by rw [hsl, slP_y (Or.inl (h_r3.symm.trans c273)) hw_j4]
            exact jn297 (Qb, j4, b_j4, some val_j4) _ _ _ ⟨hQk_Qb, hG_QbV, by show Qb.R = Q.R + 1; omega, hl1_Qb, hEx_QbV, hk0_Qb, by show i + 1 ≤ j4; omega, by show j4 ≤ n; omega, hs9, hsas.b1 h2_Qb (by rw [he_Qb]; exact updL_n (by omega)) hev_Qb⟩ hP hD hS (lv_sub hl [0, 1, 2, 3] rfl)
          · have hw_j4 : whM f n (skipH f n (j0 + 1)) = none := hw2
            have hw3 : qf2 = Qs.qf := hw3
            have hw4 : ef2 = Qs.ef := hw4
            subst hw1
            subst hw3
            subst hw4
            have hP : va_P (dC, dI) classes [(mo, .inr (13, MF 30 (rf (rs v Qs o) j4 b_j4))), (qx, .inl (cB, NN, .inl f)), (Qs.qq, .inl (cI, (8 * Qs.C), .inl Qs.qf)), (Qs.qe, .inl (cL, (3 * Qs.C), .inr (.inl Qs.ef))), (tv, .inr (12, MF 13 (tw V))), (V.au, .inl (cC, V.U, .inl V.un))] H := hP
            have hD : va_D A [(mo, .inr (13, MF 30 (rf (rs v Qs o) j4 b_j4))), (qx, .inl (cB, NN, .inl f)), (Qs.qq, .inl (cI, (8 * Qs.C), .inl Qs.qf)), (Qs.qe, .inl (cL, (3 * Qs.C), .inr (.inl Qs.ef))), (tv, .inr (12, MF 13 (tw V))), (V.au, .inl (cC, V.U, .inl V.un))] := hD
            refine lv_if_ne (tgt := 297) hx hb d_Mo_selector_292 (by decide) (fun h => absurd h (by decide)) (fun _ => ?_)
            refine lv_iconst (v := (-1)) hx hb d_Mo_selector_295 (by decide) ?_
            have hfin : selP f n (orL f n) true i = none := by rw [hsl, slP_f (Or.inl (h_r3.symm.trans c273)) hw_j4]; rfl
            refine w_same (fun hq => ?_)
            refine W.widen (k := kcap Q (Q.R + 8 * (n - i) + 4) + qcap V (V.us + (n + 12 - i))) (n := 22 * kcap Q (Q.R + 8 * (n - i) + 4) + 2 * qcap V (V.us + (n + 12 - i))) hfit_QsV.1 hfit_QsV.2 ?_
            have hPo : QPo n i 4 Q V (Qs, V, j4, b_j4, o) := ⟨hQk_Qs, hG_QsV, ⟨[], TX.rf hTk_V, Nat.zero_le _⟩, by show Q.R ≤ Qs.R; omega, by show Qs.R ≤ Q.R + 8 * (n - i) + 4; omega⟩
            exact W.iret (v := -1) hx hb hr (fun t9 ht hW => ⟨⟨-1, (Qs, V, j4, b_j4, o), rfl, ⟨hPo, Or.inr ⟨rfl, hfin⟩⟩, ⟨by rw [ht]; exact hP, va_K.moved hW.alike hK, hD⟩, by rw [ht]; exact hq⟩, hS.F ht⟩) hS.2.2 d_Mo_selector_296
        · refine lv_aload_n hx hb d_Mo_selector_276 rfl (lv_at hl 0 rfl) ?_
          have hPc := hP.sub (ws' := [(mo, .inr (13, MF 30 (rf (rs v Qs o) (skipH f n (j0 + 1)) b0))), (qx, .inl (cB, NN, .inl f))]) [0, 1] rfl
          have hDc := hD.sub (ws' := [(mo, .inr (13, MF 30 (rf (rs v Qs o) (skipH f n (j0 + 1)) b0))), (qx, .inl (cB, NN, .inl f))]) [0, 1] (by decide) rfl
          have hKc := hK.sub (tys' := [(cB, .byte)]) [0] rfl
          have hFc := va_free (wc := [(mo, .inr (13, MF 30 (rf (rs v Qs o) (skipH f n (j0 + 1)) b0))), (qx, .inl (cB, NN, .inl f))]) hD hS hA [0, 1] rfl
          refine va_calli (va_runV (As := []) (rest := []) ⟨hx, hb, hml, hown, hts⟩ (c_Mo_c l dC dI mo H (rf (rs v Qs o) (skipH f n (j0 + 1)) b0) cB qx NN f n (skipH f n (j0 + 1)) (by omega) (by omega) (by omega) ((rf_ne (by decide) (by decide)).trans ((rs_ne (by decide) (by decide) (by decide) (by decide)).trans h6)) rf_7 ((rf_ne (by decide) (by decide)).trans ((rs_ne (by decide) (by decide) (by decide) (by decide)).trans h8))) (cwV 0 hts (gt_V (own := R_Mo) (C := R_Mo) (i := 147) (y := y_Mo_c) i_Mo_c w_1233 w_1235 (gt_sel (y := y_Mo_c) (n := 30) (by decide +kernel)) w_7) rfl rfl rfl (by decide +kernel) ⟨Nat.le_trans (m := 7) (Nat.le_of_ble_eq_true rfl) (Nat.le_add_right 7 F), Nat.le_trans (m := 200) (Nat.le_of_ble_eq_true rfl) (Nat.le_add_right 200 L)⟩) ⟨mp_blind, va_recv hKc hPc (ci := 13) (q0 := 0) rfl rfl, fun U hU hW => ⟨rfl, hU, by rw [hU]; exact hPc, va_K.moved hW.alike hKc, hDc.weaken (fun _ _ _ _ => trivial)⟩⟩ rfl rfl hl.1 rfl (lv_room (Nat.le_of_ble_eq_true rfl)) d_Mo_selector_277 ⟨hfit_QsV.1, hfit_QsV.2⟩) hS (fun q _ h => hFc q h) hFc (fun r4 _u t9 H1 locs ht hvm hw hB hz1 hk1 hS => ?_)
          obtain ⟨hP1, hK1, hD1⟩ := hB
          rw [ht] at hP1
          obtain ⟨hP, hD⟩ := va_join (wr := [(Qs.qq, .inl (cI, (8 * Qs.C), .inl Qs.qf)), (Qs.qe, .inl (cL, (3 * Qs.C), .inr (.inl Qs.ef))), (tv, .inr (12, MF 13 (tw V))), (V.au, .inl (cC, V.U, .inl V.un))]) (w1 := [(mo, .inr (13, MF 30 (rf (rs v Qs o) (skipH f n (j0 + 1)) b0))), (qx, .inl (cB, NN, .inl f))]) hP hD [0, 1] [2, 3, 4, 5] rfl rfl (by decide) (by decide) hk1 hFc hP1 hD1
          generalize H1 = H at hP hS ⊢
          have hP : va_P (dC, dI) classes [(Qs.qq, .inl (cI, (8 * Qs.C), .inl Qs.qf)), (Qs.qe, .inl (cL, (3 * Qs.C), .inr (.inl Qs.ef))), (tv, .inr (12, MF 13 (tw V))), (V.au, .inl (cC, V.U, .inl V.un)), (mo, .inr (13, MF 30 (rf (rs v Qs o) (skipH f n (j0 + 1)) b0))), (qx, .inl (cB, NN, .inl f))] H := hP
          have hD : va_D A [(Qs.qq, .inl (cI, (8 * Qs.C), .inl Qs.qf)), (Qs.qe, .inl (cL, (3 * Qs.C), .inr (.inl Qs.ef))), (tv, .inr (12, MF 13 (tw V))), (V.au, .inl (cC, V.U, .inl V.un)), (mo, .inr (13, MF 30 (rf (rs v Qs o) (skipH f n (j0 + 1)) b0))), (qx, .inl (cB, NN, .inl f))] := hD
          have hP := hP.sub (ws' := [(mo, .inr (13, MF 30 (rf (rs v Qs o) (skipH f n (j0 + 1)) b0))), (qx, .inl (cB, NN, .inl f)), (Qs.qq, .inl (cI, (8 * Qs.C), .inl Qs.qf)), (Qs.qe, .inl (cL, (3 * Qs.C), .inr (.inl Qs.ef))), (tv, .inr (12, MF 13 (tw V))), (V.au, .inl (cC, V.U, .inl V.un))]) [4, 5, 0, 1, 2, 3] rfl
          have hD := hD.sub (ws' := [(mo, .inr (13, MF 30 (rf (rs v Qs o) (skipH f n (j0 + 1)) b0))), (qx, .inl (cB, NN, .inl f)), (Qs.qq, .inl (cI, (8 * Qs.C), .inl Qs.qf)), (Qs.qe, .inl (cL, (3 * Qs.C), .inr (.inl Qs.ef))), (tv, .inr (12, MF 13 (tw V))), (V.au, .inl (cC, V.U, .inl V.un))]) [4, 5, 0, 1, 2, 3] (by decide) rfl
          have h_r4 : r4 = hereV f n (skipH f n (j0 + 1)) := hw
          have hPc := hP.sub (ws' := []) [] rfl
          have hDc := hD.sub (ws' := []) [] (by decide) rfl
          have hKc := hK.sub (tys' := []) [] rfl
          have hFc := va_free (wc := []) hD hS hA [] rfl
          refine va_calli (va_runS (As := [.int r4]) (rest := []) ⟨hx, hb, hml, hown, hts⟩ (c_Mo_digit l dC dI H r4) (va_cwS 1 hts (gt_S (own := R_Mo) (i := 166) (y := y_Mo_digit) i_Mo_digit w_1332 w_1333 w_7) rfl rfl rfl (by decide +kernel) ⟨Nat.le_trans (m := 7) (Nat.le_of_ble_eq_true rfl) (Nat.le_add_right 7 F), Nat.le_trans (m := 200) (Nat.le_of_ble_eq_true rfl) (Nat.le_add_right 200 L)⟩) ⟨mp_blind, fun U hU hW => ⟨rfl, hU, by rw [hU]; exact hPc, va_K.moved hW.alike hKc, hDc.weaken (fun _ _ _ _ => trivial)⟩⟩ rfl rfl hl.1 rfl (lv_room (Nat.le_of_ble_eq_true rfl)) d_Mo_selector_280 ⟨hfit_QsV.1, hfit_QsV.2⟩) hS (fun q _ h => hFc q h) hFc (fun d4 _u t9 H1 locs ht hvm hw hB hz1 hk1 hS => ?_)
          obtain ⟨hP1, hK1, hD1⟩ := hB
          rw [ht] at hP1
          obtain ⟨hP, hD⟩ := va_join (wr := [(mo, .inr (13, MF 30 (rf (rs v Qs o) (skipH f n (j0 + 1)) b0))), (qx, .inl (cB, NN, .inl f)), (Qs.qq, .inl (cI, (8 * Qs.C), .inl Qs.qf)), (Qs.qe, .inl (cL, (3 * Qs.C), .inr (.inl Qs.ef))), (tv, .inr (12, MF 13 (tw V))), (V.au, .inl (cC, V.U, .inl V.un))]) (w1 := []) hP hD [] [0, 1, 2, 3, 4, 5] rfl rfl (by decide) (by decide) hk1 hFc hP1 hD1
          generalize H1 = H at hP hS ⊢
          have hP : va_P (dC, dI) classes [(mo, .inr (13, MF 30 (rf (rs v Qs o) (skipH f n (j0 + 1)) b0))), (qx, .inl (cB, NN, .inl f)), (Qs.qq, .inl (cI, (8 * Qs.C), .inl Qs.qf)), (Qs.qe, .inl (cL, (3 * Qs.C), .inr (.inl Qs.ef))), (tv, .inr (12, MF 13 (tw V))), (V.au, .inl (cC, V.U, .inl V.un))] H := hP
          have hD : va_D A [(mo, .inr (13, MF 30 (rf (rs v Qs o) (skipH f n (j0 + 1)) b0))), (qx, .inl (cB, NN, .inl f)), (Qs.qq, .inl (cI, (8 * Qs.C), .inl Qs.qf)), (Qs.qe, .inl (cL, (3 * Qs.C), .inr (.inl Qs.ef))), (tv, .inr (12, MF 13 (tw V))), (V.au, .inl (cC, V.U, .inl V.un))] := hD
          have h_d4 := dg_01 hw
          refine lv_if_eq (tgt := 297) hx hb d_Mo_selector_283 (by decide) (fun c283 => ?_) (fun c283 => ?_)
          · have hs9 : selP f n (orL f n) true i = (slT f n none (skipH f n (j0 + 1))).map (fun j => (j.1, false, slcS a0 j.2.1 j.2.2)) := by rw [hsl, slP_n (fun h => h.elim (fun h => c273 (h_r3.trans h)) (by rw [← h_r4]; exact h_d4.2 c283))]
            exact jn297 (Qs, (skipH f n (j0 + 1)), b0, none) _ _ _ ⟨hQk_Qs, hG_QsV, by show Qs.R = Q.R + 1; omega, hl1_Qs, hEx_QsV, hk0_Qs, by show i + 1 ≤ (skipH f n (j0 + 1)); omega, by show (skipH f n (j0 + 1)) ≤ n; omega, hs9, hsas.b0⟩ hP hD hS (lv_sub hl [0, 1, 2, 3] rfl)
          · refine lv_aload_n hx hb d_Mo_selector_286 rfl (lv_at hl 0 rfl) ?_
            refine lv_iload_n hx hb d_Mo_selector_287 rfl (lv_at hl 3 rfl) ?_
            refine lv_iconst (v := 1) hx hb d_Mo_selector_288 (by decide) ?_
            refine W.eq (g2 := F0 m 289 ls [.int (nI 1), .int (nI Q.R), .ref mo]) rfl ?_
            have hPc := hP.sub (ws' := [(mo, .inr (13, MF 30 (rf (rs v Qs o) (skipH f n (j0 + 1)) b0))), (qx, .inl (cB, NN, .inl f)), (Qs.qq, .inl (cI, (8 * Qs.C), .inl Qs.qf)), (Qs.qe, .inl (cL, (3 * Qs.C), .inr (.inl Qs.ef)))]) [0, 1, 2, 3] rfl
            have hDc := hD.sub (ws' := [(mo, .inr (13, MF 30 (rf (rs v Qs o) (skipH f n (j0 + 1)) b0))), (qx, .inl (cB, NN, .inl f)), (Qs.qq, .inl (cI, (8 * Qs.C), .inl Qs.qf)), (Qs.qe, .inl (cL, (3 * Qs.C), .inr (.inl Qs.ef)))]) [0, 1, 2, 3] (by decide) rfl
            have hKc := hK.sub (tys' := [(cB, .byte), (cI, .int), (cL, .long)]) [0, 1, 2] rfl
            have hFc := va_free (wc := [(mo, .inr (13, MF 30 (rf (rs v Qs o) (skipH f n (j0 + 1)) b0))), (qx, .inl (cB, NN, .inl f)), (Qs.qq, .inl (cI, (8 * Qs.C), .inl Qs.qf)), (Qs.qe, .inl (cL, (3 * Qs.C), .inr (.inl Qs.ef)))]) hD hS hA [0, 1, 2, 3] rfl
            refine va_calli (va_runV (As := [.int (nI Q.R), .int (nI 1)]) (rest := []) ⟨hx, hb, hml, hown, hts⟩ (c_Mo_whole l dC dI mo H v cB cI cL qx NN f n Qs o (skipH f n (j0 + 1)) b0 Q.R 1 hnN (by omega) (by omega) h6 h8 hQk_Qs (by omega) (by decide)) (cwV 2 hts (gt_V (own := R_Mo) (C := R_Mo) (i := 303) (y := y_Mo_whole) i_Mo_whole w_1465 w_1467 (gt_sel (y := y_Mo_whole) (n := 30) (by decide +kernel)) w_7) rfl rfl rfl (by decide +kernel) ⟨Nat.le_trans (m := 7) (Nat.le_of_ble_eq_true rfl) (Nat.le_add_right 7 F), Nat.le_trans (m := 200) (Nat.le_of_ble_eq_true rfl) (Nat.le_add_right 200 L)⟩) ⟨mp_blind, va_recv hKc hPc (ci := 13) (q0 := 0) rfl rfl, fun U hU hW => ⟨rfl, hU, by rw [hU]; exact hPc, va_K.moved hW.alike hKc, hDc.weaken (fun _ _ _ _ => trivial)⟩⟩ rfl rfl hl.1 rfl (lv_room (Nat.le_of_ble_eq_true rfl)) d_Mo_selector_289 ⟨hfit_QsV.1, hfit_QsV.2⟩) hS (fun q _ h => hFc q h) hFc (fun r0 ⟨j4, b_j4, qf2, ef2⟩ t9 H1 locs ht hvm hw hB hz1 hk1 hS => ?_)
            obtain ⟨hP1, hK1, hD1⟩ := hB
            rw [ht] at hP1
            obtain ⟨hP, hD⟩ := va_join (wr := [(tv, .inr (12, MF 13 (tw V))), (V.au, .inl (cC, V.U, .inl V.un))]) (w1 := [(mo, .inr (13, MF 30 (rf (rs v Qs o) j4 b_j4))), (qx, .inl (cB, NN, .inl f)), (Qs.qq, .inl (cI, (8 * Qs.C), .inl qf2)), (Qs.qe, .inl (cL, (3 * Qs.C), .inr (.inl ef2)))]) hP hD [0, 1, 2, 3] [4, 5] rfl rfl (by decide) (by decide) hk1 hFc hP1 hD1
            generalize H1 = H at hP hS ⊢
            have hP : va_P (dC, dI) classes [(tv, .inr (12, MF 13 (tw V))), (V.au, .inl (cC, V.U, .inl V.un)), (mo, .inr (13, MF 30 (rf (rs v Qs o) j4 b_j4))), (qx, .inl (cB, NN, .inl f)), (Qs.qq, .inl (cI, (8 * Qs.C), .inl qf2)), (Qs.qe, .inl (cL, (3 * Qs.C), .inr (.inl ef2)))] H := hP
            have hD : va_D A [(tv, .inr (12, MF 13 (tw V))), (V.au, .inl (cC, V.U, .inl V.un)), (mo, .inr (13, MF 30 (rf (rs v Qs o) j4 b_j4))), (qx, .inl (cB, NN, .inl f)), (Qs.qq, .inl (cI, (8 * Qs.C), .inl qf2)), (Qs.qe, .inl (cL, (3 * Qs.C), .inr (.inl ef2)))] := hD
            have hP := hP.sub (ws' := [(mo, .inr (13, MF 30 (rf (rs v Qs o) j4 b_j4))), (qx, .inl (cB, NN, .inl f)), (Qs.qq, .inl (cI, (8 * Qs.C), .inl qf2)), (Qs.qe, .inl (cL, (3 * Qs.C), .inr (.inl ef2))), (tv, .inr (12, MF 13 (tw V))), (V.au, .inl (cC, V.U, .inl V.un))]) [2, 3, 4, 5, 0, 1] rfl
            have hD := hD.sub (ws' := [(mo, .inr (13, MF 30 (rf (rs v Qs o) j4 b_j4))), (qx, .inl (cB, NN, .inl f)), (Qs.qq, .inl (cI, (8 * Qs.C), .inl qf2)), (Qs.qe, .inl (cL, (3 * Qs.C), .inr (.inl ef2))), (tv, .inr (12, MF 13 (tw V))), (V.au, .inl (cC, V.U, .inl V.un))]) [2, 3, 4, 5, 0, 1] (by decide) rfl
            rcases hw with ⟨hw1, val_j4, hw2, hw3, hw4, hw5⟩ | ⟨hw1, hw2, hw3, hw4⟩
            · have hw_j4 : whM f n (skipH f n (j0 + 1)) = some (val_j4, j4) := hw2
              have hw3 : qf2 = upd Qs.qf (8 * Q.R + 2) (Qs.qf (8 * Q.R + 2) ||| 1 <<< (nI 1 &&& 31)) := hw3
              have hw4 : ef2 = vp_updL Qs.ef (3 * Q.R + 1) val_j4 := hw4
              have hn_j4 : j4 ≤ n := hw5
              have hlt_j4 := whM_lt hw_j4
              subst hw1
              obtain ⟨Qb, e_Qb⟩ : ∃ z : QS, z = QS.mk Qs.C Qs.R Qs.qq Qs.qe qf2 ef2 := ⟨_, rfl⟩
              have hP : va_P (dC, dI) classes [(mo, .inr (13, MF 30 (rf (rs v Qb o) j4 b_j4))), (qx, .inl (cB, NN, .inl f)), (Qb.qq, .inl (cI, (8 * Qb.C), .inl Qb.qf)), (Qb.qe, .inl (cL, (3 * Qb.C), .inr (.inl Qb.ef))), (tv, .inr (12, MF 13 (tw V))), (V.au, .inl (cC, V.U, .inl V.un))] H := by subst e_Qb; exact hP
              have hD : va_D A [(mo, .inr (13, MF 30 (rf (rs v Qb o) j4 b_j4))), (qx, .inl (cB, NN, .inl f)), (Qb.qq, .inl (cI, (8 * Qb.C), .inl Qb.qf)), (Qb.qe, .inl (cL, (3 * Qb.C), .inr (.inl Qb.ef))), (tv, .inr (12, MF 13 (tw V))), (V.au, .inl (cC, V.U, .inl V.un))] := by subst e_Qb; exact hD
              have hf_Qb : Qb.C = Qs.C ∧ Qb.R = Qs.R ∧ Qb.qf = qf2 := by rw [e_Qb]; exact ⟨rfl, rfl, rfl⟩
              have he_Qb : Qb.ef = vp_updL Qs.ef (3 * Q.R + 1) val_j4 := by rw [e_Qb]; exact hw4
              have h2_Qb : Qb.qf (8 * Q.R + 2) = Qs.qf (8 * Q.R + 2) ||| 1 <<< (nI 1 &&& 31) := by rw [hf_Qb.2.2, hw3]; exact pk_us
              have hev_Qb : Qb.ef (3 * Q.R + 1) = val_j4 := by rw [he_Qb]; exact updL_s
              have hQk_Qb : QOK Qb := by rw [e_Qb, hw4]; exact ⟨hQk_Qs.1, hQk_Qs.2.1, hQk_Qs.2.2.1, QOK_upd hQk_Qs.2.2.2 (whM_gL hw_j4)⟩
              have hG_QbV : GQ (Q.R + 8 * (n - i) + 4) (V.us + (n + 12 - i)) Q V Qb V := by unfold GQ at hG_QsV ⊢; rw [hf_Qb.1]; exact hG_QsV
              refine w_same (fun hq => ?_)
              refine w_tight (k := cQ Q V Qb V) (n := sQ Q V Qb V) (by unfold cQ sQ at hq ⊢; rw [hf_Qb.1]; exact hq) ?_
              have hR_Qb := hf_Qb.2.1
              have hqb_QbV : Qb.R ≤ Qb.C ∧ Qb.C ≤ 100000 := ⟨hQk_Qb.2.2.1, hQk_Qb.2.1⟩
              have hfit_QbV := hG_QbV.fits
              have hk0_Qb : Qb.qf (8 * Q.R + 0) = 4 := by rw [hf_Qb.2.2, hw3, pk_un (by omega)]; exact hk0_Qs
              have hl1_Qb : Qb.qf (8 * Q.R + 1) = -1 := by rw [hf_Qb.2.2, hw3, pk_un (by omega)]; exact hl1_Qs
              have hEx_QbV : alr Q V Qb V 0 Q.R := hEx_QsV.tr (alr_who (hf_Qb.2.2.trans hw3) he_Qb (by decide) (by omega))
              refine lv_if_ne (tgt := 297) hx hb d_Mo_selector_292 (by decide) (fun _ => ?_) (fun h => absurd h (by decide))
              have hs9 : selP f n (orL f n) true i = (slT f n (some val_j4) j4).map (fun j => (j.1, false, slcS a0 j.2.1 j.2.2)) := by rw [hsl, slP_y (Or.inr (by rw [← h_r4]; exact h_d4.1 c283)) hw_j4]
              exact jn297 (Qb, j4, b_j4, some val_j4) _ _ _ ⟨hQk_Qb, hG_QbV, by show Qb.R = Q.R + 1; omega, hl1_Qb, hEx_QbV, hk0_Qb, by show i + 1 ≤ j4; omega, by show j4 ≤ n; omega, hs9, hsas.b1 h2_Qb (by rw [he_Qb]; exact updL_n (by omega)) hev_Qb⟩ hP hD hS (lv_sub hl [0, 1, 2, 3] rfl)
            · have hw_j4 : whM f n (skipH f n (j0 + 1)) = none := hw2
              have hw3 : qf2 = Qs.qf := hw3
              have hw4 : ef2 = Qs.ef := hw4
              subst hw1
              subst hw3
              subst hw4
              have hP : va_P (dC, dI) classes [(mo, .inr (13, MF 30 (rf (rs v Qs o) j4 b_j4))), (qx, .inl (cB, NN, .inl f)), (Qs.qq, .inl (cI, (8 * Qs.C), .inl Qs.qf)), (Qs.qe, .inl (cL, (3 * Qs.C), .inr (.inl Qs.ef))), (tv, .inr (12, MF 13 (tw V))), (V.au, .inl (cC, V.U, .inl V.un))] H := hP
              have hD : va_D A [(mo, .inr (13, MF 30 (rf (rs v Qs o) j4 b_j4))), (qx, .inl (cB, NN, .inl f)), (Qs.qq, .inl (cI, (8 * Qs.C), .inl Qs.qf)), (Qs.qe, .inl (cL, (3 * Qs.C), .inr (.inl Qs.ef))), (tv, .inr (12, MF 13 (tw V))), (V.au, .inl (cC, V.U, .inl V.un))] := hD
              refine lv_if_ne (tgt := 297) hx hb d_Mo_selector_292 (by decide) (fun h => absurd h (by decide)) (fun _ => ?_)
              refine lv_iconst (v := (-1)) hx hb d_Mo_selector_295 (by decide) ?_
              have hfin : selP f n (orL f n) true i = none := by rw [hsl, slP_f (Or.inr (by rw [← h_r4]; exact h_d4.1 c283)) hw_j4]; rfl
              refine w_same (fun hq => ?_)
              refine W.widen (k := kcap Q (Q.R + 8 * (n - i) + 4) + qcap V (V.us + (n + 12 - i))) (n := 22 * kcap Q (Q.R + 8 * (n - i) + 4) + 2 * qcap V (V.us + (n + 12 - i))) hfit_QsV.1 hfit_QsV.2 ?_
              have hPo : QPo n i 4 Q V (Qs, V, j4, b_j4, o) := ⟨hQk_Qs, hG_QsV, ⟨[], TX.rf hTk_V, Nat.zero_le _⟩, by show Q.R ≤ Qs.R; omega, by show Qs.R ≤ Q.R + 8 * (n - i) + 4; omega⟩
              exact W.iret (v := -1) hx hb hr (fun t9 ht hW => ⟨⟨-1, (Qs, V, j4, b_j4, o), rfl, ⟨hPo, Or.inr ⟨rfl, hfin⟩⟩, ⟨by rw [ht]; exact hP, va_K.moved hW.alike hK, hD⟩, by rw [ht]; exact hq⟩, hS.F ht⟩) hS.2.2 d_Mo_selector_296
      · rintro ⟨Qz, j2, b3, e0⟩ H locs ls hI297 hP hD hS hl
        have hP : va_P (dC, dI) classes [(mo, .inr (13, MF 30 (rf (rs v Qz o) j2 b3))), (qx, .inl (cB, NN, .inl f)), (Qz.qq, .inl (cI, (8 * Qz.C), .inl Qz.qf)), (Qz.qe, .inl (cL, (3 * Qz.C), .inr (.inl Qz.ef))), (tv, .inr (12, MF 13 (tw V))), (V.au, .inl (cC, V.U, .inl V.un))] H := hP
        have hD : va_D A [(mo, .inr (13, MF 30 (rf (rs v Qz o) j2 b3))), (qx, .inl (cB, NN, .inl f)), (Qz.qq, .inl (cI, (8 * Qz.C), .inl Qz.qf)), (Qz.qe, .inl (cL, (3 * Qz.C), .inr (.inl Qz.ef))), (tv, .inr (12, MF 13 (tw V))), (V.au, .inl (cC, V.U, .inl V.un))] := hD
        have hl : lv_has ls 5 [(0, .ref mo), (1, .int 1), (2, .int r1), (3, .int (nI Q.R))] := hl
        obtain ⟨hQk_Qz, hG_QzV, hR_Qz, hl1_Qz, hEx_QzV, hk0_Qz, hj3, hj4, hsl2, hsb⟩ := hI297
        have hqb_QzV : Qz.R ≤ Qz.C ∧ Qz.C ≤ 100000 := ⟨hQk_Qz.2.2.1, hQk_Qz.2.1⟩
        have hfit_QzV := hG_QzV.fits
        clear hsl hj1 hj2 hsas hsa
        refine lv_aload_n hx hb d_Mo_selector_297 rfl (lv_at hl 0 rfl) ?_
        refine va_get (D := (dC, dI)) (ci := 13) (v := .int (nI j2)) (C := R_Mo) (T := F_Mo) (N := 30) hx hb hts in_Mo hown hK hP 0 rfl rfl 7 (by decide) (hts _ w_1096) (fun _ h9 => h9) (MFg (by decide) rf_7) d_Mo_selector_298 ?_
        refine lv_istore (lv' := [(4, .int (nI j2)), (0, .ref mo), (1, .int 1), (2, .int r1), (3, .int (nI Q.R))]) hx hb d_Mo_selector_301 hl (by decide) rfl (fun ls hl => ?_)
        refine lv_aload_n hx hb d_Mo_selector_303 rfl (lv_at hl 1 rfl) ?_
        have hPc := hP.sub (ws' := [(mo, .inr (13, MF 30 (rf (rs v Qz o) j2 b3))), (qx, .inl (cB, NN, .inl f))]) [0, 1] rfl
        have hDc := hD.sub (ws' := [(mo, .inr (13, MF 30 (rf (rs v Qz o) j2 b3))), (qx, .inl (cB, NN, .inl f))]) [0, 1] (by decide) rfl
        have hKc := hK.sub (tys' := [(cB, .byte)]) [0] rfl
        have hFc := va_free (wc := [(mo, .inr (13, MF 30 (rf (rs v Qz o) j2 b3))), (qx, .inl (cB, NN, .inl f))]) hD hS hA [0, 1] rfl
        refine va_callv (va_runV (As := []) (rest := []) ⟨hx, hb, hml, hown, hts⟩ (c_Mo_blanks l dC dI mo H (rf (rs v Qz o) j2 b3) cB qx NN f n j2 (by omega) (by omega) (by omega) ((rf_ne (by decide) (by decide)).trans ((rs_ne (by decide) (by decide) (by decide) (by decide)).trans h6)) rf_7 ((rf_ne (by decide) (by decide)).trans ((rs_ne (by decide) (by decide) (by decide) (by decide)).trans h8))) (cwV 0 hts (gt_V (own := R_Mo) (C := R_Mo) (i := 184) (y := y_Mo_blanks) i_Mo_blanks w_1229 w_1231 (gt_sel (y := y_Mo_blanks) (n := 30) (by decide +kernel)) w_7) rfl rfl rfl (by decide +kernel) ⟨Nat.le_trans (m := 7) (Nat.le_of_ble_eq_true rfl) (Nat.le_add_right 7 F), Nat.le_trans (m := 200) (Nat.le_of_ble_eq_true rfl) (Nat.le_add_right 200 L)⟩) ⟨mp_blind, va_recv hKc hPc (ci := 13) (q0 := 0) rfl rfl, fun U hU hW => ⟨rfl, hU, by rw [hU]; exact hPc, va_K.moved hW.alike hKc, hDc.weaken (fun _ _ _ _ => trivial)⟩⟩ rfl rfl hl.1 rfl (lv_room (Nat.le_of_ble_eq_true rfl)) d_Mo_selector_304 ⟨hfit_QzV.1, hfit_QzV.2⟩) hS (fun q _ h => hFc q h) hFc (fun _u t9 H1 locs ht hvm hw hB hz1 hk1 hS => ?_)
        obtain ⟨hP1, hK1, hD1⟩ := hB
        rw [ht] at hP1
        obtain ⟨hP, hD⟩ := va_join (wr := [(Qz.qq, .inl (cI, (8 * Qz.C), .inl Qz.qf)), (Qz.qe, .inl (cL, (3 * Qz.C), .inr (.inl Qz.ef))), (tv, .inr (12, MF 13 (tw V))), (V.au, .inl (cC, V.U, .inl V.un))]) (w1 := [(mo, .inr (13, MF 30 (va_up (rf (rs v Qz o) j2 b3) 7 (.int (nI (skipH f n j2)))))), (qx, .inl (cB, NN, .inl f))]) hP hD [0, 1] [2, 3, 4, 5] rfl rfl (by decide) (by decide) hk1 hFc hP1 hD1
        generalize H1 = H at hP hS ⊢
        have hP : va_P (dC, dI) classes [(Qz.qq, .inl (cI, (8 * Qz.C), .inl Qz.qf)), (Qz.qe, .inl (cL, (3 * Qz.C), .inr (.inl Qz.ef))), (tv, .inr (12, MF 13 (tw V))), (V.au, .inl (cC, V.U, .inl V.un)), (mo, .inr (13, MF 30 (va_up (rf (rs v Qz o) j2 b3) 7 (.int (nI (skipH f n j2)))))), (qx, .inl (cB, NN, .inl f))] H := hP
        have hD : va_D A [(Qz.qq, .inl (cI, (8 * Qz.C), .inl Qz.qf)), (Qz.qe, .inl (cL, (3 * Qz.C), .inr (.inl Qz.ef))), (tv, .inr (12, MF 13 (tw V))), (V.au, .inl (cC, V.U, .inl V.un)), (mo, .inr (13, MF 30 (va_up (rf (rs v Qz o) j2 b3) 7 (.int (nI (skipH f n j2)))))), (qx, .inl (cB, NN, .inl f))] := hD
        have hP := hP.sub (ws' := [(mo, .inr (13, MF 30 (va_up (rf (rs v Qz o) j2 b3) 7 (.int (nI (skipH f n j2)))))), (qx, .inl (cB, NN, .inl f)), (Qz.qq, .inl (cI, (8 * Qz.C), .inl Qz.qf)), (Qz.qe, .inl (cL, (3 * Qz.C), .inr (.inl Qz.ef))), (tv, .inr (12, MF 13 (tw V))), (V.au, .inl (cC, V.U, .inl V.un))]) [4, 5, 0, 1, 2, 3] rfl
        have hD := hD.sub (ws' := [(mo, .inr (13, MF 30 (va_up (rf (rs v Qz o) j2 b3) 7 (.int (nI (skipH f n j2)))))), (qx, .inl (cB, NN, .inl f)), (Qz.qq, .inl (cI, (8 * Qz.C), .inl Qz.qf)), (Qz.qe, .inl (cL, (3 * Qz.C), .inr (.inl Qz.ef))), (tv, .inr (12, MF 13 (tw V))), (V.au, .inl (cC, V.U, .inl V.un))]) [4, 5, 0, 1, 2, 3] (by decide) rfl
        rw [rf_u7] at hP hD
        have hP : va_P (dC, dI) classes [(mo, .inr (13, MF 30 (rf (rs v Qz o) (skipH f n j2) b3))), (qx, .inl (cB, NN, .inl f)), (Qz.qq, .inl (cI, (8 * Qz.C), .inl Qz.qf)), (Qz.qe, .inl (cL, (3 * Qz.C), .inr (.inl Qz.ef))), (tv, .inr (12, MF 13 (tw V))), (V.au, .inl (cC, V.U, .inl V.un))] H := hP
        have hD : va_D A [(mo, .inr (13, MF 30 (rf (rs v Qz o) (skipH f n j2) b3))), (qx, .inl (cB, NN, .inl f)), (Qz.qq, .inl (cI, (8 * Qz.C), .inl Qz.qf)), (Qz.qe, .inl (cL, (3 * Qz.C), .inr (.inl Qz.ef))), (tv, .inr (12, MF 13 (tw V))), (V.au, .inl (cC, V.U, .inl V.un))] := hD
        have hsk_307 := skipH_n (f := f) (show j2 ≤ n by omega)
        refine lv_aload_n hx hb d_Mo_selector_307 rfl (lv_at hl 1 rfl) ?_
        have hPc := hP.sub (ws' := [(mo, .inr (13, MF 30 (rf (rs v Qz o) (skipH f n j2) b3))), (qx, .inl (cB, NN, .inl f))]) [0, 1] rfl
        have hDc := hD.sub (ws' := [(mo, .inr (13, MF 30 (rf (rs v Qz o) (skipH f n j2) b3))), (qx, .inl (cB, NN, .inl f))]) [0, 1] (by decide) rfl
        have hKc := hK.sub (tys' := [(cB, .byte)]) [0] rfl
        have hFc := va_free (wc := [(mo, .inr (13, MF 30 (rf (rs v Qz o) (skipH f n j2) b3))), (qx, .inl (cB, NN, .inl f))]) hD hS hA [0, 1] rfl
        refine va_calli (va_runV (As := []) (rest := []) ⟨hx, hb, hml, hown, hts⟩ (c_Mo_c l dC dI mo H (rf (rs v Qz o) (skipH f n j2) b3) cB qx NN f n (skipH f n j2) (by omega) (by omega) (by omega) ((rf_ne (by decide) (by decide)).trans ((rs_ne (by decide) (by decide) (by decide) (by decide)).trans h6)) rf_7 ((rf_ne (by decide) (by decide)).trans ((rs_ne (by decide) (by decide) (by decide) (by decide)).trans h8))) (cwV 0 hts (gt_V (own := R_Mo) (C := R_Mo) (i := 147) (y := y_Mo_c) i_Mo_c w_1233 w_1235 (gt_sel (y := y_Mo_c) (n := 30) (by decide +kernel)) w_7) rfl rfl rfl (by decide +kernel) ⟨Nat.le_trans (m := 7) (Nat.le_of_ble_eq_true rfl) (Nat.le_add_right 7 F), Nat.le_trans (m := 200) (Nat.le_of_ble_eq_true rfl) (Nat.le_add_right 200 L)⟩) ⟨mp_blind, va_recv hKc hPc (ci := 13) (q0 := 0) rfl rfl, fun U hU hW => ⟨rfl, hU, by rw [hU]; exact hPc, va_K.moved hW.alike hKc, hDc.weaken (fun _ _ _ _ => trivial)⟩⟩ rfl rfl hl.1 rfl (lv_room (Nat.le_of_ble_eq_true rfl)) d_Mo_selector_308 ⟨hfit_QzV.1, hfit_QzV.2⟩) hS (fun q _ h => hFc q h) hFc (fun r5 _u t9 H1 locs ht hvm hw hB hz1 hk1 hS => ?_)
        obtain ⟨hP1, hK1, hD1⟩ := hB
        rw [ht] at hP1
        obtain ⟨hP, hD⟩ := va_join (wr := [(Qz.qq, .inl (cI, (8 * Qz.C), .inl Qz.qf)), (Qz.qe, .inl (cL, (3 * Qz.C), .inr (.inl Qz.ef))), (tv, .inr (12, MF 13 (tw V))), (V.au, .inl (cC, V.U, .inl V.un))]) (w1 := [(mo, .inr (13, MF 30 (rf (rs v Qz o) (skipH f n j2) b3))), (qx, .inl (cB, NN, .inl f))]) hP hD [0, 1] [2, 3, 4, 5] rfl rfl (by decide) (by decide) hk1 hFc hP1 hD1
        generalize H1 = H at hP hS ⊢
        have hP : va_P (dC, dI) classes [(Qz.qq, .inl (cI, (8 * Qz.C), .inl Qz.qf)), (Qz.qe, .inl (cL, (3 * Qz.C), .inr (.inl Qz.ef))), (tv, .inr (12, MF 13 (tw V))), (V.au, .inl (cC, V.U, .inl V.un)), (mo, .inr (13, MF 30 (rf (rs v Qz o) (skipH f n j2) b3))), (qx, .inl (cB, NN, .inl f))] H := hP
        have hD : va_D A [(Qz.qq, .inl (cI, (8 * Qz.C), .inl Qz.qf)), (Qz.qe, .inl (cL, (3 * Qz.C), .inr (.inl Qz.ef))), (tv, .inr (12, MF 13 (tw V))), (V.au, .inl (cC, V.U, .inl V.un)), (mo, .inr (13, MF 30 (rf (rs v Qz o) (skipH f n j2) b3))), (qx, .inl (cB, NN, .inl f))] := hD
        have hP := hP.sub (ws' := [(mo, .inr (13, MF 30 (rf (rs v Qz o) (skipH f n j2) b3))), (qx, .inl (cB, NN, .inl f)), (Qz.qq, .inl (cI, (8 * Qz.C), .inl Qz.qf)), (Qz.qe, .inl (cL, (3 * Qz.C), .inr (.inl Qz.ef))), (tv, .inr (12, MF 13 (tw V))), (V.au, .inl (cC, V.U, .inl V.un))]) [4, 5, 0, 1, 2, 3] rfl
        have hD := hD.sub (ws' := [(mo, .inr (13, MF 30 (rf (rs v Qz o) (skipH f n j2) b3))), (qx, .inl (cB, NN, .inl f)), (Qz.qq, .inl (cI, (8 * Qz.C), .inl Qz.qf)), (Qz.qe, .inl (cL, (3 * Qz.C), .inr (.inl Qz.ef))), (tv, .inr (12, MF 13 (tw V))), (V.au, .inl (cC, V.U, .inl V.un))]) [4, 5, 0, 1, 2, 3] (by decide) rfl
        have h_r5 : r5 = hereV f n (skipH f n j2) := hw
        refine lv_bipush (v := 58) hx hb d_Mo_selector_311 (by decide) ?_
        refine lv_icmp_eq (tgt := 324) hx hb d_Mo_selector_313 (by decide) (fun c313 => ?_) (fun c313 => ?_)
        · refine lv_aload_n hx hb d_Mo_selector_324 rfl (lv_at hl 1 rfl) ?_
          refine lv_dup hx hb d_Mo_selector_325 rfl ?_
          refine va_get (D := (dC, dI)) (ci := 13) (v := .int (nI (skipH f n j2))) (C := R_Mo) (T := F_Mo) (N := 30) hx hb hts in_Mo hown hK hP 0 rfl rfl 7 (by decide) (hts _ w_1096) (fun _ h9 => h9) (MFg (by decide) rf_7) d_Mo_selector_326 ?_
          refine lv_iconst (v := 1) hx hb d_Mo_selector_329 (by decide) ?_
          refine lv_iadd hx hb d_Mo_selector_330 ?_
          have hlt331 := here_in (h_r5.symm.trans c313) (by decide)
          refine W.eq (g2 := F0 m 331 ls [.int (nI ((skipH f n j2) + 1)), .ref mo]) (by rw [show ((nI (skipH f n j2)) + 1) = (nI ((skipH f n j2) + 1)) from nI_1 _]) ?_
          refine va_put (D := (dC, dI)) (ci := 13) (v := .int (nI ((skipH f n j2) + 1))) (ty := .int) (C := R_Mo) (T := F_Mo) (N := 30) hx hb hts in_Mo t_Mo t_Mo_ok n_Mo hown hK hP hD hS 0 rfl rfl 7 (by decide) (hts _ w_1096) (fun _ h9 => h9) rfl (by decide +kernel) rfl rfl (by rw [MFl]; decide) d_Mo_selector_331 (fun H locs hP hD hS => ?_)
          rw [MFs (n := 30) (k := 7) (by decide)] at hP hD
          have hP : va_P (dC, dI) classes [(mo, .inr (13, MF 30 (va_up (rf (rs v Qz o) (skipH f n j2) b3) 7 (.int (nI ((skipH f n j2) + 1)))))), (qx, .inl (cB, NN, .inl f)), (Qz.qq, .inl (cI, (8 * Qz.C), .inl Qz.qf)), (Qz.qe, .inl (cL, (3 * Qz.C), .inr (.inl Qz.ef))), (tv, .inr (12, MF 13 (tw V))), (V.au, .inl (cC, V.U, .inl V.un))] H := hP
          have hD : va_D A [(mo, .inr (13, MF 30 (va_up (rf (rs v Qz o) (skipH f n j2) b3) 7 (.int (nI ((skipH f n j2) + 1)))))), (qx, .inl (cB, NN, .inl f)), (Qz.qq, .inl (cI, (8 * Qz.C), .inl Qz.qf)), (Qz.qe, .inl (cL, (3 * Qz.C), .inr (.inl Qz.ef))), (tv, .inr (12, MF 13 (tw V))), (V.au, .inl (cC, V.U, .inl V.un))] := hD
          rw [rf_u7] at hP hD
          have hP : va_P (dC, dI) classes [(mo, .inr (13, MF 30 (rf (rs v Qz o) ((skipH f n j2) + 1) b3))), (qx, .inl (cB, NN, .inl f)), (Qz.qq, .inl (cI, (8 * Qz.C), .inl Qz.qf)), (Qz.qe, .inl (cL, (3 * Qz.C), .inr (.inl Qz.ef))), (tv, .inr (12, MF 13 (tw V))), (V.au, .inl (cC, V.U, .inl V.un))] H := hP
          have hD : va_D A [(mo, .inr (13, MF 30 (rf (rs v Qz o) ((skipH f n j2) + 1) b3))), (qx, .inl (cB, NN, .inl f)), (Qz.qq, .inl (cI, (8 * Qz.C), .inl Qz.qf)), (Qz.qe, .inl (cL, (3 * Qz.C), .inr (.inl Qz.ef))), (tv, .inr (12, MF 13 (tw V))), (V.au, .inl (cC, V.U, .inl V.un))] := hD
          refine lv_aload_n hx hb d_Mo_selector_334 rfl (lv_at hl 1 rfl) ?_
          refine va_get (D := (dC, dI)) (ci := 13) (v := .int (nI ((skipH f n j2) + 1))) (C := R_Mo) (T := F_Mo) (N := 30) hx hb hts in_Mo hown hK hP 0 rfl rfl 7 (by decide) (hts _ w_1096) (fun _ h9 => h9) (MFg (by decide) rf_7) d_Mo_selector_335 ?_
          refine lv_istore (lv' := [(4, .int (nI ((skipH f n j2) + 1))), (0, .ref mo), (1, .int 1), (2, .int r1), (3, .int (nI Q.R))]) hx hb d_Mo_selector_338 hl (by decide) rfl (fun ls hl => ?_)
          refine lv_aload_n hx hb d_Mo_selector_340 rfl (lv_at hl 1 rfl) ?_
          have hPc := hP.sub (ws' := [(mo, .inr (13, MF 30 (rf (rs v Qz o) ((skipH f n j2) + 1) b3))), (qx, .inl (cB, NN, .inl f))]) [0, 1] rfl
          have hDc := hD.sub (ws' := [(mo, .inr (13, MF 30 (rf (rs v Qz o) ((skipH f n j2) + 1) b3))), (qx, .inl (cB, NN, .inl f))]) [0, 1] (by decide) rfl
          have hKc := hK.sub (tys' := [(cB, .byte)]) [0] rfl
          have hFc := va_free (wc := [(mo, .inr (13, MF 30 (rf (rs v Qz o) ((skipH f n j2) + 1) b3))), (qx, .inl (cB, NN, .inl f))]) hD hS hA [0, 1] rfl
          refine va_callv (va_runV (As := []) (rest := []) ⟨hx, hb, hml, hown, hts⟩ (c_Mo_blanks l dC dI mo H (rf (rs v Qz o) ((skipH f n j2) + 1) b3) cB qx NN f n ((skipH f n j2) + 1) (by omega) (by omega) (by omega) ((rf_ne (by decide) (by decide)).trans ((rs_ne (by decide) (by decide) (by decide) (by decide)).trans h6)) rf_7 ((rf_ne (by decide) (by decide)).trans ((rs_ne (by decide) (by decide) (by decide) (by decide)).trans h8))) (cwV 0 hts (gt_V (own := R_Mo) (C := R_Mo) (i := 184) (y := y_Mo_blanks) i_Mo_blanks w_1229 w_1231 (gt_sel (y := y_Mo_blanks) (n := 30) (by decide +kernel)) w_7) rfl rfl rfl (by decide +kernel) ⟨Nat.le_trans (m := 7) (Nat.le_of_ble_eq_true rfl) (Nat.le_add_right 7 F), Nat.le_trans (m := 200) (Nat.le_of_ble_eq_true rfl) (Nat.le_add_right 200 L)⟩) ⟨mp_blind, va_recv hKc hPc (ci := 13) (q0 := 0) rfl rfl, fun U hU hW => ⟨rfl, hU, by rw [hU]; exact hPc, va_K.moved hW.alike hKc, hDc.weaken (fun _ _ _ _ => trivial)⟩⟩ rfl rfl hl.1 rfl (lv_room (Nat.le_of_ble_eq_true rfl)) d_Mo_selector_341 ⟨hfit_QzV.1, hfit_QzV.2⟩) hS (fun q _ h => hFc q h) hFc (fun _u t9 H1 locs ht hvm hw hB hz1 hk1 hS => ?_)
          obtain ⟨hP1, hK1, hD1⟩ := hB
          rw [ht] at hP1
          obtain ⟨hP, hD⟩ := va_join (wr := [(Qz.qq, .inl (cI, (8 * Qz.C), .inl Qz.qf)), (Qz.qe, .inl (cL, (3 * Qz.C), .inr (.inl Qz.ef))), (tv, .inr (12, MF 13 (tw V))), (V.au, .inl (cC, V.U, .inl V.un))]) (w1 := [(mo, .inr (13, MF 30 (va_up (rf (rs v Qz o) ((skipH f n j2) + 1) b3) 7 (.int (nI (skipH f n ((skipH f n j2) + 1))))))), (qx, .inl (cB, NN, .inl f))]) hP hD [0, 1] [2, 3, 4, 5] rfl rfl (by decide) (by decide) hk1 hFc hP1 hD1
          generalize H1 = H at hP hS ⊢
          have hP : va_P (dC, dI) classes [(Qz.qq, .inl (cI, (8 * Qz.C), .inl Qz.qf)), (Qz.qe, .inl (cL, (3 * Qz.C), .inr (.inl Qz.ef))), (tv, .inr (12, MF 13 (tw V))), (V.au, .inl (cC, V.U, .inl V.un)), (mo, .inr (13, MF 30 (va_up (rf (rs v Qz o) ((skipH f n j2) + 1) b3) 7 (.int (nI (skipH f n ((skipH f n j2) + 1))))))), (qx, .inl (cB, NN, .inl f))] H := hP
          have hD : va_D A [(Qz.qq, .inl (cI, (8 * Qz.C), .inl Qz.qf)), (Qz.qe, .inl (cL, (3 * Qz.C), .inr (.inl Qz.ef))), (tv, .inr (12, MF 13 (tw V))), (V.au, .inl (cC, V.U, .inl V.un)), (mo, .inr (13, MF 30 (va_up (rf (rs v Qz o) ((skipH f n j2) + 1) b3) 7 (.int (nI (skipH f n ((skipH f n j2) + 1))))))), (qx, .inl (cB, NN, .inl f))] := hD
          have hP := hP.sub (ws' := [(mo, .inr (13, MF 30 (va_up (rf (rs v Qz o) ((skipH f n j2) + 1) b3) 7 (.int (nI (skipH f n ((skipH f n j2) + 1))))))), (qx, .inl (cB, NN, .inl f)), (Qz.qq, .inl (cI, (8 * Qz.C), .inl Qz.qf)), (Qz.qe, .inl (cL, (3 * Qz.C), .inr (.inl Qz.ef))), (tv, .inr (12, MF 13 (tw V))), (V.au, .inl (cC, V.U, .inl V.un))]) [4, 5, 0, 1, 2, 3] rfl
          have hD := hD.sub (ws' := [(mo, .inr (13, MF 30 (va_up (rf (rs v Qz o) ((skipH f n j2) + 1) b3) 7 (.int (nI (skipH f n ((skipH f n j2) + 1))))))), (qx, .inl (cB, NN, .inl f)), (Qz.qq, .inl (cI, (8 * Qz.C), .inl Qz.qf)), (Qz.qe, .inl (cL, (3 * Qz.C), .inr (.inl Qz.ef))), (tv, .inr (12, MF 13 (tw V))), (V.au, .inl (cC, V.U, .inl V.un))]) [4, 5, 0, 1, 2, 3] (by decide) rfl
          rw [rf_u7] at hP hD
          have hP : va_P (dC, dI) classes [(mo, .inr (13, MF 30 (rf (rs v Qz o) (skipH f n ((skipH f n j2) + 1)) b3))), (qx, .inl (cB, NN, .inl f)), (Qz.qq, .inl (cI, (8 * Qz.C), .inl Qz.qf)), (Qz.qe, .inl (cL, (3 * Qz.C), .inr (.inl Qz.ef))), (tv, .inr (12, MF 13 (tw V))), (V.au, .inl (cC, V.U, .inl V.un))] H := hP
          have hD : va_D A [(mo, .inr (13, MF 30 (rf (rs v Qz o) (skipH f n ((skipH f n j2) + 1)) b3))), (qx, .inl (cB, NN, .inl f)), (Qz.qq, .inl (cI, (8 * Qz.C), .inl Qz.qf)), (Qz.qe, .inl (cL, (3 * Qz.C), .inr (.inl Qz.ef))), (tv, .inr (12, MF 13 (tw V))), (V.au, .inl (cC, V.U, .inl V.un))] := hD
          have hsk_344 := skipH_n (f := f) (show ((skipH f n j2) + 1) ≤ n by omega)
          refine lv_aload_n hx hb d_Mo_selector_344 rfl (lv_at hl 1 rfl) ?_
          have hPc := hP.sub (ws' := [(mo, .inr (13, MF 30 (rf (rs v Qz o) (skipH f n ((skipH f n j2) + 1)) b3))), (qx, .inl (cB, NN, .inl f))]) [0, 1] rfl
          have hDc := hD.sub (ws' := [(mo, .inr (13, MF 30 (rf (rs v Qz o) (skipH f n ((skipH f n j2) + 1)) b3))), (qx, .inl (cB, NN, .inl f))]) [0, 1] (by decide) rfl
          have hKc := hK.sub (tys' := [(cB, .byte)]) [0] rfl
          have hFc := va_free (wc := [(mo, .inr (13, MF 30 (rf (rs v Qz o) (skipH f n ((skipH f n j2) + 1)) b3))), (qx, .inl (cB, NN, .inl f))]) hD hS hA [0, 1] rfl
          refine va_calli (va_runV (As := []) (rest := []) ⟨hx, hb, hml, hown, hts⟩ (c_Mo_c l dC dI mo H (rf (rs v Qz o) (skipH f n ((skipH f n j2) + 1)) b3) cB qx NN f n (skipH f n ((skipH f n j2) + 1)) (by omega) (by omega) (by omega) ((rf_ne (by decide) (by decide)).trans ((rs_ne (by decide) (by decide) (by decide) (by decide)).trans h6)) rf_7 ((rf_ne (by decide) (by decide)).trans ((rs_ne (by decide) (by decide) (by decide) (by decide)).trans h8))) (cwV 0 hts (gt_V (own := R_Mo) (C := R_Mo) (i := 147) (y := y_Mo_c) i_Mo_c w_1233 w_1235 (gt_sel (y := y_Mo_c) (n := 30) (by decide +kernel)) w_7) rfl rfl rfl (by decide +kernel) ⟨Nat.le_trans (m := 7) (Nat.le_of_ble_eq_true rfl) (Nat.le_add_right 7 F), Nat.le_trans (m := 200) (Nat.le_of_ble_eq_true rfl) (Nat.le_add_right 200 L)⟩) ⟨mp_blind, va_recv hKc hPc (ci := 13) (q0 := 0) rfl rfl, fun U hU hW => ⟨rfl, hU, by rw [hU]; exact hPc, va_K.moved hW.alike hKc, hDc.weaken (fun _ _ _ _ => trivial)⟩⟩ rfl rfl hl.1 rfl (lv_room (Nat.le_of_ble_eq_true rfl)) d_Mo_selector_345 ⟨hfit_QzV.1, hfit_QzV.2⟩) hS (fun q _ h => hFc q h) hFc (fun r6 _u t9 H1 locs ht hvm hw hB hz1 hk1 hS => ?_)
          obtain ⟨hP1, hK1, hD1⟩ := hB
          rw [ht] at hP1
          obtain ⟨hP, hD⟩ := va_join (wr := [(Qz.qq, .inl (cI, (8 * Qz.C), .inl Qz.qf)), (Qz.qe, .inl (cL, (3 * Qz.C), .inr (.inl Qz.ef))), (tv, .inr (12, MF 13 (tw V))), (V.au, .inl (cC, V.U, .inl V.un))]) (w1 := [(mo, .inr (13, MF 30 (rf (rs v Qz o) (skipH f n ((skipH f n j2) + 1)) b3))), (qx, .inl (cB, NN, .inl f))]) hP hD [0, 1] [2, 3, 4, 5] rfl rfl (by decide) (by decide) hk1 hFc hP1 hD1
          generalize H1 = H at hP hS ⊢
          have hP : va_P (dC, dI) classes [(Qz.qq, .inl (cI, (8 * Qz.C), .inl Qz.qf)), (Qz.qe, .inl (cL, (3 * Qz.C), .inr (.inl Qz.ef))), (tv, .inr (12, MF 13 (tw V))), (V.au, .inl (cC, V.U, .inl V.un)), (mo, .inr (13, MF 30 (rf (rs v Qz o) (skipH f n ((skipH f n j2) + 1)) b3))), (qx, .inl (cB, NN, .inl f))] H := hP
          have hD : va_D A [(Qz.qq, .inl (cI, (8 * Qz.C), .inl Qz.qf)), (Qz.qe, .inl (cL, (3 * Qz.C), .inr (.inl Qz.ef))), (tv, .inr (12, MF 13 (tw V))), (V.au, .inl (cC, V.U, .inl V.un)), (mo, .inr (13, MF 30 (rf (rs v Qz o) (skipH f n ((skipH f n j2) + 1)) b3))), (qx, .inl (cB, NN, .inl f))] := hD
          have hP := hP.sub (ws' := [(mo, .inr (13, MF 30 (rf (rs v Qz o) (skipH f n ((skipH f n j2) + 1)) b3))), (qx, .inl (cB, NN, .inl f)), (Qz.qq, .inl (cI, (8 * Qz.C), .inl Qz.qf)), (Qz.qe, .inl (cL, (3 * Qz.C), .inr (.inl Qz.ef))), (tv, .inr (12, MF 13 (tw V))), (V.au, .inl (cC, V.U, .inl V.un))]) [4, 5, 0, 1, 2, 3] rfl
          have hD := hD.sub (ws' := [(mo, .inr (13, MF 30 (rf (rs v Qz o) (skipH f n ((skipH f n j2) + 1)) b3))), (qx, .inl (cB, NN, .inl f)), (Qz.qq, .inl (cI, (8 * Qz.C), .inl Qz.qf)), (Qz.qe, .inl (cL, (3 * Qz.C), .inr (.inl Qz.ef))), (tv, .inr (12, MF 13 (tw V))), (V.au, .inl (cC, V.U, .inl V.un))]) [4, 5, 0, 1, 2, 3] (by decide) rfl
          have h_r6 : r6 = hereV f n (skipH f n ((skipH f n j2) + 1)) := hw
          refine lv_bipush (v := 45) hx hb d_Mo_selector_348 (by decide) ?_
          refine lv_icmp_eq (tgt := 363) hx hb d_Mo_selector_350 (by decide) (fun c350 => ?_) (fun c350 => ?_)
          · refine lv_aload_n hx hb d_Mo_selector_363 rfl (lv_at hl 1 rfl) ?_
            refine lv_iload_n hx hb d_Mo_selector_364 rfl (lv_at hl 4 rfl) ?_
            refine lv_iconst (v := 2) hx hb d_Mo_selector_365 (by decide) ?_
            refine W.eq (g2 := F0 m 366 ls [.int (nI 2), .int (nI Q.R), .ref mo]) rfl ?_
            have hPc := hP.sub (ws' := [(mo, .inr (13, MF 30 (rf (rs v Qz o) (skipH f n ((skipH f n j2) + 1)) b3))), (qx, .inl (cB, NN, .inl f)), (Qz.qq, .inl (cI, (8 * Qz.C), .inl Qz.qf)), (Qz.qe, .inl (cL, (3 * Qz.C), .inr (.inl Qz.ef)))]) [0, 1, 2, 3] rfl
            have hDc := hD.sub (ws' := [(mo, .inr (13, MF 30 (rf (rs v Qz o) (skipH f n ((skipH f n j2) + 1)) b3))), (qx, .inl (cB, NN, .inl f)), (Qz.qq, .inl (cI, (8 * Qz.C), .inl Qz.qf)), (Qz.qe, .inl (cL, (3 * Qz.C), .inr (.inl Qz.ef)))]) [0, 1, 2, 3] (by decide) rfl
            have hKc := hK.sub (tys' := [(cB, .byte), (cI, .int), (cL, .long)]) [0, 1, 2] rfl
            have hFc := va_free (wc := [(mo, .inr (13, MF 30 (rf (rs v Qz o) (skipH f n ((skipH f n j2) + 1)) b3))), (qx, .inl (cB, NN, .inl f)), (Qz.qq, .inl (cI, (8 * Qz.C), .inl Qz.qf)), (Qz.qe, .inl (cL, (3 * Qz.C), .inr (.inl Qz.ef)))]) hD hS hA [0, 1, 2, 3] rfl
            refine va_calli (va_runV (As := [.int (nI Q.R), .int (nI 2)]) (rest := []) ⟨hx, hb, hml, hown, hts⟩ (c_Mo_whole l dC dI mo H v cB cI cL qx NN f n Qz o (skipH f n ((skipH f n j2) + 1)) b3 Q.R 2 hnN (by omega) (by omega) h6 h8 hQk_Qz (by omega) (by decide)) (cwV 2 hts (gt_V (own := R_Mo) (C := R_Mo) (i := 303) (y := y_Mo_whole) i_Mo_whole w_1465 w_1467 (gt_sel (y := y_Mo_whole) (n := 30) (by decide +kernel)) w_7) rfl rfl rfl (by decide +kernel) ⟨Nat.le_trans (m := 7) (Nat.le_of_ble_eq_true rfl) (Nat.le_add_right 7 F), Nat.le_trans (m := 200) (Nat.le_of_ble_eq_true rfl) (Nat.le_add_right 200 L)⟩) ⟨mp_blind, va_recv hKc hPc (ci := 13) (q0 := 0) rfl rfl, fun U hU hW => ⟨rfl, hU, by rw [hU]; exact hPc, va_K.moved hW.alike hKc, hDc.weaken (fun _ _ _ _ => trivial)⟩⟩ rfl rfl hl.1 rfl (lv_room (Nat.le_of_ble_eq_true rfl)) d_Mo_selector_366 ⟨hfit_QzV.1, hfit_QzV.2⟩) hS (fun q _ h => hFc q h) hFc (fun r0 ⟨j5, b_j5, qf2, ef2⟩ t9 H1 locs ht hvm hw hB hz1 hk1 hS => ?_)
            obtain ⟨hP1, hK1, hD1⟩ := hB
            rw [ht] at hP1
            obtain ⟨hP, hD⟩ := va_join (wr := [(tv, .inr (12, MF 13 (tw V))), (V.au, .inl (cC, V.U, .inl V.un))]) (w1 := [(mo, .inr (13, MF 30 (rf (rs v Qz o) j5 b_j5))), (qx, .inl (cB, NN, .inl f)), (Qz.qq, .inl (cI, (8 * Qz.C), .inl qf2)), (Qz.qe, .inl (cL, (3 * Qz.C), .inr (.inl ef2)))]) hP hD [0, 1, 2, 3] [4, 5] rfl rfl (by decide) (by decide) hk1 hFc hP1 hD1
            generalize H1 = H at hP hS ⊢
            have hP : va_P (dC, dI) classes [(tv, .inr (12, MF 13 (tw V))), (V.au, .inl (cC, V.U, .inl V.un)), (mo, .inr (13, MF 30 (rf (rs v Qz o) j5 b_j5))), (qx, .inl (cB, NN, .inl f)), (Qz.qq, .inl (cI, (8 * Qz.C), .inl qf2)), (Qz.qe, .inl (cL, (3 * Qz.C), .inr (.inl ef2)))] H := hP
            have hD : va_D A [(tv, .inr (12, MF 13 (tw V))), (V.au, .inl (cC, V.U, .inl V.un)), (mo, .inr (13, MF 30 (rf (rs v Qz o) j5 b_j5))), (qx, .inl (cB, NN, .inl f)), (Qz.qq, .inl (cI, (8 * Qz.C), .inl qf2)), (Qz.qe, .inl (cL, (3 * Qz.C), .inr (.inl ef2)))] := hD
            have hP := hP.sub (ws' := [(mo, .inr (13, MF 30 (rf (rs v Qz o) j5 b_j5))), (qx, .inl (cB, NN, .inl f)), (Qz.qq, .inl (cI, (8 * Qz.C), .inl qf2)), (Qz.qe, .inl (cL, (3 * Qz.C), .inr (.inl ef2))), (tv, .inr (12, MF 13 (tw V))), (V.au, .inl (cC, V.U, .inl V.un))]) [2, 3, 4, 5, 0, 1] rfl
            have hD := hD.sub (ws' := [(mo, .inr (13, MF 30 (rf (rs v Qz o) j5 b_j5))), (qx, .inl (cB, NN, .inl f)), (Qz.qq, .inl (cI, (8 * Qz.C), .inl qf2)), (Qz.qe, .inl (cL, (3 * Qz.C), .inr (.inl ef2))), (tv, .inr (12, MF 13 (tw V))), (V.au, .inl (cC, V.U, .inl V.un))]) [2, 3, 4, 5, 0, 1] (by decide) rfl
            rcases hw with ⟨hw1, val_j5, hw2, hw3, hw4, hw5⟩ | ⟨hw1, hw2, hw3, hw4⟩
            · have hw_j5 : whM f n (skipH f n ((skipH f n j2) + 1)) = some (val_j5, j5) := hw2
              have hw3 : qf2 = upd Qz.qf (8 * Q.R + 2) (Qz.qf (8 * Q.R + 2) ||| 1 <<< (nI 2 &&& 31)) := hw3
              have hw4 : ef2 = vp_updL Qz.ef (3 * Q.R + 2) val_j5 := hw4
              have hn_j5 : j5 ≤ n := hw5
              have hlt_j5 := whM_lt hw_j5
              subst hw1
              obtain ⟨Qd, e_Qd⟩ : ∃ z : QS, z = QS.mk Qz.C Qz.R Qz.qq Qz.qe qf2 ef2 := ⟨_, rfl⟩
              have hP : va_P (dC, dI) classes [(mo, .inr (13, MF 30 (rf (rs v Qd o) j5 b_j5))), (qx, .inl (cB, NN, .inl f)), (Qd.qq, .inl (cI, (8 * Qd.C), .inl Qd.qf)), (Qd.qe, .inl (cL, (3 * Qd.C), .inr (.inl Qd.ef))), (tv, .inr (12, MF 13 (tw V))), (V.au, .inl (cC, V.U, .inl V.un))] H := by subst e_Qd; exact hP
              have hD : va_D A [(mo, .inr (13, MF 30 (rf (rs v Qd o) j5 b_j5))), (qx, .inl (cB, NN, .inl f)), (Qd.qq, .inl (cI, (8 * Qd.C), .inl Qd.qf)), (Qd.qe, .inl (cL, (3 * Qd.C), .inr (.inl Qd.ef))), (tv, .inr (12, MF 13 (tw V))), (V.au, .inl (cC, V.U, .inl V.un))] := by subst e_Qd; exact hD
              have hf_Qd : Qd.C = Qz.C ∧ Qd.R = Qz.R ∧ Qd.qf = qf2 := by rw [e_Qd]; exact ⟨rfl, rfl, rfl⟩
              have he_Qd : Qd.ef = vp_updL Qz.ef (3 * Q.R + 2) val_j5 := by rw [e_Qd]; exact hw4
              have h2_Qd : Qd.qf (8 * Q.R + 2) = Qz.qf (8 * Q.R + 2) ||| 1 <<< (nI 2 &&& 31) := by rw [hf_Qd.2.2, hw3]; exact pk_us
              have hev_Qd : Qd.ef (3 * Q.R + 2) = val_j5 := by rw [he_Qd]; exact updL_s
              have hQk_Qd : QOK Qd := by rw [e_Qd, hw4]; exact ⟨hQk_Qz.1, hQk_Qz.2.1, hQk_Qz.2.2.1, QOK_upd hQk_Qz.2.2.2 (whM_gL hw_j5)⟩
              have hG_QdV : GQ (Q.R + 8 * (n - i) + 4) (V.us + (n + 12 - i)) Q V Qd V := by unfold GQ at hG_QzV ⊢; rw [hf_Qd.1]; exact hG_QzV
              refine w_same (fun hq => ?_)
              refine w_tight (k := cQ Q V Qd V) (n := sQ Q V Qd V) (by unfold cQ sQ at hq ⊢; rw [hf_Qd.1]; exact hq) ?_
              have hR_Qd := hf_Qd.2.1
              have hqb_QdV : Qd.R ≤ Qd.C ∧ Qd.C ≤ 100000 := ⟨hQk_Qd.2.2.1, hQk_Qd.2.1⟩
              have hfit_QdV := hG_QdV.fits
              have hk0_Qd : Qd.qf (8 * Q.R + 0) = 4 := by rw [hf_Qd.2.2, hw3, pk_un (by omega)]; exact hk0_Qz
              have hl1_Qd : Qd.qf (8 * Q.R + 1) = -1 := by rw [hf_Qd.2.2, hw3, pk_un (by omega)]; exact hl1_Qz
              have hEx_QdV : alr Q V Qd V 0 Q.R := hEx_QzV.tr (alr_who (hf_Qd.2.2.trans hw3) he_Qd (by decide) (by omega))
              refine lv_if_eq (tgt := 376) hx hb d_Mo_selector_369 (by decide) (fun h => absurd h (by decide)) (fun _ => ?_)
              refine lv_iload_n hx hb d_Mo_selector_372 rfl (lv_at hl 4 rfl) ?_
              refine lv_goto (tgt := 377) hx hb d_Mo_selector_373 (by decide) ?_
              have hfin : selP f n (orL f n) true i = some (j5, false, slcS a0 e0 val_j5) := by rw [hsl2]; unfold slT; rw [if_neg (fun h => h (h_r5.symm.trans c313)), if_pos (Or.inl (h_r6.symm.trans c350)), hw_j5]; rfl
              have hSE : SELp O Qd V Q.R Qd.R Q.R (slcS a0 e0 val_j5) := ⟨Nat.le_refl _, by omega, Or.inr (Or.inr (Or.inr (Or.inl ⟨hk0_Qd, hsb.c1 h2_Qd (by rw [he_Qd]; exact updL_n (by omega)) (by rw [he_Qd]; exact updL_n (by omega)) hev_Qd⟩)))⟩
              refine w_same (fun hq => ?_)
              refine W.widen (k := kcap Q (Q.R + 8 * (n - i) + 4) + qcap V (V.us + (n + 12 - i))) (n := 22 * kcap Q (Q.R + 8 * (n - i) + 4) + 2 * qcap V (V.us + (n + 12 - i))) hfit_QdV.1 hfit_QdV.2 ?_
              have hPo : QPo n i 4 Q V (Qd, V, j5, b_j5, o) := ⟨hQk_Qd, hG_QdV, ⟨[], TX.rf hTk_V, Nat.zero_le _⟩, by show Q.R ≤ Qd.R; omega, by show Qd.R ≤ Q.R + 8 * (n - i) + 4; omega⟩
              exact W.iret (v := nI Q.R) hx hb hr (fun t9 ht hW => ⟨⟨nI Q.R, (Qd, V, j5, b_j5, o), rfl, ⟨hPo, Or.inl ⟨false, slcS a0 e0 val_j5, rfl, hfin, hSE, ⟨fun h => absurd h (by decide), fun h => absurd h (by rw [hk0_Qd]; decide)⟩, hl1_Qd, hEx_QdV, by show Qd.R + 8 * i + 7 ≤ Q.R + 8 * j5; omega, by show V.us + i ≤ V.us + j5; omega, by show j5 ≤ n; omega, by show Q.R < Qd.R; omega, rfl⟩⟩, ⟨by rw [ht]; exact hP, va_K.moved hW.alike hK, hD⟩, by rw [ht]; exact hq⟩, hS.F ht⟩) hS.2.2 d_Mo_selector_377
            · have hw_j5 : whM f n (skipH f n ((skipH f n j2) + 1)) = none := hw2
              have hw3 : qf2 = Qz.qf := hw3
              have hw4 : ef2 = Qz.ef := hw4
              subst hw1
              subst hw3
              subst hw4
              have hP : va_P (dC, dI) classes [(mo, .inr (13, MF 30 (rf (rs v Qz o) j5 b_j5))), (qx, .inl (cB, NN, .inl f)), (Qz.qq, .inl (cI, (8 * Qz.C), .inl Qz.qf)), (Qz.qe, .inl (cL, (3 * Qz.C), .inr (.inl Qz.ef))), (tv, .inr (12, MF 13 (tw V))), (V.au, .inl (cC, V.U, .inl V.un))] H := hP
              have hD : va_D A [(mo, .inr (13, MF 30 (rf (rs v Qz o) j5 b_j5))), (qx, .inl (cB, NN, .inl f)), (Qz.qq, .inl (cI, (8 * Qz.C), .inl Qz.qf)), (Qz.qe, .inl (cL, (3 * Qz.C), .inr (.inl Qz.ef))), (tv, .inr (12, MF 13 (tw V))), (V.au, .inl (cC, V.U, .inl V.un))] := hD
              refine lv_if_eq (tgt := 376) hx hb d_Mo_selector_369 (by decide) (fun _ => ?_) (fun h => absurd (by decide) h)
              refine lv_iconst (v := (-1)) hx hb d_Mo_selector_376 (by decide) ?_
              have hfin : selP f n (orL f n) true i = none := by rw [hsl2]; unfold slT; rw [if_neg (fun h => h (h_r5.symm.trans c313)), if_pos (Or.inl (h_r6.symm.trans c350)), hw_j5]; rfl
              refine w_same (fun hq => ?_)
              refine W.widen (k := kcap Q (Q.R + 8 * (n - i) + 4) + qcap V (V.us + (n + 12 - i))) (n := 22 * kcap Q (Q.R + 8 * (n - i) + 4) + 2 * qcap V (V.us + (n + 12 - i))) hfit_QzV.1 hfit_QzV.2 ?_
              have hPo : QPo n i 4 Q V (Qz, V, j5, b_j5, o) := ⟨hQk_Qz, hG_QzV, ⟨[], TX.rf hTk_V, Nat.zero_le _⟩, by show Q.R ≤ Qz.R; omega, by show Qz.R ≤ Q.R + 8 * (n - i) + 4; omega⟩
              exact W.iret (v := -1) hx hb hr (fun t9 ht hW => ⟨⟨-1, (Qz, V, j5, b_j5, o), rfl, ⟨hPo, Or.inr ⟨rfl, hfin⟩⟩, ⟨by rw [ht]; exact hP, va_K.moved hW.alike hK, hD⟩, by rw [ht]; exact hq⟩, hS.F ht⟩) hS.2.2 d_Mo_selector_377
          · refine lv_aload_n hx hb d_Mo_selector_353 rfl (lv_at hl 1 rfl) ?_
            have hPc := hP.sub (ws' := [(mo, .inr (13, MF 30 (rf (rs v Qz o) (skipH f n ((skipH f n j2) + 1)) b3))), (qx, .inl (cB, NN, .inl f))]) [0, 1] rfl
            have hDc := hD.sub (ws' := [(mo, .inr (13, MF 30 (rf (rs v Qz o) (skipH f n ((skipH f n j2) + 1)) b3))), (qx, .inl (cB, NN, .inl f))]) [0, 1] (by decide) rfl
            have hKc := hK.sub (tys' := [(cB, .byte)]) [0] rfl
            have hFc := va_free (wc := [(mo, .inr (13, MF 30 (rf (rs v Qz o) (skipH f n ((skipH f n j2) + 1)) b3))), (qx, .inl (cB, NN, .inl f))]) hD hS hA [0, 1] rfl
            refine va_calli (va_runV (As := []) (rest := []) ⟨hx, hb, hml, hown, hts⟩ (c_Mo_c l dC dI mo H (rf (rs v Qz o) (skipH f n ((skipH f n j2) + 1)) b3) cB qx NN f n (skipH f n ((skipH f n j2) + 1)) (by omega) (by omega) (by omega) ((rf_ne (by decide) (by decide)).trans ((rs_ne (by decide) (by decide) (by decide) (by decide)).trans h6)) rf_7 ((rf_ne (by decide) (by decide)).trans ((rs_ne (by decide) (by decide) (by decide) (by decide)).trans h8))) (cwV 0 hts (gt_V (own := R_Mo) (C := R_Mo) (i := 147) (y := y_Mo_c) i_Mo_c w_1233 w_1235 (gt_sel (y := y_Mo_c) (n := 30) (by decide +kernel)) w_7) rfl rfl rfl (by decide +kernel) ⟨Nat.le_trans (m := 7) (Nat.le_of_ble_eq_true rfl) (Nat.le_add_right 7 F), Nat.le_trans (m := 200) (Nat.le_of_ble_eq_true rfl) (Nat.le_add_right 200 L)⟩) ⟨mp_blind, va_recv hKc hPc (ci := 13) (q0 := 0) rfl rfl, fun U hU hW => ⟨rfl, hU, by rw [hU]; exact hPc, va_K.moved hW.alike hKc, hDc.weaken (fun _ _ _ _ => trivial)⟩⟩ rfl rfl hl.1 rfl (lv_room (Nat.le_of_ble_eq_true rfl)) d_Mo_selector_354 ⟨hfit_QzV.1, hfit_QzV.2⟩) hS (fun q _ h => hFc q h) hFc (fun r8 _u t9 H1 locs ht hvm hw hB hz1 hk1 hS => ?_)
            obtain ⟨hP1, hK1, hD1⟩ := hB
            rw [ht] at hP1
            obtain ⟨hP, hD⟩ := va_join (wr := [(Qz.qq, .inl (cI, (8 * Qz.C), .inl Qz.qf)), (Qz.qe, .inl (cL, (3 * Qz.C), .inr (.inl Qz.ef))), (tv, .inr (12, MF 13 (tw V))), (V.au, .inl (cC, V.U, .inl V.un))]) (w1 := [(mo, .inr (13, MF 30 (rf (rs v Qz o) (skipH f n ((skipH f n j2) + 1)) b3))), (qx, .inl (cB, NN, .inl f))]) hP hD [0, 1] [2, 3, 4, 5] rfl rfl (by decide) (by decide) hk1 hFc hP1 hD1
            generalize H1 = H at hP hS ⊢
            have hP : va_P (dC, dI) classes [(Qz.qq, .inl (cI, (8 * Qz.C), .inl Qz.qf)), (Qz.qe, .inl (cL, (3 * Qz.C), .inr (.inl Qz.ef))), (tv, .inr (12, MF 13 (tw V))), (V.au, .inl (cC, V.U, .inl V.un)), (mo, .inr (13, MF 30 (rf (rs v Qz o) (skipH f n ((skipH f n j2) + 1)) b3))), (qx, .inl (cB, NN, .inl f))] H := hP
            have hD : va_D A [(Qz.qq, .inl (cI, (8 * Qz.C), .inl Qz.qf)), (Qz.qe, .inl (cL, (3 * Qz.C), .inr (.inl Qz.ef))), (tv, .inr (12, MF 13 (tw V))), (V.au, .inl (cC, V.U, .inl V.un)), (mo, .inr (13, MF 30 (rf (rs v Qz o) (skipH f n ((skipH f n j2) + 1)) b3))), (qx, .inl (cB, NN, .inl f))] := hD
            have hP := hP.sub (ws' := [(mo, .inr (13, MF 30 (rf (rs v Qz o) (skipH f n ((skipH f n j2) + 1)) b3))), (qx, .inl (cB, NN, .inl f)), (Qz.qq, .inl (cI, (8 * Qz.C), .inl Qz.qf)), (Qz.qe, .inl (cL, (3 * Qz.C), .inr (.inl Qz.ef))), (tv, .inr (12, MF 13 (tw V))), (V.au, .inl (cC, V.U, .inl V.un))]) [4, 5, 0, 1, 2, 3] rfl
            have hD := hD.sub (ws' := [(mo, .inr (13, MF 30 (rf (rs v Qz o) (skipH f n ((skipH f n j2) + 1)) b3))), (qx, .inl (cB, NN, .inl f)), (Qz.qq, .inl (cI, (8 * Qz.C), .inl Qz.qf)), (Qz.qe, .inl (cL, (3 * Qz.C), .inr (.inl Qz.ef))), (tv, .inr (12, MF 13 (tw V))), (V.au, .inl (cC, V.U, .inl V.un))]) [4, 5, 0, 1, 2, 3] (by decide) rfl
            have h_r8 : r8 = hereV f n (skipH f n ((skipH f n j2) + 1)) := hw
            have hPc := hP.sub (ws' := []) [] rfl
            have hDc := hD.sub (ws' := []) [] (by decide) rfl
            have hKc := hK.sub (tys' := []) [] rfl
            have hFc := va_free (wc := []) hD hS hA [] rfl
            refine va_calli (va_runS (As := [.int r8]) (rest := []) ⟨hx, hb, hml, hown, hts⟩ (c_Mo_digit l dC dI H r8) (va_cwS 1 hts (gt_S (own := R_Mo) (i := 166) (y := y_Mo_digit) i_Mo_digit w_1332 w_1333 w_7) rfl rfl rfl (by decide +kernel) ⟨Nat.le_trans (m := 7) (Nat.le_of_ble_eq_true rfl) (Nat.le_add_right 7 F), Nat.le_trans (m := 200) (Nat.le_of_ble_eq_true rfl) (Nat.le_add_right 200 L)⟩) ⟨mp_blind, fun U hU hW => ⟨rfl, hU, by rw [hU]; exact hPc, va_K.moved hW.alike hKc, hDc.weaken (fun _ _ _ _ => trivial)⟩⟩ rfl rfl hl.1 rfl (lv_room (Nat.le_of_ble_eq_true rfl)) d_Mo_selector_357 ⟨hfit_QzV.1, hfit_QzV.2⟩) hS (fun q _ h => hFc q h) hFc (fun d8 _u t9 H1 locs ht hvm hw hB hz1 hk1 hS => ?_)
            obtain ⟨hP1, hK1, hD1⟩ := hB
            rw [ht] at hP1
            obtain ⟨hP, hD⟩ := va_join (wr := [(mo, .inr (13, MF 30 (rf (rs v Qz o) (skipH f n ((skipH f n j2) + 1)) b3))), (qx, .inl (cB, NN, .inl f)), (Qz.qq, .inl (cI, (8 * Qz.C), .inl Qz.qf)), (Qz.qe, .inl (cL, (3 * Qz.C), .inr (.inl Qz.ef))), (tv, .inr (12, MF 13 (tw V))), (V.au, .inl (cC, V.U, .inl V.un))]) (w1 := []) hP hD [] [0, 1, 2, 3, 4, 5] rfl rfl (by decide) (by decide) hk1 hFc hP1 hD1
            generalize H1 = H at hP hS ⊢
            have hP : va_P (dC, dI) classes [(mo, .inr (13, MF 30 (rf (rs v Qz o) (skipH f n ((skipH f n j2) + 1)) b3))), (qx, .inl (cB, NN, .inl f)), (Qz.qq, .inl (cI, (8 * Qz.C), .inl Qz.qf)), (Qz.qe, .inl (cL, (3 * Qz.C), .inr (.inl Qz.ef))), (tv, .inr (12, MF 13 (tw V))), (V.au, .inl (cC, V.U, .inl V.un))] H := hP
            have hD : va_D A [(mo, .inr (13, MF 30 (rf (rs v Qz o) (skipH f n ((skipH f n j2) + 1)) b3))), (qx, .inl (cB, NN, .inl f)), (Qz.qq, .inl (cI, (8 * Qz.C), .inl Qz.qf)), (Qz.qe, .inl (cL, (3 * Qz.C), .inr (.inl Qz.ef))), (tv, .inr (12, MF 13 (tw V))), (V.au, .inl (cC, V.U, .inl V.un))] := hD
            have h_d8 := dg_01 hw
            refine lv_if_eq (tgt := 378) hx hb d_Mo_selector_360 (by decide) (fun c360 => ?_) (fun c360 => ?_)
            · refine lv_aload_n hx hb d_Mo_selector_378 rfl (lv_at hl 1 rfl) ?_
              refine lv_iload hx hb d_Mo_selector_379 (lv_at hl 0 rfl) ?_
              refine va_put (D := (dC, dI)) (ci := 13) (v := .int (nI ((skipH f n j2) + 1))) (ty := .int) (C := R_Mo) (T := F_Mo) (N := 30) hx hb hts in_Mo t_Mo t_Mo_ok n_Mo hown hK hP hD hS 0 rfl rfl 7 (by decide) (hts _ w_1096) (fun _ h9 => h9) rfl (by decide +kernel) rfl rfl (by rw [MFl]; decide) d_Mo_selector_381 (fun H locs hP hD hS => ?_)
              rw [MFs (n := 30) (k := 7) (by decide)] at hP hD
              have hP : va_P (dC, dI) classes [(mo, .inr (13, MF 30 (va_up (rf (rs v Qz o) (skipH f n ((skipH f n j2) + 1)) b3) 7 (.int (nI ((skipH f n j2) + 1)))))), (qx, .inl (cB, NN, .inl f)), (Qz.qq, .inl (cI, (8 * Qz.C), .inl Qz.qf)), (Qz.qe, .inl (cL, (3 * Qz.C), .inr (.inl Qz.ef))), (tv, .inr (12, MF 13 (tw V))), (V.au, .inl (cC, V.U, .inl V.un))] H := hP
              have hD : va_D A [(mo, .inr (13, MF 30 (va_up (rf (rs v Qz o) (skipH f n ((skipH f n j2) + 1)) b3) 7 (.int (nI ((skipH f n j2) + 1)))))), (qx, .inl (cB, NN, .inl f)), (Qz.qq, .inl (cI, (8 * Qz.C), .inl Qz.qf)), (Qz.qe, .inl (cL, (3 * Qz.C), .inr (.inl Qz.ef))), (tv, .inr (12, MF 13 (tw V))), (V.au, .inl (cC, V.U, .inl V.un))] := hD
              rw [rf_u7] at hP hD
              have hP : va_P (dC, dI) classes [(mo, .inr (13, MF 30 (rf (rs v Qz o) ((skipH f n j2) + 1) b3))), (qx, .inl (cB, NN, .inl f)), (Qz.qq, .inl (cI, (8 * Qz.C), .inl Qz.qf)), (Qz.qe, .inl (cL, (3 * Qz.C), .inr (.inl Qz.ef))), (tv, .inr (12, MF 13 (tw V))), (V.au, .inl (cC, V.U, .inl V.un))] H := hP
              have hD : va_D A [(mo, .inr (13, MF 30 (rf (rs v Qz o) ((skipH f n j2) + 1) b3))), (qx, .inl (cB, NN, .inl f)), (Qz.qq, .inl (cI, (8 * Qz.C), .inl Qz.qf)), (Qz.qe, .inl (cL, (3 * Qz.C), .inr (.inl Qz.ef))), (tv, .inr (12, MF 13 (tw V))), (V.au, .inl (cC, V.U, .inl V.un))] := hD
              refine lv_iload_n hx hb d_Mo_selector_384 rfl (lv_at hl 4 rfl) ?_
              have hfin : selP f n (orL f n) true i = some (((skipH f n j2) + 1), false, slcS a0 e0 1) := by rw [hsl2]; unfold slT; rw [if_neg (fun h => h (h_r5.symm.trans c313)), if_neg (fun h => h.elim (fun h => c350 (h_r6.trans h)) (by rw [← h_r8]; exact h_d8.2 c360))]; rfl
              have hSE : SELp O Qz V Q.R Qz.R Q.R (slcS a0 e0 1) := ⟨Nat.le_refl _, by omega, Or.inr (Or.inr (Or.inr (Or.inl ⟨hk0_Qz, hsb.c0⟩)))⟩
              refine w_same (fun hq => ?_)
              refine W.widen (k := kcap Q (Q.R + 8 * (n - i) + 4) + qcap V (V.us + (n + 12 - i))) (n := 22 * kcap Q (Q.R + 8 * (n - i) + 4) + 2 * qcap V (V.us + (n + 12 - i))) hfit_QzV.1 hfit_QzV.2 ?_
              have hPo : QPo n i 4 Q V (Qz, V, ((skipH f n j2) + 1), b3, o) := ⟨hQk_Qz, hG_QzV, ⟨[], TX.rf hTk_V, Nat.zero_le _⟩, by show Q.R ≤ Qz.R; omega, by show Qz.R ≤ Q.R + 8 * (n - i) + 4; omega⟩
              exact W.iret (v := nI Q.R) hx hb hr (fun t9 ht hW => ⟨⟨nI Q.R, (Qz, V, ((skipH f n j2) + 1), b3, o), rfl, ⟨hPo, Or.inl ⟨false, slcS a0 e0 1, rfl, hfin, hSE, ⟨fun h => absurd h (by decide), fun h => absurd h (by rw [hk0_Qz]; decide)⟩, hl1_Qz, hEx_QzV, by show Qz.R + 8 * i + 7 ≤ Q.R + 8 * ((skipH f n j2) + 1); omega, by show V.us + i ≤ V.us + ((skipH f n j2) + 1); omega, by show ((skipH f n j2) + 1) ≤ n; omega, by show Q.R < Qz.R; omega, rfl⟩⟩, ⟨by rw [ht]; exact hP, va_K.moved hW.alike hK, hD⟩, by rw [ht]; exact hq⟩, hS.F ht⟩) hS.2.2 d_Mo_selector_385
            · refine lv_aload_n hx hb d_Mo_selector_363 rfl (lv_at hl 1 rfl) ?_
              refine lv_iload_n hx hb d_Mo_selector_364 rfl (lv_at hl 4 rfl) ?_
              refine lv_iconst (v := 2) hx hb d_Mo_selector_365 (by decide) ?_
              refine W.eq (g2 := F0 m 366 ls [.int (nI 2), .int (nI Q.R), .ref mo]) rfl ?_
              have hPc := hP.sub (ws' := [(mo, .inr (13, MF 30 (rf (rs v Qz o) (skipH f n ((skipH f n j2) + 1)) b3))), (qx, .inl (cB, NN, .inl f)), (Qz.qq, .inl (cI, (8 * Qz.C), .inl Qz.qf)), (Qz.qe, .inl (cL, (3 * Qz.C), .inr (.inl Qz.ef)))]) [0, 1, 2, 3] rfl
              have hDc := hD.sub (ws' := [(mo, .inr (13, MF 30 (rf (rs v Qz o) (skipH f n ((skipH f n j2) + 1)) b3))), (qx, .inl (cB, NN, .inl f)), (Qz.qq, .inl (cI, (8 * Qz.C), .inl Qz.qf)), (Qz.qe, .inl (cL, (3 * Qz.C), .inr (.inl Qz.ef)))]) [0, 1, 2, 3] (by decide) rfl
              have hKc := hK.sub (tys' := [(cB, .byte), (cI, .int), (cL, .long)]) [0, 1, 2] rfl
              have hFc := va_free (wc := [(mo, .inr (13, MF 30 (rf (rs v Qz o) (skipH f n ((skipH f n j2) + 1)) b3))), (qx, .inl (cB, NN, .inl f)), (Qz.qq, .inl (cI, (8 * Qz.C), .inl Qz.qf)), (Qz.qe, .inl (cL, (3 * Qz.C), .inr (.inl Qz.ef)))]) hD hS hA [0, 1, 2, 3] rfl
              refine va_calli (va_runV (As := [.int (nI Q.R), .int (nI 2)]) (rest := []) ⟨hx, hb, hml, hown, hts⟩ (c_Mo_whole l dC dI mo H v cB cI cL qx NN f n Qz o (skipH f n ((skipH f n j2) + 1)) b3 Q.R 2 hnN (by omega) (by omega) h6 h8 hQk_Qz (by omega) (by decide)) (cwV 2 hts (gt_V (own := R_Mo) (C := R_Mo) (i := 303) (y := y_Mo_whole) i_Mo_whole w_1465 w_1467 (gt_sel (y := y_Mo_whole) (n := 30) (by decide +kernel)) w_7) rfl rfl rfl (by decide +kernel) ⟨Nat.le_trans (m := 7) (Nat.le_of_ble_eq_true rfl) (Nat.le_add_right 7 F), Nat.le_trans (m := 200) (Nat.le_of_ble_eq_true rfl) (Nat.le_add_right 200 L)⟩) ⟨mp_blind, va_recv hKc hPc (ci := 13) (q0 := 0) rfl rfl, fun U hU hW => ⟨rfl, hU, by rw [hU]; exact hPc, va_K.moved hW.alike hKc, hDc.weaken (fun _ _ _ _ => trivial)⟩⟩ rfl rfl hl.1 rfl (lv_room (Nat.le_of_ble_eq_true rfl)) d_Mo_selector_366 ⟨hfit_QzV.1, hfit_QzV.2⟩) hS (fun q _ h => hFc q h) hFc (fun r0 ⟨j5, b_j5, qf2, ef2⟩ t9 H1 locs ht hvm hw hB hz1 hk1 hS => ?_)
              obtain ⟨hP1, hK1, hD1⟩ := hB
              rw [ht] at hP1
              obtain ⟨hP, hD⟩ := va_join (wr := [(tv, .inr (12, MF 13 (tw V))), (V.au, .inl (cC, V.U, .inl V.un))]) (w1 := [(mo, .inr (13, MF 30 (rf (rs v Qz o) j5 b_j5))), (qx, .inl (cB, NN, .inl f)), (Qz.qq, .inl (cI, (8 * Qz.C), .inl qf2)), (Qz.qe, .inl (cL, (3 * Qz.C), .inr (.inl ef2)))]) hP hD [0, 1, 2, 3] [4, 5] rfl rfl (by decide) (by decide) hk1 hFc hP1 hD1
              generalize H1 = H at hP hS ⊢
              have hP : va_P (dC, dI) classes [(tv, .inr (12, MF 13 (tw V))), (V.au, .inl (cC, V.U, .inl V.un)), (mo, .inr (13, MF 30 (rf (rs v Qz o) j5 b_j5))), (qx, .inl (cB, NN, .inl f)), (Qz.qq, .inl (cI, (8 * Qz.C), .inl qf2)), (Qz.qe, .inl (cL, (3 * Qz.C), .inr (.inl ef2)))] H := hP
              have hD : va_D A [(tv, .inr (12, MF 13 (tw V))), (V.au, .inl (cC, V.U, .inl V.un)), (mo, .inr (13, MF 30 (rf (rs v Qz o) j5 b_j5))), (qx, .inl (cB, NN, .inl f)), (Qz.qq, .inl (cI, (8 * Qz.C), .inl qf2)), (Qz.qe, .inl (cL, (3 * Qz.C), .inr (.inl ef2)))] := hD
              have hP := hP.sub (ws' := [(mo, .inr (13, MF 30 (rf (rs v Qz o) j5 b_j5))), (qx, .inl (cB, NN, .inl f)), (Qz.qq, .inl (cI, (8 * Qz.C), .inl qf2)), (Qz.qe, .inl (cL, (3 * Qz.C), .inr (.inl ef2))), (tv, .inr (12, MF 13 (tw V))), (V.au, .inl (cC, V.U, .inl V.un))]) [2, 3, 4, 5, 0, 1] rfl
              have hD := hD.sub (ws' := [(mo, .inr (13, MF 30 (rf (rs v Qz o) j5 b_j5))), (qx, .inl (cB, NN, .inl f)), (Qz.qq, .inl (cI, (8 * Qz.C), .inl qf2)), (Qz.qe, .inl (cL, (3 * Qz.C), .inr (.inl ef2))), (tv, .inr (12, MF 13 (tw V))), (V.au, .inl (cC, V.U, .inl V.un))]) [2, 3, 4, 5, 0, 1] (by decide) rfl
              rcases hw with ⟨hw1, val_j5, hw2, hw3, hw4, hw5⟩ | ⟨hw1, hw2, hw3, hw4⟩
              · have hw_j5 : whM f n (skipH f n ((skipH f n j2) + 1)) = some (val_j5, j5) := hw2
                have hw3 : qf2 = upd Qz.qf (8 * Q.R + 2) (Qz.qf (8 * Q.R + 2) ||| 1 <<< (nI 2 &&& 31)) := hw3
                have hw4 : ef2 = vp_updL Qz.ef (3 * Q.R + 2) val_j5 := hw4
                have hn_j5 : j5 ≤ n := hw5
                have hlt_j5 := whM_lt hw_j5
                subst hw1
                obtain ⟨Qd, e_Qd⟩ : ∃ z : QS, z = QS.mk Qz.C Qz.R Qz.qq Qz.qe qf2 ef2 := ⟨_, rfl⟩
                have hP : va_P (dC, dI) classes [(mo, .inr (13, MF 30 (rf (rs v Qd o) j5 b_j5))), (qx, .inl (cB, NN, .inl f)), (Qd.qq, .inl (cI, (8 * Qd.C), .inl Qd.qf)), (Qd.qe, .inl (cL, (3 * Qd.C), .inr (.inl Qd.ef))), (tv, .inr (12, MF 13 (tw V))), (V.au, .inl (cC, V.U, .inl V.un))] H := by subst e_Qd; exact hP
                have hD : va_D A [(mo, .inr (13, MF 30 (rf (rs v Qd o) j5 b_j5))), (qx, .inl (cB, NN, .inl f)), (Qd.qq, .inl (cI, (8 * Qd.C), .inl Qd.qf)), (Qd.qe, .inl (cL, (3 * Qd.C), .inr (.inl Qd.ef))), (tv, .inr (12, MF 13 (tw V))), (V.au, .inl (cC, V.U, .inl V.un))] := by subst e_Qd; exact hD
                have hf_Qd : Qd.C = Qz.C ∧ Qd.R = Qz.R ∧ Qd.qf = qf2 := by rw [e_Qd]; exact ⟨rfl, rfl, rfl⟩
                have he_Qd : Qd.ef = vp_updL Qz.ef (3 * Q.R + 2) val_j5 := by rw [e_Qd]; exact hw4
                have h2_Qd : Qd.qf (8 * Q.R + 2) = Qz.qf (8 * Q.R + 2) ||| 1 <<< (nI 2 &&& 31) := by rw [hf_Qd.2.2, hw3]; exact pk_us
                have hev_Qd : Qd.ef (3 * Q.R + 2) = val_j5 := by rw [he_Qd]; exact updL_s
                have hQk_Qd : QOK Qd := by rw [e_Qd, hw4]; exact ⟨hQk_Qz.1, hQk_Qz.2.1, hQk_Qz.2.2.1, QOK_upd hQk_Qz.2.2.2 (whM_gL hw_j5)⟩
                have hG_QdV : GQ (Q.R + 8 * (n - i) + 4) (V.us + (n + 12 - i)) Q V Qd V := by unfold GQ at hG_QzV ⊢; rw [hf_Qd.1]; exact hG_QzV
                refine w_same (fun hq => ?_)
                refine w_tight (k := cQ Q V Qd V) (n := sQ Q V Qd V) (by unfold cQ sQ at hq ⊢; rw [hf_Qd.1]; exact hq) ?_
                have hR_Qd := hf_Qd.2.1
                have hqb_QdV : Qd.R ≤ Qd.C ∧ Qd.C ≤ 100000 := ⟨hQk_Qd.2.2.1, hQk_Qd.2.1⟩
                have hfit_QdV := hG_QdV.fits
                have hk0_Qd : Qd.qf (8 * Q.R + 0) = 4 := by rw [hf_Qd.2.2, hw3, pk_un (by omega)]; exact hk0_Qz
                have hl1_Qd : Qd.qf (8 * Q.R + 1) = -1 := by rw [hf_Qd.2.2, hw3, pk_un (by omega)]; exact hl1_Qz
                have hEx_QdV : alr Q V Qd V 0 Q.R := hEx_QzV.tr (alr_who (hf_Qd.2.2.trans hw3) he_Qd (by decide) (by omega))
                refine lv_if_eq (tgt := 376) hx hb d_Mo_selector_369 (by decide) (fun h => absurd h (by decide)) (fun _ => ?_)
                refine lv_iload_n hx hb d_Mo_selector_372 rfl (lv_at hl 4 rfl) ?_
                refine lv_goto (tgt := 377) hx hb d_Mo_selector_373 (by decide) ?_
                have hfin : selP f n (orL f n) true i = some (j5, false, slcS a0 e0 val_j5) := by rw [hsl2]; unfold slT; rw [if_neg (fun h => h (h_r5.symm.trans c313)), if_pos (Or.inr (by rw [← h_r8]; exact h_d8.1 c360)), hw_j5]; rfl
                have hSE : SELp O Qd V Q.R Qd.R Q.R (slcS a0 e0 val_j5) := ⟨Nat.le_refl _, by omega, Or.inr (Or.inr (Or.inr (Or.inl ⟨hk0_Qd, hsb.c1 h2_Qd (by rw [he_Qd]; exact updL_n (by omega)) (by rw [he_Qd]; exact updL_n (by omega)) hev_Qd⟩)))⟩
                refine w_same (fun hq => ?_)
                refine W.widen (k := kcap Q (Q.R + 8 * (n - i) + 4) + qcap V (V.us + (n + 12 - i))) (n := 22 * kcap Q (Q.R + 8 * (n - i) + 4) + 2 * qcap V (V.us + (n + 12 - i))) hfit_QdV.1 hfit_QdV.2 ?_
                have hPo : QPo n i 4 Q V (Qd, V, j5, b_j5, o) := ⟨hQk_Qd, hG_QdV, ⟨[], TX.rf hTk_V, Nat.zero_le _⟩, by show Q.R ≤ Qd.R; omega, by show Qd.R ≤ Q.R + 8 * (n - i) + 4; omega⟩
                exact W.iret (v := nI Q.R) hx hb hr (fun t9 ht hW => ⟨⟨nI Q.R, (Qd, V, j5, b_j5, o), rfl, ⟨hPo, Or.inl ⟨false, slcS a0 e0 val_j5, rfl, hfin, hSE, ⟨fun h => absurd h (by decide), fun h => absurd h (by rw [hk0_Qd]; decide)⟩, hl1_Qd, hEx_QdV, by show Qd.R + 8 * i + 7 ≤ Q.R + 8 * j5; omega, by show V.us + i ≤ V.us + j5; omega, by show j5 ≤ n; omega, by show Q.R < Qd.R; omega, rfl⟩⟩, ⟨by rw [ht]; exact hP, va_K.moved hW.alike hK, hD⟩, by rw [ht]; exact hq⟩, hS.F ht⟩) hS.2.2 d_Mo_selector_377
              · have hw_j5 : whM f n (skipH f n ((skipH f n j2) + 1)) = none := hw2
                have hw3 : qf2 = Qz.qf := hw3
                have hw4 : ef2 = Qz.ef := hw4
                subst hw1
                subst hw3
                subst hw4
                have hP : va_P (dC, dI) classes [(mo, .inr (13, MF 30 (rf (rs v Qz o) j5 b_j5))), (qx, .inl (cB, NN, .inl f)), (Qz.qq, .inl (cI, (8 * Qz.C), .inl Qz.qf)), (Qz.qe, .inl (cL, (3 * Qz.C), .inr (.inl Qz.ef))), (tv, .inr (12, MF 13 (tw V))), (V.au, .inl (cC, V.U, .inl V.un))] H := hP
                have hD : va_D A [(mo, .inr (13, MF 30 (rf (rs v Qz o) j5 b_j5))), (qx, .inl (cB, NN, .inl f)), (Qz.qq, .inl (cI, (8 * Qz.C), .inl Qz.qf)), (Qz.qe, .inl (cL, (3 * Qz.C), .inr (.inl Qz.ef))), (tv, .inr (12, MF 13 (tw V))), (V.au, .inl (cC, V.U, .inl V.un))] := hD
                refine lv_if_eq (tgt := 376) hx hb d_Mo_selector_369 (by decide) (fun _ => ?_) (fun h => absurd (by decide) h)
                refine lv_iconst (v := (-1)) hx hb d_Mo_selector_376 (by decide) ?_
                have hfin : selP f n (orL f n) true i = none := by rw [hsl2]; unfold slT; rw [if_neg (fun h => h (h_r5.symm.trans c313)), if_pos (Or.inr (by rw [← h_r8]; exact h_d8.1 c360)), hw_j5]; rfl
                refine w_same (fun hq => ?_)
                refine W.widen (k := kcap Q (Q.R + 8 * (n - i) + 4) + qcap V (V.us + (n + 12 - i))) (n := 22 * kcap Q (Q.R + 8 * (n - i) + 4) + 2 * qcap V (V.us + (n + 12 - i))) hfit_QzV.1 hfit_QzV.2 ?_
                have hPo : QPo n i 4 Q V (Qz, V, j5, b_j5, o) := ⟨hQk_Qz, hG_QzV, ⟨[], TX.rf hTk_V, Nat.zero_le _⟩, by show Q.R ≤ Qz.R; omega, by show Qz.R ≤ Q.R + 8 * (n - i) + 4; omega⟩
                exact W.iret (v := -1) hx hb hr (fun t9 ht hW => ⟨⟨-1, (Qz, V, j5, b_j5, o), rfl, ⟨hPo, Or.inr ⟨rfl, hfin⟩⟩, ⟨by rw [ht]; exact hP, va_K.moved hW.alike hK, hD⟩, by rw [ht]; exact hq⟩, hS.F ht⟩) hS.2.2 d_Mo_selector_377
        · refine lv_aload_n hx hb d_Mo_selector_316 rfl (lv_at hl 1 rfl) ?_
          refine lv_iload hx hb d_Mo_selector_317 (lv_at hl 0 rfl) ?_
          refine va_put (D := (dC, dI)) (ci := 13) (v := .int (nI j2)) (ty := .int) (C := R_Mo) (T := F_Mo) (N := 30) hx hb hts in_Mo t_Mo t_Mo_ok n_Mo hown hK hP hD hS 0 rfl rfl 7 (by decide) (hts _ w_1096) (fun _ h9 => h9) rfl (by decide +kernel) rfl rfl (by rw [MFl]; decide) d_Mo_selector_319 (fun H locs hP hD hS => ?_)
          rw [MFs (n := 30) (k := 7) (by decide)] at hP hD
          have hP : va_P (dC, dI) classes [(mo, .inr (13, MF 30 (va_up (rf (rs v Qz o) (skipH f n j2) b3) 7 (.int (nI j2))))), (qx, .inl (cB, NN, .inl f)), (Qz.qq, .inl (cI, (8 * Qz.C), .inl Qz.qf)), (Qz.qe, .inl (cL, (3 * Qz.C), .inr (.inl Qz.ef))), (tv, .inr (12, MF 13 (tw V))), (V.au, .inl (cC, V.U, .inl V.un))] H := hP
          have hD : va_D A [(mo, .inr (13, MF 30 (va_up (rf (rs v Qz o) (skipH f n j2) b3) 7 (.int (nI j2))))), (qx, .inl (cB, NN, .inl f)), (Qz.qq, .inl (cI, (8 * Qz.C), .inl Qz.qf)), (Qz.qe, .inl (cL, (3 * Qz.C), .inr (.inl Qz.ef))), (tv, .inr (12, MF 13 (tw V))), (V.au, .inl (cC, V.U, .inl V.un))] := hD
          rw [rf_u7] at hP hD
          have hP : va_P (dC, dI) classes [(mo, .inr (13, MF 30 (rf (rs v Qz o) j2 b3))), (qx, .inl (cB, NN, .inl f)), (Qz.qq, .inl (cI, (8 * Qz.C), .inl Qz.qf)), (Qz.qe, .inl (cL, (3 * Qz.C), .inr (.inl Qz.ef))), (tv, .inr (12, MF 13 (tw V))), (V.au, .inl (cC, V.U, .inl V.un))] H := hP
          have hD : va_D A [(mo, .inr (13, MF 30 (rf (rs v Qz o) j2 b3))), (qx, .inl (cB, NN, .inl f)), (Qz.qq, .inl (cI, (8 * Qz.C), .inl Qz.qf)), (Qz.qe, .inl (cL, (3 * Qz.C), .inr (.inl Qz.ef))), (tv, .inr (12, MF 13 (tw V))), (V.au, .inl (cC, V.U, .inl V.un))] := hD
          refine lv_iload_n hx hb d_Mo_selector_322 rfl (lv_at hl 4 rfl) ?_
          have hfin : selP f n (orL f n) true i = some (j2, false, slcS a0 e0 1) := by rw [hsl2]; unfold slT; rw [if_pos (fun h => c313 (h_r5.trans h))]; rfl
          have hSE : SELp O Qz V Q.R Qz.R Q.R (slcS a0 e0 1) := ⟨Nat.le_refl _, by omega, Or.inr (Or.inr (Or.inr (Or.inl ⟨hk0_Qz, hsb.c0⟩)))⟩
          refine w_same (fun hq => ?_)
          refine W.widen (k := kcap Q (Q.R + 8 * (n - i) + 4) + qcap V (V.us + (n + 12 - i))) (n := 22 * kcap Q (Q.R + 8 * (n - i) + 4) + 2 * qcap V (V.us + (n + 12 - i))) hfit_QzV.1 hfit_QzV.2 ?_
          have hPo : QPo n i 4 Q V (Qz, V, j2, b3, o) := ⟨hQk_Qz, hG_QzV, ⟨[], TX.rf hTk_V, Nat.zero_le _⟩, by show Q.R ≤ Qz.R; omega, by show Qz.R ≤ Q.R + 8 * (n - i) + 4; omega⟩
          exact W.iret (v := nI Q.R) hx hb hr (fun t9 ht hW => ⟨⟨nI Q.R, (Qz, V, j2, b3, o), rfl, ⟨hPo, Or.inl ⟨false, slcS a0 e0 1, rfl, hfin, hSE, ⟨fun h => absurd h (by decide), fun h => absurd h (by rw [hk0_Qz]; decide)⟩, hl1_Qz, hEx_QzV, by show Qz.R + 8 * i + 7 ≤ Q.R + 8 * j2; omega, by show V.us + i ≤ V.us + j2; omega, by show j2 ≤ n; omega, by show Q.R < Qz.R; omega, rfl⟩⟩, ⟨by rw [ht]; exact hP, va_K.moved hW.alike hK, hD⟩, by rw [ht]; exact hq⟩, hS.F ht⟩) hS.2.2 d_Mo_selector_323
