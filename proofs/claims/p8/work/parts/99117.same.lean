set_option maxHeartbeats 4000000 in
set_option maxRecDepth 100000 in
/-- QueryBench.sameText: whether the texts are the same -/
theorem f_QB_sameText (l : Launch) (dC : Nat → ClassId) (dI : Nat → Nat → Nat) (sz : Heap) (cI cV : ClassId) (E lv : Nat → Nat) (L : List Nat) (f : Nat → va_E) (hO : PO cI cV E lv L f) (a b : Nat) (ha : E a = 4) (hb9 : E b = 4) : Met l y_QB_sameText (k_QB_sameText :: gtbl) ({ frames := 0, cells := 0, slots := 0, locals := 0 }) (va_Pc [.ref a, .ref b] (mq dC dI ([] ++ va_pl L f) [(cI, .int), (cV, .object "QueryBench$Value")] sz)) (vp_Si (fun (r : Int32) => Bo r ∧ ((r = 1 ∧ txL f a = txL f b) ∨ (r = 0 ∧ ¬ txL f a = txL f b)))) 0 0 (fun _ => False) := by
  refine Met.ofW (cc := b_QB_sameText) (maxL := 3) (ret := (some .boolean)) (by decide) rfl ?_
  intro p e s m args below meth c s₁ B hml hv
  obtain ⟨rfl, hsz, hP, hK, hN⟩ := hv
  have hx := B.exec
  have hb := B.bytes
  have hr := B.returns
  have hts0 := atoms_spec (ws := k_QB_sameText :: gtbl) B.pre
  have hts := fun w h => hts0 w (List.mem_cons_of_mem _ h)
  have hown : s.vm.findClass R_QB = some m.cls := findClass_of_methodNamed B.named
  have hlocks := B.notSynchronized
  subst hsz
  have hP : va_P (dC, dI) classes ([] ++ va_pl L f) s.heap := hP
  have hl := lv_entry ([.ref a, .ref b]) (n := 3) (Nat.le_of_ble_eq_true rfl)
  rw [lg_entry_eq]
  generalize (lg_sl ([.ref a, .ref b]) ++ List.replicate (3 - (lg_sl ([.ref a, .ref b])).length) Slot.unset).toArray = ls at hl ⊢
  have hl : lv_has ls 3 [(0, .ref a), (1, .ref b)] := hl
  refine lv_aload_n hx hb d_QB_sameText_0 rfl (lv_at hl 0 rfl) ?_
  obtain ⟨n1, g2, ef3, hn4⟩ := hO.txt (ha)
  refine vq_alen hx hb hK hP 0 (hO.inL (a := a) (by rw [ha]; decide)) ef3 rfl d_QB_sameText_1 ?_
  refine lv_aload_n hx hb d_QB_sameText_2 rfl (lv_at hl 1 rfl) ?_
  obtain ⟨n5, g6, ef7, hn8⟩ := hO.txt (hb9)
  refine vq_alen hx hb hK hP 0 (hO.inL (a := b) (by rw [hb9]; decide)) ef7 rfl d_QB_sameText_3 ?_
  refine lv_icmp_eq (tgt := 9) hx hb d_QB_sameText_4 (by decide) (fun c4 => ?_) (fun c4 => ?_)
  · have hnn : n1 = n5 := by rw [nI_eq (by omega) (by omega)] at c4; exact c4
    refine lv_iconst (v := 0) hx hb d_QB_sameText_9 (by decide) ?_
    refine lv_istore_n (lv' := [(2, .int 0), (0, .ref a), (1, .ref b)]) hx hb d_QB_sameText_10 rfl hl (by decide) rfl (fun ls hl => ?_)
    refine w_loopR (nL := 3) 11 (σ := Nat) (fun i => i ≤ 4096 ∧ ∀ j, j < i → g2 j = g6 j) (fun i => 4096 - i) (fun i => [(0, .ref a), (1, .ref b), (2, .int (nI i))]) ?_ 0 ⟨Nat.zero_le _, fun j h => absurd h (Nat.not_lt_zero _)⟩ (lv_sub hl [1, 2, 0] rfl)
    rintro i ls hI ih hl
    have hl : lv_has ls 3 [(0, .ref a), (1, .ref b), (2, .int (nI i))] := hl
    obtain ⟨hI, hg⟩ := hI
    have hI : i ≤ 4096 := hI
    have hg : ∀ j, j < i → g2 j = g6 j := hg
    refine lv_iload_n hx hb d_QB_sameText_11 rfl (lv_at hl 2 rfl) ?_
    refine lv_aload_n hx hb d_QB_sameText_12 rfl (lv_at hl 0 rfl) ?_
    refine vq_alen hx hb hK hP 0 (hO.inL (a := a) (by rw [ha]; decide)) ef3 rfl d_QB_sameText_13 ?_
    refine lv_icmp_ge (tgt := 34) hx hb d_QB_sameText_14 (by decide) (fun c14 => ?_) (fun c14 => ?_)
    · have hi : n1 ≤ i := by rw [nI_leI (by omega) (by omega)] at c14; omega
      refine lv_iconst (v := 1) hx hb d_QB_sameText_34 (by decide) ?_
      have e1 := txL_t ef3
      have e2 := txL_t ef7
      have e3 : txL f a = txL f b := by
        rw [e1, e2, ← hnn]
        exact List.map_congr_left (fun j hj => hg j (Nat.lt_of_lt_of_le (List.mem_range.mp hj) hi))
      exact W.zret (v := 1) hx hb hr rfl (fun t ht hW => ⟨1, rfl, ⟨Or.inr rfl, Or.inl ⟨rfl, e3⟩⟩, ht⟩) (fun _ h => nomatch h) d_QB_sameText_35
    · have hi : i < n1 := by rw [nI_leI (by omega) (by omega)] at c14; omega
      refine lv_aload_n hx hb d_QB_sameText_17 rfl (lv_at hl 0 rfl) ?_
      refine lv_iload_n hx hb d_QB_sameText_18 rfl (lv_at hl 2 rfl) ?_
      refine vq_iald hx hb hK hP 0 (hO.inL (a := a) (by rw [ha]; decide)) ef3 rfl (j := i) (by omega) hn4 d_QB_sameText_19 ?_
      refine lv_aload_n hx hb d_QB_sameText_20 rfl (lv_at hl 1 rfl) ?_
      refine lv_iload_n hx hb d_QB_sameText_21 rfl (lv_at hl 2 rfl) ?_
      refine vq_iald hx hb hK hP 0 (hO.inL (a := b) (by rw [hb9]; decide)) ef7 rfl (j := i) (by omega) hn8 d_QB_sameText_22 ?_
      refine lv_icmp_eq (tgt := 28) hx hb d_QB_sameText_23 (by decide) (fun c23 => ?_) (fun c23 => ?_)
      · refine lv_iinc (v := nI (i + 1)) (lv' := [(2, .int (nI (i + 1))), (0, .ref a), (1, .ref b)]) hx hb d_QB_sameText_28 hl (k := 2) rfl (nI_1 _) (by decide) rfl (fun ls hl => ?_)
        refine lv_goto (tgt := 11) hx hb d_QB_sameText_31 (by decide) ?_
        have hg2 : ∀ j, j < i + 1 → g2 j = g6 j := fun j hj => by
          by_cases e : j = i
          · rw [e]; exact c23
          · exact hg j (by omega)
        exact ih (i + 1) _ ⟨show i + 1 ≤ 4096 by omega, hg2⟩ (by show 4096 - (i + 1) < 4096 - i; omega) (lv_sub hl [1, 2, 0] rfl)
      · refine lv_iconst (v := 0) hx hb d_QB_sameText_26 (by decide) ?_
        have e1 := txL_t ef3
        have e2 := txL_t ef7
        have e3 : ¬ txL f a = txL f b := fun e => by
          rw [e1, e2] at e
          have e9 := congrArg (fun l => l[i]?) e
          simp only [List.getElem?_map] at e9
          rw [List.getElem?_range hi, List.getElem?_range (by rw [← hnn]; exact hi)] at e9
          exact c23 (Option.some.inj e9)
        exact W.zret (v := 0) hx hb hr rfl (fun t ht hW => ⟨0, rfl, ⟨Or.inl rfl, Or.inr ⟨rfl, e3⟩⟩, ht⟩) (fun _ h => nomatch h) d_QB_sameText_27
  · refine lv_iconst (v := 0) hx hb d_QB_sameText_7 (by decide) ?_
    have e1 := txL_t ef3
    have e2 := txL_t ef7
    have e3 : ¬ txL f a = txL f b := fun e => by
      rw [e1, e2] at e
      have e9 := congrArg List.length e
      rw [List.length_map, List.length_map, List.length_range, List.length_range] at e9
      exact c4 (by rw [e9])
    exact W.zret (v := 0) hx hb hr rfl (fun t ht hW => ⟨0, rfl, ⟨Or.inl rfl, Or.inr ⟨rfl, e3⟩⟩, ht⟩) (fun _ h => nomatch h) d_QB_sameText_8
