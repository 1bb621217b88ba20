/-- members from the i-th on are the same -/
def smI (u w : VU) (i : Nat) : Bool := if (lfU u).1 = 5 then sm5 ((ksU u).drop i) ((ksU w).drop i) else sm6 (ksU w) ((ksU u).drop i)
theorem CU.leaf0 {f : Nat → va_E} {a : Nat} {u : VU} (h : CU f a u) (h5 : (lfU u).1 < 5) : ksU u = [] := by
  obtain ⟨r, x⟩ := u
  cases r with
  | zero => rfl
  | succ r =>
    have h2 : x.2 = [] := h.2.1 h5
    show x.2.map _ = []
    rw [h2]
    rfl
theorem smI_e {u w : VU} {i : Nat} (hl : (ksU u).length = (ksU w).length) (hi : (ksU u).length ≤ i) : smI u w i = true := by
  unfold smI
  split
  · rw [sm5_n2 hi, decide_eq_true (by omega)]
  · exact sm6_e hi
theorem smI_5 {u w : VU} {i : Nat} {c d : List Int32 × VU} (h5 : (lfU u).1 = 5) (hc : (ksU u)[i]? = some c) (hd : (ksU w)[i]? = some d) : smI u w i = (sameU c.2 d.2 && smI u w (i + 1)) := by
  unfold smI
  rw [if_pos h5, if_pos h5]
  exact sm5_c hc hd
theorem smI_6 {u w : VU} {i : Nat} {c d : List Int32 × VU} (h5 : ¬ (lfU u).1 = 5) (hc : (ksU u)[i]? = some c) (hf : (ksU w).find? (fun d => decide (d.1 = c.1)) = some d) : smI u w i = (sameU c.2 d.2 && smI u w (i + 1)) := by
  unfold smI
  rw [if_neg h5, if_neg h5, sm6_c hc, hf]
theorem smI_n {u w : VU} {i : Nat} {c : List Int32 × VU} (h5 : ¬ (lfU u).1 = 5) (hc : (ksU u)[i]? = some c) (hf : (ksU w).find? (fun d => decide (d.1 = c.1)) = none) : smI u w i = false := by
  unfold smI
  rw [if_neg h5, sm6_c hc, hf]
  rfl
theorem smI_st {u w : VU} (h0 : u.1 = 0 → (lfU u).1 < 5) (hk : (lfU u).1 = (lfU w).1) (hl : (ksU u).length = (ksU w).length) (h5 : 5 ≤ (lfU u).1) (h6 : (lfU u).1 ≤ 6) : sameU u w = smI u w 0 := by
  unfold smI
  by_cases e : (lfU u).1 = 5
  · rw [if_pos e, List.drop_zero, List.drop_zero]; exact sameU_5 h0 hk e
  · rw [if_neg e, List.drop_zero]; exact sameU_6 h0 hk (by omega) hl
/-- the member of a name is the one that is found -/
theorem MBR.found {E : Nat → Nat} {f : Nat → va_E} {b : Nat} {w : VU} {t : List Int32} {z : Nat} (h : MBR E f b w t (some z)) : ∃ d, (ksU w).find? (fun d => decide (d.1 = t)) = some d ∧ CU f z d.2 := by
  rcases h.2 with ⟨-, i, c, b2, h1, h2, h3, h4, h5, h6⟩ | ⟨h1, -⟩
  · obtain rfl := Option.some.inj h4
    exact ⟨c, fndU_at (ksU w) i c h1 h2 h3, h6⟩
  · cases h1
theorem MBR.lost {E : Nat → Nat} {f : Nat → va_E} {b : Nat} {w : VU} {t : List Int32} (h : MBR E f b w t none) (h6 : (lfU w).1 = 6) : (ksU w).find? (fun d => decide (d.1 = t)) = none := by
  rcases h.2 with ⟨-, i, c, b2, h1, h2, h3, h4, h5, h6⟩ | ⟨-, h2⟩
  · cases h4
  · exact fndU_0 (ksU w) (h2 h6)
set_option maxHeartbeats 4000000 in
set_option maxRecDepth 100000 in
/-- Value.sameFrom: what it says -/
theorem g_Value_sameFrom (l : Launch) (dC : Nat → ClassId) (dI : Nat → Nat → Nat) (sz : Heap) (cI cV : ClassId) (E lv : Nat → Nat) (L : List Nat) (f : Nat → va_E) (hO : PO cI cV E lv L f) : ∀ (k d : Nat), d + k = 33 → ∀ (a b : Nat), isF E a → isF E b → ∀ (u w : VU), CU f a u → CU f b w → u.1 + d ≤ 32 → Met l y_Value_sameFrom (k_Value_sameFrom :: gtbl) ({ frames := 4 + k, cells := 0, slots := 0, locals := 200 + 40 * k }) (va_Pc [.ref a, .ref b, .int (nI d)] (mq dC dI ([] ++ va_pl L f) [(cI, .int), (cV, .object "QueryBench$Value")] sz)) (vp_Si (fun (r : Int32) => r = bI (sameU u w))) 0 0 (fun _ => False) := by
  intro k
  induction k using Nat.strongRecOn with
  | _ k IH =>
    intro d hd a b ha hb9 u w hCa hCb hud
    refine Met.ofW (cc := b_Value_sameFrom) (maxL := 5) (ret := (some .boolean)) (by decide) rfl ?_
    intro p e s m args below meth c s₁ B hml hv
    obtain ⟨rfl, hsz, hP, hK, hN⟩ := hv
    have hx := B.exec
    have hb := B.bytes
    have hr := B.returns
    have hts0 := atoms_spec (ws := k_Value_sameFrom :: gtbl) B.pre
    have hts := fun w h => hts0 w (List.mem_cons_of_mem _ h)
    have hown : s.vm.findClass R_Value = some m.cls := findClass_of_methodNamed B.named
    have hlocks := B.notSynchronized
    subst hsz
    have hP : va_P (dC, dI) classes ([] ++ va_pl L f) s.heap := hP
    have hl := lv_entry ([.ref a, .ref b, .int (nI d)]) (n := 5) (Nat.le_of_ble_eq_true rfl)
    rw [lg_entry_eq]
    generalize (lg_sl ([.ref a, .ref b, .int (nI d)]) ++ List.replicate (5 - (lg_sl ([.ref a, .ref b, .int (nI d)])).length) Slot.unset).toArray = ls at hl ⊢
    have hl : lv_has ls 5 [(0, .ref a), (1, .ref b), (2, .int (nI d))] := hl
    refine lv_aload_n hx hb d_Value_sameFrom_0 rfl (lv_at hl 0 rfl) ?_
    obtain ⟨kd1, nu1, tx1, me1, pa1, na1, ix1, nm1, no1, sp1, ef1, hv1⟩ := hO.val ((isF.v ha))
    have hCla := hCa.get.1.of ef1
    obtain ⟨kd2, nu2, tx2, me2, pa2, na2, ix2, nm2, no2, sp2, ef2, hv2⟩ := hO.val ((isF.v hb9))
    have hClb := hCb.get.1.of ef2
    have hu0 := hCa.lf0
    refine vq_get (D := (dC, dI)) (ci := 9) (v := .int kd1) (C := R_Value) (T := F_Value) (N := 10) hx hb hts in_Value hown hK hP (hO.inV (isF.v ha)) ef1 rfl 0 (by decide) (hts _ z_312) (fun _ h9 => h9) rfl d_Value_sameFrom_1 ?_
    refine lv_aload_n hx hb d_Value_sameFrom_4 rfl (lv_at hl 1 rfl) ?_
    refine vq_get (D := (dC, dI)) (ci := 9) (v := .int kd2) (C := R_Value) (T := F_Value) (N := 10) hx hb hts in_Value hown hK hP (hO.inV (isF.v hb9)) ef2 rfl 0 (by decide) (hts _ z_312) (fun _ h9 => h9) rfl d_Value_sameFrom_5 ?_
    refine lv_icmp_ne (tgt := 28) hx hb d_Value_sameFrom_8 (by decide) (fun c8 => ?_) (fun c8 => ?_)
    · have hkk : ¬ (lfU u).1 = (lfU w).1 := fun q => c8 (hCla.1.trans ((by rw [q] : ckd (lfU u).1 = ckd (lfU w).1).trans hClb.1.symm))
      refine lv_iconst (v := 0) hx hb d_Value_sameFrom_28 (by decide) ?_
      exact W.zret (v := 0) hx hb hr rfl (fun t ht hW => ⟨0, rfl, (by rw [sameU_k hu0 hkk]; rfl), ht⟩) (fun _ h => nomatch h) d_Value_sameFrom_29
    · have hkk : (lfU u).1 = (lfU w).1 := ckd_inj hCla.2.1 hClb.2.1 (hCla.1.symm.trans (c8.trans hClb.1))
      refine lv_aload_n hx hb d_Value_sameFrom_11 rfl (lv_at hl 0 rfl) ?_
      refine vp_callSi (va_Run.run (va_runV (As := []) (rest := []) ⟨hx, hb, hml, hown, hts⟩ (c_Value_size l dC dI s.heap cI cV E lv L f hO a ha) (cwV 0 hts (gt_V (own := R_Value) (C := R_Value) (i := 19) (y := y_Value_size) i_Value_size z_865 z_866 z_867 z_14) rfl rfl rfl (by decide +kernel) ⟨by show 0 + 1 ≤ 4 + k; omega, by show 8 + (1 + 11) + 0 ≤ 200 + 40 * k; omega⟩) ⟨mq_blind, vq_recv hK hP rfl (hO.inV (isF.v ha)) ef1, fun U hU hW => ⟨rfl, hU, by rw [hU]; exact hP, va_K.moved hW.alike hK, hN.warm hW⟩⟩ rfl rfl hl.1 rfl (lv_room (Nat.le_of_ble_eq_true rfl)) d_Value_sameFrom_12 ⟨Nat.le_of_ble_eq_true rfl, Nat.le_of_ble_eq_true rfl⟩)) (fun r3 h_r3 => ?_)
      subst h_r3
      refine lv_aload_n hx hb d_Value_sameFrom_15 rfl (lv_at hl 1 rfl) ?_
      refine vp_callSi (va_Run.run (va_runV (As := []) (rest := [.int (nI (szF f a))]) ⟨hx, hb, hml, hown, hts⟩ (c_Value_size l dC dI s.heap cI cV E lv L f hO b hb9) (cwV 0 hts (gt_V (own := R_Value) (C := R_Value) (i := 19) (y := y_Value_size) i_Value_size z_865 z_866 z_867 z_14) rfl rfl rfl (by decide +kernel) ⟨by show 0 + 1 ≤ 4 + k; omega, by show 8 + (1 + 11) + 0 ≤ 200 + 40 * k; omega⟩) ⟨mq_blind, vq_recv hK hP rfl (hO.inV (isF.v hb9)) ef2, fun U hU hW => ⟨rfl, hU, by rw [hU]; exact hP, va_K.moved hW.alike hK, hN.warm hW⟩⟩ rfl rfl hl.1 rfl (lv_room (Nat.le_of_ble_eq_true rfl)) d_Value_sameFrom_16 ⟨Nat.le_of_ble_eq_true rfl, Nat.le_of_ble_eq_true rfl⟩)) (fun r4 h_r4 => ?_)
      subst h_r4
      refine lv_icmp_ne (tgt := 28) hx hb d_Value_sameFrom_19 (by decide) (fun c19 => ?_) (fun c19 => ?_)
      · have hsa := hO.szle ef1 hv1
        have hsb := hO.szle ef2 hv2
        have hll : ¬ (ksU u).length = (ksU w).length := fun q => c19 (by rw [hCa.get.2.1, hCb.get.2.1, q])
        have hk5 : 5 ≤ (lfU u).1 := Nat.le_of_not_lt (fun q => hll (by rw [hCa.leaf0 q, hCb.leaf0 (by omega)]))
        refine lv_iconst (v := 0) hx hb d_Value_sameFrom_28 (by decide) ?_
        exact W.zret (v := 0) hx hb hr rfl (fun t ht hW => ⟨0, rfl, (by rw [sameU_l hu0 hkk hk5 hCla.2.1 hll]; rfl), ht⟩) (fun _ h => nomatch h) d_Value_sameFrom_29
      · have hsa := hO.szle ef1 hv1
        have hsb := hO.szle ef2 hv2
        have hss : szF f a = szF f b := by have c19 := (by first | exact c19 | exact Classical.not_not.mp c19 : nI (szF f a) = nI (szF f b)); rw [nI_eq (by omega) (by omega)] at c19; exact c19
        have hll : (ksU u).length = (ksU w).length := by rw [← hCa.get.2.1, ← hCb.get.2.1]; exact hss
        refine lv_iload_n hx hb d_Value_sameFrom_22 rfl (lv_at hl 2 rfl) ?_
        refine lv_bipush (v := 32) hx hb d_Value_sameFrom_23 (by decide) ?_
        refine lv_icmp_le (tgt := 30) hx hb d_Value_sameFrom_25 (by decide) (fun c25 => ?_) (fun c25 => ?_)
        · refine lv_aload_n hx hb d_Value_sameFrom_30 rfl (lv_at hl 0 rfl) ?_
          refine vq_get (D := (dC, dI)) (ci := 9) (v := .int kd1) (C := R_Value) (T := F_Value) (N := 10) hx hb hts in_Value hown hK hP (hO.inV (isF.v ha)) ef1 rfl 0 (by decide) (hts _ z_312) (fun _ h9 => h9) rfl d_Value_sameFrom_31 ?_
          refine lv_iconst (v := 3) hx hb d_Value_sameFrom_34 (by decide) ?_
          refine lv_icmp_ne (tgt := 56) hx hb d_Value_sameFrom_35 (by decide) (fun c35 => ?_) (fun c35 => ?_)
          · refine lv_aload_n hx hb d_Value_sameFrom_56 rfl (lv_at hl 0 rfl) ?_
            refine vq_get (D := (dC, dI)) (ci := 9) (v := .int kd1) (C := R_Value) (T := F_Value) (N := 10) hx hb hts in_Value hown hK hP (hO.inV (isF.v ha)) ef1 rfl 0 (by decide) (hts _ z_312) (fun _ h9 => h9) rfl d_Value_sameFrom_57 ?_
            refine lv_iconst (v := 4) hx hb d_Value_sameFrom_60 (by decide) ?_
            refine lv_icmp_ne (tgt := 76) hx hb d_Value_sameFrom_61 (by decide) (fun c61 => ?_) (fun c61 => ?_)
            · refine lv_iconst (v := 0) hx hb d_Value_sameFrom_76 (by decide) ?_
              refine lv_istore_n (lv' := [(3, .int 0), (0, .ref a), (1, .ref b), (2, .int (nI d))]) hx hb d_Value_sameFrom_77 rfl hl (by decide) rfl (fun ls hl => ?_)
              have hk6 := hCla.2.1
              have hk3 : ¬ (lfU u).1 = 3 := fun q => c35 (hCla.1.trans ((ckd_n hCla.2.1 (Or.inr ⟨by decide, by decide⟩)).mpr q))
              have hk4 : ¬ (lfU u).1 = 4 := fun q => c61 (hCla.1.trans ((ckd_n hCla.2.1 (Or.inr ⟨by decide, by decide⟩)).mpr q))
              refine w_loopR (nL := 5) 78 (σ := Nat) (fun i => i ≤ 4096 ∧ (5 ≤ (lfU u).1 → sameU u w = smI u w i)) (fun i => 4096 - i) (fun i => [(0, .ref a), (1, .ref b), (2, .int (nI d)), (3, .int (nI i))]) ?_ 0 ⟨Nat.zero_le _, fun h5 => smI_st hu0 hkk hll h5 hk6⟩ (lv_sub hl [1, 2, 3, 0] rfl)
              rintro i ls hI ih hl
              have hl : lv_has ls 5 [(0, .ref a), (1, .ref b), (2, .int (nI d)), (3, .int (nI i))] := hl
              obtain ⟨hI, hsm⟩ := hI
              have hI : i ≤ 4096 := hI
              have hsm : 5 ≤ (lfU u).1 → sameU u w = smI u w i := hsm
              refine lv_iload_n hx hb d_Value_sameFrom_78 rfl (lv_at hl 3 rfl) ?_
              refine lv_aload_n hx hb d_Value_sameFrom_79 rfl (lv_at hl 0 rfl) ?_
              refine vp_callSi (va_Run.run (va_runV (As := []) (rest := [.int (nI i)]) ⟨hx, hb, hml, hown, hts⟩ (c_Value_size l dC dI s.heap cI cV E lv L f hO a ha) (cwV 0 hts (gt_V (own := R_Value) (C := R_Value) (i := 19) (y := y_Value_size) i_Value_size z_865 z_866 z_867 z_14) rfl rfl rfl (by decide +kernel) ⟨by show 0 + 1 ≤ 4 + k; omega, by show 8 + (1 + 11) + 0 ≤ 200 + 40 * k; omega⟩) ⟨mq_blind, vq_recv hK hP rfl (hO.inV (isF.v ha)) ef1, fun U hU hW => ⟨rfl, hU, by rw [hU]; exact hP, va_K.moved hW.alike hK, hN.warm hW⟩⟩ rfl rfl hl.1 rfl (lv_room (Nat.le_of_ble_eq_true rfl)) d_Value_sameFrom_80 ⟨Nat.le_of_ble_eq_true rfl, Nat.le_of_ble_eq_true rfl⟩)) (fun r5 h_r5 => ?_)
              subst h_r5
              refine lv_icmp_ge (tgt := 148) hx hb d_Value_sameFrom_83 (by decide) (fun c83 => ?_) (fun c83 => ?_)
              · have hie : szF f a ≤ i := by rw [nI_leI (by omega) (by omega)] at c83; omega
                refine lv_iconst (v := 1) hx hb d_Value_sameFrom_148 (by decide) ?_
                exact W.zret (v := 1) hx hb hr rfl (fun t ht hW => ⟨1, rfl, (by by_cases h5 : 5 ≤ (lfU u).1; (· rw [hsm h5, smI_e hll (by rw [← hCa.get.2.1]; exact hie)]; rfl); (· rw [sameU_0 hu0 hkk (by omega)]; rfl)), ht⟩) (fun _ h => nomatch h) d_Value_sameFrom_149
              · have hi : i < szF f a := by rw [nI_leI (by omega) (by omega)] at c83; omega
                have hiu : i < (ksU u).length := by rw [← hCa.get.2.1]; exact hi
                have hk5 : 5 ≤ (lfU u).1 := Nat.le_of_not_lt (fun q => by rw [hCa.leaf0 q] at hiu; exact absurd hiu (Nat.not_lt_zero _))
                obtain ⟨c9, hc9⟩ : ∃ c, (ksU u)[i]? = some c := ⟨_, List.getElem?_eq_getElem hiu⟩
                obtain ⟨z7, q1, q2, q3⟩ := hCa.get.2.2.2 i c9 hc9
                refine lv_aload_n hx hb d_Value_sameFrom_86 rfl (lv_at hl 0 rfl) ?_
                refine vq_get (D := (dC, dI)) (ci := 9) (v := .int kd1) (C := R_Value) (T := F_Value) (N := 10) hx hb hts in_Value hown hK hP (hO.inV (isF.v ha)) ef1 rfl 0 (by decide) (hts _ z_312) (fun _ h9 => h9) rfl d_Value_sameFrom_87 ?_
                refine lv_iconst (v := 5) hx hb d_Value_sameFrom_90 (by decide) ?_
                refine lv_icmp_ne (tgt := 103) hx hb d_Value_sameFrom_91 (by decide) (fun c91 => ?_) (fun c91 => ?_)
                · refine lv_aload_n hx hb d_Value_sameFrom_103 rfl (lv_at hl 1 rfl) ?_
                  refine lv_aload_n hx hb d_Value_sameFrom_104 rfl (lv_at hl 0 rfl) ?_
                  rcases me1 with _ | b6
                  · exact absurd (PO.mem0 ef1) (by omega)
                  · refine vq_get (D := (dC, dI)) (ci := 9) (v := .ref b6) (C := R_Value) (T := F_Value) (N := 10) hx hb hts in_Value hown hK hP (hO.inV (isF.v ha)) ef1 rfl 3 (by decide) (hts _ z_325) (fun _ h9 => h9) rfl d_Value_sameFrom_105 ?_
                    refine lv_iload_n hx hb d_Value_sameFrom_108 rfl (lv_at hl 3 rfl) ?_
                    obtain ⟨g7, hi7, ef7, hg7⟩ := hO.mem1 ef1 hv1 (isF.n1 ha)
                    have hn7 := hO.szle ef1 hv1
                    obtain ⟨me8, hm8, hf8, hnm8⟩ := hg7 i (by omega)
                    refine vq_aald hx hb hK hP 1 hi7 ef7 rfl (j := i) (by omega) hn7 hm8 d_Value_sameFrom_109 ?_
                    have hk5e : ¬ (lfU u).1 = 5 := fun q => c91 (hCla.1.trans ((ckd_n hCla.2.1 (Or.inr ⟨by decide, by decide⟩)).mpr q))
                    have q9 := q1.symm.trans ((memF_a ef1 ef7).trans hm8)
                    obtain ⟨kd9, nu9, tx9, me9, pa9, na9, ix9, nm9, no9, sp9, ef9, hv9⟩ := hO.val ((isF.v hf8))
                    rcases na9 with _ | b10
                    · refine vq_get (D := (dC, dI)) (ci := 9) (v := .null) (C := R_Value) (T := F_Value) (N := 10) hx hb hts in_Value hown hK hP (hO.inV (isF.v hf8)) ef9 rfl 5 (by decide) (hts _ z_331) (fun _ h9 => h9) rfl d_Value_sameFrom_110 ?_
                      exact absurd (show nmL f me8 = some c9.1 by rw [← Option.some.inj q9]; exact q3 (by have h9 := hk6; omega)) (by rw [nmL_v ef9]; exact fun h => by cases h)
                    · refine vq_get (D := (dC, dI)) (ci := 9) (v := .ref b10) (C := R_Value) (T := F_Value) (N := 10) hx hb hts in_Value hown hK hP (hO.inV (isF.v hf8)) ef9 rfl 5 (by decide) (hts _ z_331) (fun _ h9 => h9) rfl d_Value_sameFrom_110 ?_
                      have hnm : c9.1 = txL f b10 := by have h9 := q3 (by have h9 := hk6; omega); rw [Option.some.inj q9, nmL_v ef9] at h9; exact (Option.some.inj h9).symm
                      refine va_csq (va_Run.run (va_runV (As := [.ref b10]) (rest := []) ⟨hx, hb, hml, hown, hts⟩ (g_Value_member l dC dI s.heap cI cV E lv L f hO b hb9 w hCb b10 (hv9.2.2.2.1 b10 rfl)) (cwV 1 hts (gt_V (own := R_Value) (C := R_Value) (i := 46) (y := y_Value_member) i_Value_member z_934 z_862 z_863 z_14) rfl rfl rfl (by decide +kernel) ⟨by show 1 + 1 ≤ 4 + k; omega, by show 8 + (3 + 11) + 60 ≤ 200 + 40 * k; omega⟩) ⟨mq_blind, vq_recv hK hP rfl (hO.inV (isF.v hb9)) ef2, fun U hU hW => ⟨rfl, hU, by rw [hU]; exact hP, va_K.moved hW.alike hK, hN.warm hW⟩⟩ rfl rfl hl.1 rfl (lv_room (Nat.le_of_ble_eq_true rfl)) d_Value_sameFrom_113 ⟨Nat.le_of_ble_eq_true rfl, Nat.le_of_ble_eq_true rfl⟩)) (fun r11 h_r11 => ?_)
                      rw [← hnm] at h_r11
                      rcases r11 with _ | b12
                      · refine lv_astoreN (lv' := [(4, .null), (0, .ref a), (1, .ref b), (2, .int (nI d)), (3, .int (nI i))]) hx hb d_Value_sameFrom_116 hl (by decide) rfl (fun ls hl => ?_)
                        refine lv_aloadN hx hb d_Value_sameFrom_118 (lv_at hl 0 rfl) ?_
                        refine lv_ifnullN (tgt := 140) hx hb d_Value_sameFrom_120 (by decide) ?_
                        refine lv_iconst (v := 0) hx hb d_Value_sameFrom_140 (by decide) ?_
                        exact W.zret (v := 0) hx hb hr rfl (fun t ht hW => ⟨0, rfl, (by rw [hsm hk5, smI_n hk5e hc9 (h_r11.lost (by rw [← hkk]; have h9 := hk6; omega))]; rfl), ht⟩) (fun _ h => nomatch h) d_Value_sameFrom_141
                      · refine lv_astore (lv' := [(4, .ref b12), (0, .ref a), (1, .ref b), (2, .int (nI d)), (3, .int (nI i))]) hx hb d_Value_sameFrom_116 hl (by decide) rfl (fun ls hl => ?_)
                        refine lv_aload hx hb d_Value_sameFrom_118 (lv_at hl 0 rfl) ?_
                        refine lv_ifnull hx hb d_Value_sameFrom_120 ?_
                        refine lv_aload_n hx hb d_Value_sameFrom_123 rfl (lv_at hl 1 rfl) ?_
                        refine vq_get (D := (dC, dI)) (ci := 9) (v := .ref b6) (C := R_Value) (T := F_Value) (N := 10) hx hb hts in_Value hown hK hP (hO.inV (isF.v ha)) ef1 rfl 3 (by decide) (hts _ z_325) (fun _ h9 => h9) rfl d_Value_sameFrom_124 ?_
                        refine lv_iload_n hx hb d_Value_sameFrom_127 rfl (lv_at hl 4 rfl) ?_
                        obtain ⟨me13, hm13, hf13, hnm13⟩ := hg7 i (by omega)
                        refine vq_aald hx hb hK hP 1 hi7 ef7 rfl (j := i) (by omega) hn7 hm13 d_Value_sameFrom_128 ?_
                        have q8 := q1.symm.trans ((memF_a ef1 ef7).trans hm13)
                        have hCm : CU f me13 c9.2 := by rw [← Option.some.inj q8]; exact q2
                        refine lv_aload hx hb d_Value_sameFrom_129 (lv_at hl 0 rfl) ?_
                        refine lv_iload_n hx hb d_Value_sameFrom_131 rfl (lv_at hl 3 rfl) ?_
                        refine lv_iconst (v := 1) hx hb d_Value_sameFrom_132 (by decide) ?_
                        refine lv_iadd hx hb d_Value_sameFrom_133 ?_
                        refine W.eq (g2 := F0 m 134 ls [.int (nI (d + 1)), .ref b12, .ref me13]) (by rw [show ((nI d) + 1) = (nI (d + 1)) from nI_1 _]) ?_
                        obtain ⟨d9, hfd, r2⟩ := h_r11.found
                        have hstp := smI_6 (u := u) (w := w) hk5e hc9 hfd
                        have hdp9 := ksU_dep hc9
                        refine vp_callSi (va_Run.run (va_runS (As := [.ref me13, .ref b12, .int (nI (d + 1))]) (rest := []) ⟨hx, hb, hml, hown, hts⟩ (IH (k - 1) (by omega) (d + 1) (by omega) me13 b12 (hf13) ((h_r11.1 b12 rfl)) c9.2 d9.2 hCm r2 (by omega)) (va_cwS 3 hts (gt_S (own := R_Value) (i := 38) (y := y_Value_sameFrom) i_Value_sameFrom z_931 z_932 z_14) rfl rfl rfl (by decide +kernel) ⟨by show 4 + (k - 1) + 1 ≤ 4 + k; omega, by show 8 + (5 + 11) + (200 + 40 * (k - 1)) ≤ 200 + 40 * k; omega⟩) ⟨mq_blind, fun U hU hW => ⟨rfl, hU, by rw [hU]; exact hP, va_K.moved hW.alike hK, hN.warm hW⟩⟩ rfl rfl hl.1 rfl (lv_room (Nat.le_of_ble_eq_true rfl)) d_Value_sameFrom_134 ⟨Nat.le_of_ble_eq_true rfl, Nat.le_of_ble_eq_true rfl⟩)) (fun r14 h_r14 => ?_)
                        refine lv_if_ne (tgt := 142) hx hb d_Value_sameFrom_137 (by decide) (fun c137 => ?_) (fun c137 => ?_)
                        · refine lv_iinc (v := nI (i + 1)) (lv' := [(3, .int (nI (i + 1))), (4, .ref b12), (0, .ref a), (1, .ref b), (2, .int (nI d))]) hx hb d_Value_sameFrom_142 hl (k := 4) rfl (nI_1 _) (by decide) rfl (fun ls hl => ?_)
                          refine lv_goto (tgt := 78) hx hb d_Value_sameFrom_145 (by decide) ?_
                          exact ih (i + 1) _ ⟨show i + 1 ≤ 4096 by omega, fun h5 => by rw [hsm h5, hstp, (bI_01 h_r14).1 c137]; rfl⟩ (by show 4096 - (i + 1) < 4096 - i; omega) (lv_sub hl [2, 3, 4, 0] rfl)
                        · refine lv_iconst (v := 0) hx hb d_Value_sameFrom_140 (by decide) ?_
                          exact W.zret (v := 0) hx hb hr rfl (fun t ht hW => ⟨0, rfl, (by rw [hsm hk5, hstp, (bI_01 h_r14).2 c137]; rfl), ht⟩) (fun _ h => nomatch h) d_Value_sameFrom_141
                · refine lv_aload_n hx hb d_Value_sameFrom_94 rfl (lv_at hl 1 rfl) ?_
                  rcases me2 with _ | b15
                  · exact absurd (PO.mem0 ef2) (by omega)
                  · refine vq_get (D := (dC, dI)) (ci := 9) (v := .ref b15) (C := R_Value) (T := F_Value) (N := 10) hx hb hts in_Value hown hK hP (hO.inV (isF.v hb9)) ef2 rfl 3 (by decide) (hts _ z_325) (fun _ h9 => h9) rfl d_Value_sameFrom_95 ?_
                    refine lv_iload_n hx hb d_Value_sameFrom_98 rfl (lv_at hl 3 rfl) ?_
                    obtain ⟨g16, hi16, ef16, hg16⟩ := hO.mem1 ef2 hv2 (isF.n1 hb9)
                    have hn16 := hO.szle ef2 hv2
                    obtain ⟨me17, hm17, hf17, hnm17⟩ := hg16 i (by omega)
                    refine vq_aald hx hb hK hP 1 hi16 ef16 rfl (j := i) (by omega) hn16 hm17 d_Value_sameFrom_99 ?_
                    obtain ⟨d9, hd9⟩ : ∃ c, (ksU w)[i]? = some c := ⟨_, List.getElem?_eq_getElem (by omega)⟩
                    obtain ⟨z8, r1, r2, r3⟩ := hCb.get.2.2.2 i d9 hd9
                    obtain rfl := (Option.some.inj (r1.symm.trans ((memF_a ef2 ef16).trans hm17))).symm
                    have hk5e : (lfU u).1 = 5 := (ckd_n hCla.2.1 (Or.inr ⟨by decide, by decide⟩)).mp (hCla.1.symm.trans c91)
                    have hstp := smI_5 (u := u) (w := w) hk5e hc9 hd9
                    refine lv_goto (tgt := 116) hx hb d_Value_sameFrom_100 (by decide) ?_
                    refine lv_astore (lv' := [(4, .ref me17), (0, .ref a), (1, .ref b), (2, .int (nI d)), (3, .int (nI i))]) hx hb d_Value_sameFrom_116 hl (by decide) rfl (fun ls hl => ?_)
                    refine lv_aload hx hb d_Value_sameFrom_118 (lv_at hl 0 rfl) ?_
                    refine lv_ifnull hx hb d_Value_sameFrom_120 ?_
                    refine lv_aload_n hx hb d_Value_sameFrom_123 rfl (lv_at hl 1 rfl) ?_
                    rcases me1 with _ | b18
                    · exact absurd (PO.mem0 ef1) (by omega)
                    · refine vq_get (D := (dC, dI)) (ci := 9) (v := .ref b18) (C := R_Value) (T := F_Value) (N := 10) hx hb hts in_Value hown hK hP (hO.inV (isF.v ha)) ef1 rfl 3 (by decide) (hts _ z_325) (fun _ h9 => h9) rfl d_Value_sameFrom_124 ?_
                      refine lv_iload_n hx hb d_Value_sameFrom_127 rfl (lv_at hl 4 rfl) ?_
                      obtain ⟨g19, hi19, ef19, hg19⟩ := hO.mem1 ef1 hv1 (isF.n1 ha)
                      have hn19 := hO.szle ef1 hv1
                      obtain ⟨me20, hm20, hf20, hnm20⟩ := hg19 i (by omega)
                      refine vq_aald hx hb hK hP 1 hi19 ef19 rfl (j := i) (by omega) hn19 hm20 d_Value_sameFrom_128 ?_
                      have q8 := q1.symm.trans ((memF_a ef1 ef19).trans hm20)
                      have hCm : CU f me20 c9.2 := by rw [← Option.some.inj q8]; exact q2
                      refine lv_aload hx hb d_Value_sameFrom_129 (lv_at hl 0 rfl) ?_
                      refine lv_iload_n hx hb d_Value_sameFrom_131 rfl (lv_at hl 3 rfl) ?_
                      refine lv_iconst (v := 1) hx hb d_Value_sameFrom_132 (by decide) ?_
                      refine lv_iadd hx hb d_Value_sameFrom_133 ?_
                      refine W.eq (g2 := F0 m 134 ls [.int (nI (d + 1)), .ref me17, .ref me20]) (by rw [show ((nI d) + 1) = (nI (d + 1)) from nI_1 _]) ?_
                      have hdp9 := ksU_dep hc9
                      refine vp_callSi (va_Run.run (va_runS (As := [.ref me20, .ref me17, .int (nI (d + 1))]) (rest := []) ⟨hx, hb, hml, hown, hts⟩ (IH (k - 1) (by omega) (d + 1) (by omega) me20 me17 (hf20) (hf17) c9.2 d9.2 hCm r2 (by omega)) (va_cwS 3 hts (gt_S (own := R_Value) (i := 38) (y := y_Value_sameFrom) i_Value_sameFrom z_931 z_932 z_14) rfl rfl rfl (by decide +kernel) ⟨by show 4 + (k - 1) + 1 ≤ 4 + k; omega, by show 8 + (5 + 11) + (200 + 40 * (k - 1)) ≤ 200 + 40 * k; omega⟩) ⟨mq_blind, fun U hU hW => ⟨rfl, hU, by rw [hU]; exact hP, va_K.moved hW.alike hK, hN.warm hW⟩⟩ rfl rfl hl.1 rfl (lv_room (Nat.le_of_ble_eq_true rfl)) d_Value_sameFrom_134 ⟨Nat.le_of_ble_eq_true rfl, Nat.le_of_ble_eq_true rfl⟩)) (fun r21 h_r21 => ?_)
                      refine lv_if_ne (tgt := 142) hx hb d_Value_sameFrom_137 (by decide) (fun c137 => ?_) (fun c137 => ?_)
                      · refine lv_iinc (v := nI (i + 1)) (lv' := [(3, .int (nI (i + 1))), (4, .ref me17), (0, .ref a), (1, .ref b), (2, .int (nI d))]) hx hb d_Value_sameFrom_142 hl (k := 4) rfl (nI_1 _) (by decide) rfl (fun ls hl => ?_)
                        refine lv_goto (tgt := 78) hx hb d_Value_sameFrom_145 (by decide) ?_
                        exact ih (i + 1) _ ⟨show i + 1 ≤ 4096 by omega, fun h5 => by rw [hsm h5, hstp, (bI_01 h_r21).1 c137]; rfl⟩ (by show 4096 - (i + 1) < 4096 - i; omega) (lv_sub hl [2, 3, 4, 0] rfl)
                      · refine lv_iconst (v := 0) hx hb d_Value_sameFrom_140 (by decide) ?_
                        exact W.zret (v := 0) hx hb hr rfl (fun t ht hW => ⟨0, rfl, (by rw [hsm hk5, hstp, (bI_01 h_r21).2 c137]; rfl), ht⟩) (fun _ h => nomatch h) d_Value_sameFrom_141
            · refine lv_aload_n hx hb d_Value_sameFrom_64 rfl (lv_at hl 0 rfl) ?_
              rcases tx1 with _ | b22
              · exact absurd rfl ((hv1.2.2.2.2.2.2.1 (isF.n1 ha)).1 c61)
              · refine vq_get (D := (dC, dI)) (ci := 9) (v := .ref b22) (C := R_Value) (T := F_Value) (N := 10) hx hb hts in_Value hown hK hP (hO.inV (isF.v ha)) ef1 rfl 2 (by decide) (hts _ z_322) (fun _ h9 => h9) rfl d_Value_sameFrom_65 ?_
                refine lv_aload_n hx hb d_Value_sameFrom_68 rfl (lv_at hl 1 rfl) ?_
                rcases tx2 with _ | b23
                · exact absurd rfl ((hv2.2.2.2.2.2.2.1 (isF.n1 hb9)).1 (c8.symm.trans c61))
                · refine vq_get (D := (dC, dI)) (ci := 9) (v := .ref b23) (C := R_Value) (T := F_Value) (N := 10) hx hb hts in_Value hown hK hP (hO.inV (isF.v hb9)) ef2 rfl 2 (by decide) (hts _ z_322) (fun _ h9 => h9) rfl d_Value_sameFrom_69 ?_
                  have hk4 : (lfU u).1 = 4 := (ckd_n hCla.2.1 (Or.inr ⟨by decide, by decide⟩)).mp (hCla.1.symm.trans c61)
                  obtain ⟨q1, q2, q3⟩ := hCla.2.2.2 hk4
                  obtain ⟨r1, r2, r3⟩ := hClb.2.2.2 (hkk.symm.trans hk4)
                  obtain rfl := Option.some.inj q2
                  obtain rfl := Option.some.inj r2
                  refine vp_callSi (va_Run.run (va_runSN (As := [.ref b22, .ref b23]) (rest := []) ⟨hx, hb, hml, hown, hts⟩ (f_QB_sameText l dC dI s.heap cI cV E lv L f hO b22 b23 (hv1.1 b22 rfl) (hv2.1 b23 rfl)) (⟨va_cnB (host := "QueryBench") 2 hts (gt_code i_QB_sameText) rfl rfl rfl (hN _ nz_869) (hts _ w_1) (by decide +kernel) ⟨by show 0 + 1 ≤ 4 + k; omega, by show 8 + (3 + 11) + 0 ≤ 200 + 40 * k; omega⟩, hts _ z_444, trivial⟩) ⟨mq_blind, fun U hU hW => ⟨rfl, hU, by rw [hU]; exact hP, va_K.moved hW.alike hK, hN.warm hW⟩⟩ rfl rfl hl.1 rfl (lv_room (Nat.le_of_ble_eq_true rfl)) d_Value_sameFrom_72 ⟨Nat.le_of_ble_eq_true rfl, Nat.le_of_ble_eq_true rfl⟩)) (fun r24 h_r24 => ?_)
                  exact W.zret (v := r24) hx hb hr (Bo.nar h_r24.1) (fun t ht hW => ⟨r24, rfl, (by rw [sameU_4 hu0 hkk hk4, ← q3, ← r3]; rcases h_r24.2 with h | h; (· rw [decide_eq_true h.2]; exact h.1); (· rw [decide_eq_false h.2]; exact h.1)), ht⟩) (fun _ h => nomatch h) d_Value_sameFrom_75
          · refine lv_aload_n hx hb d_Value_sameFrom_38 rfl (lv_at hl 0 rfl) ?_
            refine vq_get (D := (dC, dI)) (ci := 9) (v := .long nu1) (C := R_Value) (T := F_Value) (N := 10) hx hb hts in_Value hown hK hP (hO.inV (isF.v ha)) ef1 rfl 1 (by decide) (hts _ z_317) (fun _ h9 => h9) rfl d_Value_sameFrom_39 ?_
            refine lv_aload_n hx hb d_Value_sameFrom_42 rfl (lv_at hl 1 rfl) ?_
            refine vq_get (D := (dC, dI)) (ci := 9) (v := .long nu2) (C := R_Value) (T := F_Value) (N := 10) hx hb hts in_Value hown hK hP (hO.inV (isF.v hb9)) ef2 rfl 1 (by decide) (hts _ z_317) (fun _ h9 => h9) rfl d_Value_sameFrom_43 ?_
            refine W.lcmp hx hb d_Value_sameFrom_46 ?_
            refine lv_if_ne (tgt := 54) hx hb d_Value_sameFrom_47 (by decide) (fun c47 => ?_) (fun c47 => ?_)
            · refine lv_iconst (v := 0) hx hb d_Value_sameFrom_54 (by decide) ?_
              have hk3 : (lfU u).1 = 3 := (ckd_n hCla.2.1 (Or.inr ⟨by decide, by decide⟩)).mp (hCla.1.symm.trans c35)
              have e1 := hCla.2.2.1 hk3
              have e2 := hClb.2.2.1 (hkk.symm.trans hk3)
              exact W.zret (v := 0) hx hb hr rfl (fun t ht hW => ⟨0, rfl, (by rw [sameU_3 hu0 hkk hk3, ← e1, ← e2, decide_eq_false (lc_ne c47)]; rfl), ht⟩) (fun _ h => nomatch h) d_Value_sameFrom_55
            · refine lv_iconst (v := 1) hx hb d_Value_sameFrom_50 (by decide) ?_
              refine lv_goto (tgt := 55) hx hb d_Value_sameFrom_51 (by decide) ?_
              have hk3 : (lfU u).1 = 3 := (ckd_n hCla.2.1 (Or.inr ⟨by decide, by decide⟩)).mp (hCla.1.symm.trans c35)
              have e1 := hCla.2.2.1 hk3
              have e2 := hClb.2.2.1 (hkk.symm.trans hk3)
              exact W.zret (v := 1) hx hb hr rfl (fun t ht hW => ⟨1, rfl, (by rw [sameU_3 hu0 hkk hk3, ← e1, ← e2, decide_eq_true (lc_eq c47)]; rfl), ht⟩) (fun _ h => nomatch h) d_Value_sameFrom_55
        · exact absurd (show nI d ≤ 32 by rw [show (32 : Int32) = nI 32 from rfl, nI_leI (by omega) (by omega)]; omega) c25
set_option maxHeartbeats 4000000 in
set_option maxRecDepth 100000 in
/-- Value.same: what it says -/
theorem g_Value_same (l : Launch) (dC : Nat → ClassId) (dI : Nat → Nat → Nat) (sz : Heap) (cI cV : ClassId) (E lv : Nat → Nat) (L : List Nat) (f : Nat → va_E) (hO : PO cI cV E lv L f) (oa ob : Option Nat) (hoa : oR (isF E) oa) (hob : oR (isF E) ob) (va vb : VOp) (hA9 : VAL E f oa va) (hB9 : VAL E f ob vb) (hd9 : ∀ u, va = some u → u.1 ≤ 32) : Met l y_Value_same (k_Value_same :: gtbl) ({ frames := 40, cells := 0, slots := 0, locals := 1700 }) (va_Pc [va_rf oa, va_rf ob] (mq dC dI ([] ++ va_pl L f) [(cI, .int), (cV, .object "QueryBench$Value")] sz)) (vp_Si (fun (r : Int32) => r = bI (sameO va vb))) 0 0 (fun _ => False) := by
  rcases oa with _ | b1
  · rcases ob with _ | b2
    · change Met _ _ _ _ (va_Pc [.null, .null] _) _ _ _ _
      refine Met.ofW (cc := b_Value_same) (maxL := 2) (ret := (some .boolean)) (by decide) rfl ?_
      intro p e s m args below meth c s₁ B hml hv
      obtain ⟨rfl, hsz, hP, hK, hN⟩ := hv
      have hx := B.exec
      have hb := B.bytes
      have hr := B.returns
      have hts0 := atoms_spec (ws := k_Value_same :: gtbl) B.pre
      have hts := fun w h => hts0 w (List.mem_cons_of_mem _ h)
      have hown : s.vm.findClass R_Value = some m.cls := findClass_of_methodNamed B.named
      have hlocks := B.notSynchronized
      subst hsz
      have hP : va_P (dC, dI) classes ([] ++ va_pl L f) s.heap := hP
      have hl := lv_entry ([.null, .null]) (n := 2) (Nat.le_of_ble_eq_true rfl)
      rw [lg_entry_eq]
      generalize (lg_sl ([.null, .null]) ++ List.replicate (2 - (lg_sl ([.null, .null])).length) Slot.unset).toArray = ls at hl ⊢
      have hl : lv_has ls 2 [(0, .null), (1, .null)] := hl
      refine lv_aload_nN hx hb d_Value_same_0 rfl (lv_at hl 0 rfl) ?_
      refine lv_ifnullN (tgt := 8) hx hb d_Value_same_1 (by decide) ?_
      refine lv_aload_nN hx hb d_Value_same_8 rfl (lv_at hl 0 rfl) ?_
      refine lv_ifnonnullN hx hb d_Value_same_9 ?_
      refine lv_aload_nN hx hb d_Value_same_12 rfl (lv_at hl 1 rfl) ?_
      refine lv_ifnonnullN hx hb d_Value_same_13 ?_
      refine lv_iconst (v := 1) hx hb d_Value_same_16 (by decide) ?_
      refine lv_goto (tgt := 21) hx hb d_Value_same_17 (by decide) ?_
      exact W.zret (v := 1) hx hb hr rfl (fun t ht hW => ⟨1, rfl, (by cases va with | none => (cases vb with | none => rfl | some u2 => (obtain ⟨_, y2, _⟩ := hB9; cases y2)) | some u1 => (cases vb with | none => (obtain ⟨_, y2, _⟩ := hA9; cases y2) | some u2 => (obtain ⟨_, y2, _⟩ := hA9; cases y2))), ht⟩) (fun _ h => nomatch h) d_Value_same_21
    · change Met _ _ _ _ (va_Pc [.null, .ref b2] _) _ _ _ _
      refine Met.ofW (cc := b_Value_same) (maxL := 2) (ret := (some .boolean)) (by decide) rfl ?_
      intro p e s m args below meth c s₁ B hml hv
      obtain ⟨rfl, hsz, hP, hK, hN⟩ := hv
      have hx := B.exec
      have hb := B.bytes
      have hr := B.returns
      have hts0 := atoms_spec (ws := k_Value_same :: gtbl) B.pre
      have hts := fun w h => hts0 w (List.mem_cons_of_mem _ h)
      have hown : s.vm.findClass R_Value = some m.cls := findClass_of_methodNamed B.named
      have hlocks := B.notSynchronized
      subst hsz
      have hP : va_P (dC, dI) classes ([] ++ va_pl L f) s.heap := hP
      have hl := lv_entry ([.null, .ref b2]) (n := 2) (Nat.le_of_ble_eq_true rfl)
      rw [lg_entry_eq]
      generalize (lg_sl ([.null, .ref b2]) ++ List.replicate (2 - (lg_sl ([.null, .ref b2])).length) Slot.unset).toArray = ls at hl ⊢
      have hl : lv_has ls 2 [(0, .null), (1, .ref b2)] := hl
      refine lv_aload_nN hx hb d_Value_same_0 rfl (lv_at hl 0 rfl) ?_
      refine lv_ifnullN (tgt := 8) hx hb d_Value_same_1 (by decide) ?_
      refine lv_aload_nN hx hb d_Value_same_8 rfl (lv_at hl 0 rfl) ?_
      refine lv_ifnonnullN hx hb d_Value_same_9 ?_
      refine lv_aload_n hx hb d_Value_same_12 rfl (lv_at hl 1 rfl) ?_
      refine lv_ifnonnull (tgt := 20) hx hb d_Value_same_13 (by decide) ?_
      refine lv_iconst (v := 0) hx hb d_Value_same_20 (by decide) ?_
      exact W.zret (v := 0) hx hb hr rfl (fun t ht hW => ⟨0, rfl, (by cases va with | none => (cases vb with | none => (first | (cases hA9; done) | (cases hB9; done)) | some u2 => rfl) | some u1 => (cases vb with | none => rfl | some u2 => (first | (obtain ⟨_, y2, _⟩ := hA9; cases y2; done) | (obtain ⟨_, y2, _⟩ := hB9; cases y2; done)))), ht⟩) (fun _ h => nomatch h) d_Value_same_21
  · rcases ob with _ | b3
    · change Met _ _ _ _ (va_Pc [.ref b1, .null] _) _ _ _ _
      refine Met.ofW (cc := b_Value_same) (maxL := 2) (ret := (some .boolean)) (by decide) rfl ?_
      intro p e s m args below meth c s₁ B hml hv
      obtain ⟨rfl, hsz, hP, hK, hN⟩ := hv
      have hx := B.exec
      have hb := B.bytes
      have hr := B.returns
      have hts0 := atoms_spec (ws := k_Value_same :: gtbl) B.pre
      have hts := fun w h => hts0 w (List.mem_cons_of_mem _ h)
      have hown : s.vm.findClass R_Value = some m.cls := findClass_of_methodNamed B.named
      have hlocks := B.notSynchronized
      subst hsz
      have hP : va_P (dC, dI) classes ([] ++ va_pl L f) s.heap := hP
      have hl := lv_entry ([.ref b1, .null]) (n := 2) (Nat.le_of_ble_eq_true rfl)
      rw [lg_entry_eq]
      generalize (lg_sl ([.ref b1, .null]) ++ List.replicate (2 - (lg_sl ([.ref b1, .null])).length) Slot.unset).toArray = ls at hl ⊢
      have hl : lv_has ls 2 [(0, .ref b1), (1, .null)] := hl
      refine lv_aload_n hx hb d_Value_same_0 rfl (lv_at hl 0 rfl) ?_
      refine lv_ifnull hx hb d_Value_same_1 ?_
      refine lv_aload_nN hx hb d_Value_same_4 rfl (lv_at hl 1 rfl) ?_
      refine lv_ifnonnullN hx hb d_Value_same_5 ?_
      refine lv_aload_n hx hb d_Value_same_8 rfl (lv_at hl 0 rfl) ?_
      refine lv_ifnonnull (tgt := 20) hx hb d_Value_same_9 (by decide) ?_
      refine lv_iconst (v := 0) hx hb d_Value_same_20 (by decide) ?_
      exact W.zret (v := 0) hx hb hr rfl (fun t ht hW => ⟨0, rfl, (by cases va with | none => (cases vb with | none => (first | (cases hA9; done) | (cases hB9; done)) | some u2 => rfl) | some u1 => (cases vb with | none => rfl | some u2 => (first | (obtain ⟨_, y2, _⟩ := hA9; cases y2; done) | (obtain ⟨_, y2, _⟩ := hB9; cases y2; done)))), ht⟩) (fun _ h => nomatch h) d_Value_same_21
    · change Met _ _ _ _ (va_Pc [.ref b1, .ref b3] _) _ _ _ _
      refine Met.ofW (cc := b_Value_same) (maxL := 2) (ret := (some .boolean)) (by decide) rfl ?_
      intro p e s m args below meth c s₁ B hml hv
      obtain ⟨rfl, hsz, hP, hK, hN⟩ := hv
      have hx := B.exec
      have hb := B.bytes
      have hr := B.returns
      have hts0 := atoms_spec (ws := k_Value_same :: gtbl) B.pre
      have hts := fun w h => hts0 w (List.mem_cons_of_mem _ h)
      have hown : s.vm.findClass R_Value = some m.cls := findClass_of_methodNamed B.named
      have hlocks := B.notSynchronized
      subst hsz
      have hP : va_P (dC, dI) classes ([] ++ va_pl L f) s.heap := hP
      have hl := lv_entry ([.ref b1, .ref b3]) (n := 2) (Nat.le_of_ble_eq_true rfl)
      rw [lg_entry_eq]
      generalize (lg_sl ([.ref b1, .ref b3]) ++ List.replicate (2 - (lg_sl ([.ref b1, .ref b3])).length) Slot.unset).toArray = ls at hl ⊢
      have hl : lv_has ls 2 [(0, .ref b1), (1, .ref b3)] := hl
      refine lv_aload_n hx hb d_Value_same_0 rfl (lv_at hl 0 rfl) ?_
      refine lv_ifnull hx hb d_Value_same_1 ?_
      refine lv_aload_n hx hb d_Value_same_4 rfl (lv_at hl 1 rfl) ?_
      refine lv_ifnonnull (tgt := 22) hx hb d_Value_same_5 (by decide) ?_
      refine lv_aload_n hx hb d_Value_same_22 rfl (lv_at hl 0 rfl) ?_
      refine lv_aload_n hx hb d_Value_same_23 rfl (lv_at hl 1 rfl) ?_
      refine lv_iconst (v := 0) hx hb d_Value_same_24 (by decide) ?_
      obtain ⟨ua, hua⟩ : ∃ u, va = some u := by cases hq : va with | none => (rw [hq] at hA9; cases hA9) | some u => exact ⟨u, rfl⟩
      subst hua
      obtain ⟨za, eza, -, hCa⟩ := hA9
      obtain rfl := Option.some.inj eza
      obtain ⟨kd4, nu4, tx4, me4, pa4, na4, ix4, nm4, no4, sp4, ef4, hv4⟩ := hO.val ((isF.v (hoa b1 rfl)))
      have hCla := hCa.get.1.of ef4
      obtain ⟨ub, hub⟩ : ∃ u, vb = some u := by cases hq : vb with | none => (rw [hq] at hB9; cases hB9) | some u => exact ⟨u, rfl⟩
      subst hub
      obtain ⟨zb, ezb, -, hCb⟩ := hB9
      obtain rfl := Option.some.inj ezb
      obtain ⟨kd5, nu5, tx5, me5, pa5, na5, ix5, nm5, no5, sp5, ef5, hv5⟩ := hO.val ((isF.v (hob b3 rfl)))
      have hClb := hCb.get.1.of ef5
      refine vp_callSi (va_Run.run (va_runS (As := [.ref b1, .ref b3, .int 0]) (rest := []) ⟨hx, hb, hml, hown, hts⟩ (g_Value_sameFrom l dC dI s.heap cI cV E lv L f hO 33 0 (by decide) b1 b3 ((hoa b1 rfl)) ((hob b3 rfl)) ua ub hCa hCb (by have := hd9 ua rfl; omega)) (va_cwS 3 hts (gt_S (own := R_Value) (i := 38) (y := y_Value_sameFrom) i_Value_sameFrom z_931 z_932 z_14) rfl rfl rfl (by decide +kernel) ⟨by show 4 + 33 + 1 ≤ 40; omega, by show 8 + (5 + 11) + (200 + 40 * 33) ≤ 1700; omega⟩) ⟨mq_blind, fun U hU hW => ⟨rfl, hU, by rw [hU]; exact hP, va_K.moved hW.alike hK, hN.warm hW⟩⟩ rfl rfl hl.1 rfl (lv_room (Nat.le_of_ble_eq_true rfl)) d_Value_same_25 ⟨Nat.le_of_ble_eq_true rfl, Nat.le_of_ble_eq_true rfl⟩)) (fun r6 h_r6 => ?_)
      exact W.zret (v := r6) hx hb hr (Bo.nar (bI_Bo h_r6)) (fun t ht hW => ⟨r6, rfl, h_r6, ht⟩) (fun _ h => nomatch h) d_Value_same_28
