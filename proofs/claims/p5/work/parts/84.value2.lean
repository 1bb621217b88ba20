theorem z_14 : (.initialized "QueryBench$Value" : Cond) ∈ gtbl := gt_in 14 (by decide +kernel) (by decide +kernel)
theorem z_312 : (.fieldLink "QueryBench$Value" 9 "QueryBench$Value" "kind" "I" : Cond) ∈ gtbl := gt_in 312 (by decide +kernel) (by decide +kernel)
theorem z_317 : (.fieldLink "QueryBench$Value" 42 "QueryBench$Value" "number" "J" : Cond) ∈ gtbl := gt_in 317 (by decide +kernel) (by decide +kernel)
theorem z_322 : (.fieldLink "QueryBench$Value" 31 "QueryBench$Value" "text" "[I" : Cond) ∈ gtbl := gt_in 322 (by decide +kernel) (by decide +kernel)
theorem z_331 : (.fieldLink "QueryBench$Value" 23 "QueryBench$Value" "name" "[I" : Cond) ∈ gtbl := gt_in 331 (by decide +kernel) (by decide +kernel)
theorem z_444 : (.static ⟨"QueryBench", "sameText", "([I[I)Z"⟩ : Cond) ∈ gtbl := gt_in 444 (by decide +kernel) (by decide +kernel)
theorem z_865 : (.methodLink "QueryBench$Value" 19 ⟨"QueryBench$Value", "size", "()I"⟩ : Cond) ∈ gtbl := gt_in 865 (by decide +kernel) (by decide +kernel)
theorem z_866 : (.instanceMethod ⟨"QueryBench$Value", "size", "()I"⟩ : Cond) ∈ gtbl := gt_in 866 (by decide +kernel) (by decide +kernel)
theorem z_867 : (.selects "QueryBench$Value" ⟨"QueryBench$Value", "size", "()I"⟩ ⟨"QueryBench$Value", "size", "()I"⟩ : Cond) ∈ gtbl := gt_in 867 (by decide +kernel) (by decide +kernel)
theorem z_938 : (.methodLink "QueryBench$Value" 50 ⟨"QueryBench$Value", "lessText", "([I[I)Z"⟩ : Cond) ∈ gtbl := gt_in 938 (by decide +kernel) (by decide +kernel)
theorem z_939 : (.static ⟨"QueryBench$Value", "lessText", "([I[I)Z"⟩ : Cond) ∈ gtbl := gt_in 939 (by decide +kernel) (by decide +kernel)
theorem z_941 : (.methodLink "QueryBench$Value" 53 ⟨"java/lang/Math", "min", "(II)I"⟩ : Cond) ∈ gtbl := gt_in 941 (by decide +kernel) (by decide +kernel)
theorem z_944 : (.methodLink "QueryBench$Value" 59 ⟨"QueryBench$Value", "rank", "(I)I"⟩ : Cond) ∈ gtbl := gt_in 944 (by decide +kernel) (by decide +kernel)
theorem z_945 : (.static ⟨"QueryBench$Value", "rank", "(I)I"⟩ : Cond) ∈ gtbl := gt_in 945 (by decide +kernel) (by decide +kernel)
theorem z_948 : (.constant "QueryBench$Value" 66 65536 : Cond) ∈ gtbl := gt_in 948 (by decide +kernel) (by decide +kernel)
theorem nz_869 : (.methodLinkNest "QueryBench$Value" 27 ⟨"QueryBench", "sameText", "([I[I)Z"⟩ "QueryBench" : Cond) ∈ nwl := List.mem_filter.mpr ⟨List.mem_append_right _ (List.mem_of_getElem? (i := 869) (by decide +kernel)), rfl⟩
theorem nz_927 : (.methodLinkNest "QueryBench$Value" 34 ⟨"QueryBench", "isLowUnit", "(I)Z"⟩ "QueryBench" : Cond) ∈ nwl := List.mem_filter.mpr ⟨List.mem_append_right _ (List.mem_of_getElem? (i := 927) (by decide +kernel)), rfl⟩
theorem nz_947 : (.methodLinkNest "QueryBench$Value" 63 ⟨"QueryBench", "isHighUnit", "(I)Z"⟩ "QueryBench" : Cond) ∈ nwl := List.mem_filter.mpr ⟨List.mem_append_right _ (List.mem_of_getElem? (i := 947) (by decide +kernel)), rfl⟩
def kdF (f : Nat → va_E) (a : Nat) : Int32 := match f a with
  | .inr (_, .int k :: _) => k
  | _ => 0
theorem kdF_v {f : Nat → va_E} {a : Nat} {kd : Int32} {nu : Int64} {tx me pa na : Option Nat} {ix : Int32} {nm no : Option Nat} {sp : Int32} (h : f a = vE kd nu tx me pa na ix nm no sp) : kdF f a = kd := by unfold kdF; rw [h]
theorem wm_mini : Cond.code Lib.Math.min.name Lib.Math.min.code 2 (some .int) ∈ gtbl := gt_in 943 (by decide +kernel) (by decide +kernel)
theorem wm_maxi : Cond.code Lib.Math.max.name Lib.Math.max.code 2 (some .int) ∈ gtbl := gt_in 391 (by decide +kernel) (by decide +kernel)
theorem wm_maxl : Cond.code Lib.MathLoose.max_long.x Lib.MathLoose.max_long.code 4 (some .long) ∈ gtbl := gt_in 889 (by decide +kernel) (by decide +kernel)
abbrev b_Value_member : ByteArray := prog_11_method_3_code
def y_Value_member : MethodName := ⟨"QueryBench$Value", "member", "([I)LQueryBench$Value;"⟩
abbrev k_Value_member : Cond := .code y_Value_member b_Value_member 3 (some (.object "QueryBench$Value"))
theorem i_Value_member : k_Value_member ∈ gtbl := gt_in 864 (by decide +kernel) (by decide +kernel)
theorem d_Value_member_0 : decode b_Value_member 0 = .ok (.aload_n 0, 1) := by decide +kernel
theorem d_Value_member_1 : decode b_Value_member 1 = .ok (.getfield 9, 3) := by decide +kernel
theorem d_Value_member_4 : decode b_Value_member 4 = .ok (.bipush 6, 2) := by decide +kernel
theorem d_Value_member_6 : decode b_Value_member 6 = .ok (.if_icmp .eq 5, 3) := by decide +kernel
theorem d_Value_member_9 : decode b_Value_member 9 = .ok (.aconst_null, 1) := by decide +kernel
theorem d_Value_member_10 : decode b_Value_member 10 = .ok (.areturn, 1) := by decide +kernel
theorem d_Value_member_11 : decode b_Value_member 11 = .ok (.iconst 0, 1) := by decide +kernel
theorem d_Value_member_12 : decode b_Value_member 12 = .ok (.istore_n 2, 1) := by decide +kernel
theorem d_Value_member_13 : decode b_Value_member 13 = .ok (.iload_n 2, 1) := by decide +kernel
theorem d_Value_member_14 : decode b_Value_member 14 = .ok (.aload_n 0, 1) := by decide +kernel
theorem d_Value_member_15 : decode b_Value_member 15 = .ok (.invokevirtual 19, 3) := by decide +kernel
theorem d_Value_member_18 : decode b_Value_member 18 = .ok (.if_icmp .ge 32, 3) := by decide +kernel
theorem d_Value_member_21 : decode b_Value_member 21 = .ok (.aload_n 0, 1) := by decide +kernel
theorem d_Value_member_22 : decode b_Value_member 22 = .ok (.getfield 15, 3) := by decide +kernel
theorem d_Value_member_25 : decode b_Value_member 25 = .ok (.iload_n 2, 1) := by decide +kernel
theorem d_Value_member_26 : decode b_Value_member 26 = .ok (.aaload, 1) := by decide +kernel
theorem d_Value_member_27 : decode b_Value_member 27 = .ok (.getfield 23, 3) := by decide +kernel
theorem d_Value_member_30 : decode b_Value_member 30 = .ok (.aload_n 1, 1) := by decide +kernel
theorem d_Value_member_31 : decode b_Value_member 31 = .ok (.invokestatic 27, 3) := by decide +kernel
theorem d_Value_member_34 : decode b_Value_member 34 = .ok (.ifCond .eq 10, 3) := by decide +kernel
theorem d_Value_member_37 : decode b_Value_member 37 = .ok (.aload_n 0, 1) := by decide +kernel
theorem d_Value_member_38 : decode b_Value_member 38 = .ok (.getfield 15, 3) := by decide +kernel
theorem d_Value_member_41 : decode b_Value_member 41 = .ok (.iload_n 2, 1) := by decide +kernel
theorem d_Value_member_42 : decode b_Value_member 42 = .ok (.aaload, 1) := by decide +kernel
theorem d_Value_member_43 : decode b_Value_member 43 = .ok (.areturn, 1) := by decide +kernel
theorem d_Value_member_44 : decode b_Value_member 44 = .ok (.iinc 2 1, 3) := by decide +kernel
theorem d_Value_member_47 : decode b_Value_member 47 = .ok (.goto (-34), 3) := by decide +kernel
theorem d_Value_member_50 : decode b_Value_member 50 = .ok (.aconst_null, 1) := by decide +kernel
theorem d_Value_member_51 : decode b_Value_member 51 = .ok (.areturn, 1) := by decide +kernel
set_option maxHeartbeats 4000000 in
set_option maxRecDepth 100000 in
/-- Value.member -/
theorem c_Value_member (l : Launch) (dC : Nat → ClassId) (dI : Nat → Nat → Nat) (sz : Heap) (cI cV : ClassId) (E lv : Nat → Nat) (L : List Nat) (f : Nat → va_E) (hO : PO cI cV E lv L f) (a : Nat) (ha : isF E a) (w9 : Option Nat) (hw9 : oR (fun b => E b = 4) w9) (hk9 : kdF f a = 6 → w9 ≠ none) : Met l y_Value_member (k_Value_member :: gtbl) ({ frames := 1, cells := 0, slots := 0, locals := 60 }) (va_Pc [.ref a, va_rf w9] (mq dC dI ([] ++ va_pl L f) [(cI, .int), (cV, .object "QueryBench$Value")] sz)) (va_Sq (fun (r : Option Nat) => oR (isF E) r)) 0 0 (fun _ => False) := by
  rcases w9 with _ | b1
  · change Met _ _ _ _ (va_Pc [.ref a, .null] _) _ _ _ _
    refine Met.ofW (cc := b_Value_member) (maxL := 3) (ret := (some (.object "QueryBench$Value"))) (by decide) rfl ?_
    intro p e s m args below meth c s₁ B hml hv
    obtain ⟨rfl, hsz, hP, hK, hN⟩ := hv
    have hx := B.exec
    have hb := B.bytes
    have hr := B.returns
    have hts0 := atoms_spec (ws := k_Value_member :: gtbl) B.pre
    have hts := fun w h => hts0 w (List.mem_cons_of_mem _ h)
    have hown : s.vm.findClass R_Value = some m.cls := findClass_of_methodNamed B.named
    have hlocks := B.notSynchronized
    subst hsz
    have hP : va_P (dC, dI) classes ([] ++ va_pl L f) s.heap := hP
    have hl := lv_entry ([.ref a, .null]) (n := 3) (Nat.le_of_ble_eq_true rfl)
    rw [lg_entry_eq]
    generalize (lg_sl ([.ref a, .null]) ++ List.replicate (3 - (lg_sl ([.ref a, .null])).length) Slot.unset).toArray = ls at hl ⊢
    have hl : lv_has ls 3 [(0, .ref a), (1, .null)] := hl
    refine lv_aload_n hx hb d_Value_member_0 rfl (lv_at hl 0 rfl) ?_
    obtain ⟨kd2, nu2, tx2, me2, pa2, na2, ix2, nm2, no2, sp2, ef2, hv2⟩ := hO.val ((isF.v ha))
    refine vq_get (D := (dC, dI)) (ci := 9) (v := .int kd2) (C := R_Value) (T := F_Value) (N := 10) hx hb hts in_Value hown hK hP (hO.inV (isF.v ha)) ef2 rfl 0 (by decide) (hts _ z_312) (fun _ h9 => h9) rfl d_Value_member_1 ?_
    refine lv_bipush (v := 6) hx hb d_Value_member_4 (by decide) ?_
    refine lv_icmp_eq (tgt := 11) hx hb d_Value_member_6 (by decide) (fun c6 => ?_) (fun c6 => ?_)
    · exact absurd rfl (hk9 ((kdF_v ef2).trans c6))
    · refine lv_null hx hb d_Value_member_9 ?_
      exact W.aret (v := va_rf none) hx hb hr (Or.inl ⟨_, rfl⟩) (va_rf_or _) (fun t ht hW => ⟨none, rfl, (fun b h => nomatch h), ht⟩) (fun _ h => nomatch h) d_Value_member_10
  · change Met _ _ _ _ (va_Pc [.ref a, .ref b1] _) _ _ _ _
    refine Met.ofW (cc := b_Value_member) (maxL := 3) (ret := (some (.object "QueryBench$Value"))) (by decide) rfl ?_
    intro p e s m args below meth c s₁ B hml hv
    obtain ⟨rfl, hsz, hP, hK, hN⟩ := hv
    have hx := B.exec
    have hb := B.bytes
    have hr := B.returns
    have hts0 := atoms_spec (ws := k_Value_member :: gtbl) B.pre
    have hts := fun w h => hts0 w (List.mem_cons_of_mem _ h)
    have hown : s.vm.findClass R_Value = some m.cls := findClass_of_methodNamed B.named
    have hlocks := B.notSynchronized
    subst hsz
    have hP : va_P (dC, dI) classes ([] ++ va_pl L f) s.heap := hP
    have hl := lv_entry ([.ref a, .ref b1]) (n := 3) (Nat.le_of_ble_eq_true rfl)
    rw [lg_entry_eq]
    generalize (lg_sl ([.ref a, .ref b1]) ++ List.replicate (3 - (lg_sl ([.ref a, .ref b1])).length) Slot.unset).toArray = ls at hl ⊢
    have hl : lv_has ls 3 [(0, .ref a), (1, .ref b1)] := hl
    refine lv_aload_n hx hb d_Value_member_0 rfl (lv_at hl 0 rfl) ?_
    obtain ⟨kd3, nu3, tx3, me3, pa3, na3, ix3, nm3, no3, sp3, ef3, hv3⟩ := hO.val ((isF.v ha))
    refine vq_get (D := (dC, dI)) (ci := 9) (v := .int kd3) (C := R_Value) (T := F_Value) (N := 10) hx hb hts in_Value hown hK hP (hO.inV (isF.v ha)) ef3 rfl 0 (by decide) (hts _ z_312) (fun _ h9 => h9) rfl d_Value_member_1 ?_
    refine lv_bipush (v := 6) hx hb d_Value_member_4 (by decide) ?_
    refine lv_icmp_eq (tgt := 11) hx hb d_Value_member_6 (by decide) (fun c6 => ?_) (fun c6 => ?_)
    · refine lv_iconst (v := 0) hx hb d_Value_member_11 (by decide) ?_
      refine lv_istore_n (lv' := [(2, .int 0), (0, .ref a), (1, .ref b1)]) hx hb d_Value_member_12 rfl hl (by decide) rfl (fun ls hl => ?_)
      have hs := hO.szle ef3 hv3
      refine w_loopR (nL := 3) 13 (σ := Nat) (fun i => i ≤ 4096) (fun i => 4096 - i) (fun i => [(0, .ref a), (1, .ref b1), (2, .int (nI i))]) ?_ 0 (Nat.zero_le _) (lv_sub hl [1, 2, 0] rfl)
      rintro i ls hI ih hl
      have hl : lv_has ls 3 [(0, .ref a), (1, .ref b1), (2, .int (nI i))] := hl
      refine lv_iload_n hx hb d_Value_member_13 rfl (lv_at hl 2 rfl) ?_
      refine lv_aload_n hx hb d_Value_member_14 rfl (lv_at hl 0 rfl) ?_
      refine vp_callSi (va_Run.run (va_runV (As := []) (rest := [.int (nI i)]) ⟨hx, hb, hml, hown, hts⟩ (c_Value_size l dC dI s.heap cI cV E lv L f hO a ha) (cwV 0 hts (gt_V (own := R_Value) (C := R_Value) (i := 19) (y := y_Value_size) i_Value_size z_865 z_866 z_867 z_14) rfl rfl rfl (by decide +kernel) ⟨Nat.le_of_ble_eq_true rfl, Nat.le_of_ble_eq_true rfl⟩) ⟨mq_blind, vq_recv hK hP rfl (hO.inV (isF.v ha)) ef3, fun U hU hW => ⟨rfl, hU, by rw [hU]; exact hP, va_K.moved hW.alike hK, hN.warm hW⟩⟩ rfl rfl hl.1 rfl (lv_room (Nat.le_of_ble_eq_true rfl)) d_Value_member_15 ⟨Nat.le_of_ble_eq_true rfl, Nat.le_of_ble_eq_true rfl⟩)) (fun r4 h_r4 => ?_)
      subst h_r4
      refine lv_icmp_ge (tgt := 50) hx hb d_Value_member_18 (by decide) (fun c18 => ?_) (fun c18 => ?_)
      · refine lv_null hx hb d_Value_member_50 ?_
        exact W.aret (v := va_rf none) hx hb hr (Or.inl ⟨_, rfl⟩) (va_rf_or _) (fun t ht hW => ⟨none, rfl, (fun b h => nomatch h), ht⟩) (fun _ h => nomatch h) d_Value_member_51
      · have hi : i < szF f a := by rw [nI_leI (by omega) (by omega)] at c18; omega
        refine lv_aload_n hx hb d_Value_member_21 rfl (lv_at hl 0 rfl) ?_
        rcases me3 with _ | b5
        · exact absurd (PO.mem0 ef3) (by omega)
        · refine vq_get (D := (dC, dI)) (ci := 9) (v := .ref b5) (C := R_Value) (T := F_Value) (N := 10) hx hb hts in_Value hown hK hP (hO.inV (isF.v ha)) ef3 rfl 3 (by decide) (hts _ z_325) (fun _ h9 => h9) rfl d_Value_member_22 ?_
          refine lv_iload_n hx hb d_Value_member_25 rfl (lv_at hl 2 rfl) ?_
          obtain ⟨g6, hi6, ef6, hg6⟩ := hO.mem1 ef3 hv3 ha.n1
          have hn6 := hO.szle ef3 hv3
          obtain ⟨me7, hm7, hf7, hnm7⟩ := hg6 i hi
          refine vq_aald hx hb hK hP 1 hi6 ef6 rfl (j := i) hi hn6 hm7 d_Value_member_26 ?_
          obtain ⟨kd8, nu8, tx8, me8, pa8, na8, ix8, nm8, no8, sp8, ef8, hv8⟩ := hO.val ((isF.v hf7))
          rcases na8 with _ | b9
          · exact absurd rfl (hv8.2.2.2.2.2.2.2 (hnm7 c6)).1
          · refine vq_get (D := (dC, dI)) (ci := 9) (v := .ref b9) (C := R_Value) (T := F_Value) (N := 10) hx hb hts in_Value hown hK hP (hO.inV (isF.v hf7)) ef8 rfl 5 (by decide) (hts _ z_331) (fun _ h9 => h9) rfl d_Value_member_27 ?_
            refine lv_aload_n hx hb d_Value_member_30 rfl (lv_at hl 1 rfl) ?_
            refine vp_callSi (va_Run.run (va_runSN (As := [.ref b9, .ref b1]) (rest := []) ⟨hx, hb, hml, hown, hts⟩ (c_QB_sameText l dC dI s.heap cI cV E lv L f hO b9 b1 (hv8.2.2.2.1 b9 rfl) ((hw9 b1 rfl))) (⟨va_cnB (host := "QueryBench") 2 hts (gt_code i_QB_sameText) rfl rfl rfl (hN _ nz_869) (hts _ w_1) (by decide +kernel) ⟨Nat.le_of_ble_eq_true rfl, Nat.le_of_ble_eq_true rfl⟩, hts _ z_444, trivial⟩) ⟨mq_blind, fun U hU hW => ⟨rfl, hU, by rw [hU]; exact hP, va_K.moved hW.alike hK, hN.warm hW⟩⟩ rfl rfl hl.1 rfl (lv_room (Nat.le_of_ble_eq_true rfl)) d_Value_member_31 ⟨Nat.le_of_ble_eq_true rfl, Nat.le_of_ble_eq_true rfl⟩)) (fun r10 h_r10 => ?_)
            refine lv_if_eq (tgt := 44) hx hb d_Value_member_34 (by decide) (fun c34 => ?_) (fun c34 => ?_)
            · refine lv_iinc (v := nI (i + 1)) (lv' := [(2, .int (nI (i + 1))), (0, .ref a), (1, .ref b1)]) hx hb d_Value_member_44 hl (k := 2) rfl (nI_1 _) (by decide) rfl (fun ls hl => ?_)
              refine lv_goto (tgt := 13) hx hb d_Value_member_47 (by decide) ?_
              exact ih (i + 1) _ (show i + 1 ≤ 4096 by omega) (by show 4096 - (i + 1) < 4096 - i; omega) (lv_sub hl [1, 2, 0] rfl)
            · refine lv_aload_n hx hb d_Value_member_37 rfl (lv_at hl 0 rfl) ?_
              refine vq_get (D := (dC, dI)) (ci := 9) (v := .ref b5) (C := R_Value) (T := F_Value) (N := 10) hx hb hts in_Value hown hK hP (hO.inV (isF.v ha)) ef3 rfl 3 (by decide) (hts _ z_325) (fun _ h9 => h9) rfl d_Value_member_38 ?_
              refine lv_iload_n hx hb d_Value_member_41 rfl (lv_at hl 2 rfl) ?_
              obtain ⟨me11, hm11, hf11, hnm11⟩ := hg6 i hi
              refine vq_aald hx hb hK hP 1 hi6 ef6 rfl (j := i) hi hn6 hm11 d_Value_member_42 ?_
              exact W.aret (v := va_rf ((some me11))) hx hb hr (Or.inl ⟨_, rfl⟩) (va_rf_or _) (fun t ht hW => ⟨(some me11), rfl, (fun b h => by cases h; exact hf11), ht⟩) (fun _ h => nomatch h) d_Value_member_43
    · refine lv_null hx hb d_Value_member_9 ?_
      exact W.aret (v := va_rf none) hx hb hr (Or.inl ⟨_, rfl⟩) (va_rf_or _) (fun t ht hW => ⟨none, rfl, (fun b h => nomatch h), ht⟩) (fun _ h => nomatch h) d_Value_member_10
abbrev b_Value_measure : ByteArray := prog_11_method_4_code
def y_Value_measure : MethodName := ⟨"QueryBench$Value", "measure", "()I"⟩
abbrev k_Value_measure : Cond := .code y_Value_measure b_Value_measure 3 (some .int)
theorem i_Value_measure : k_Value_measure ∈ gtbl := gt_in 926 (by decide +kernel) (by decide +kernel)
theorem d_Value_measure_0 : decode b_Value_measure 0 = .ok (.aload_n 0, 1) := by decide +kernel
theorem d_Value_measure_1 : decode b_Value_measure 1 = .ok (.getfield 9, 3) := by decide +kernel
theorem d_Value_measure_4 : decode b_Value_measure 4 = .ok (.iconst 5, 1) := by decide +kernel
theorem d_Value_measure_5 : decode b_Value_measure 5 = .ok (.if_icmp .eq 12, 3) := by decide +kernel
theorem d_Value_measure_8 : decode b_Value_measure 8 = .ok (.aload_n 0, 1) := by decide +kernel
theorem d_Value_measure_9 : decode b_Value_measure 9 = .ok (.getfield 9, 3) := by decide +kernel
theorem d_Value_measure_12 : decode b_Value_measure 12 = .ok (.bipush 6, 2) := by decide +kernel
theorem d_Value_measure_14 : decode b_Value_measure 14 = .ok (.if_icmp .ne 8, 3) := by decide +kernel
theorem d_Value_measure_17 : decode b_Value_measure 17 = .ok (.aload_n 0, 1) := by decide +kernel
theorem d_Value_measure_18 : decode b_Value_measure 18 = .ok (.invokevirtual 19, 3) := by decide +kernel
theorem d_Value_measure_21 : decode b_Value_measure 21 = .ok (.ireturn, 1) := by decide +kernel
theorem d_Value_measure_22 : decode b_Value_measure 22 = .ok (.aload_n 0, 1) := by decide +kernel
theorem d_Value_measure_23 : decode b_Value_measure 23 = .ok (.getfield 9, 3) := by decide +kernel
theorem d_Value_measure_26 : decode b_Value_measure 26 = .ok (.iconst 4, 1) := by decide +kernel
theorem d_Value_measure_27 : decode b_Value_measure 27 = .ok (.if_icmp .eq 5, 3) := by decide +kernel
theorem d_Value_measure_30 : decode b_Value_measure 30 = .ok (.iconst (-1), 1) := by decide +kernel
theorem d_Value_measure_31 : decode b_Value_measure 31 = .ok (.ireturn, 1) := by decide +kernel
theorem d_Value_measure_32 : decode b_Value_measure 32 = .ok (.iconst 0, 1) := by decide +kernel
theorem d_Value_measure_33 : decode b_Value_measure 33 = .ok (.istore_n 1, 1) := by decide +kernel
theorem d_Value_measure_34 : decode b_Value_measure 34 = .ok (.iconst 0, 1) := by decide +kernel
theorem d_Value_measure_35 : decode b_Value_measure 35 = .ok (.istore_n 2, 1) := by decide +kernel
theorem d_Value_measure_36 : decode b_Value_measure 36 = .ok (.iload_n 2, 1) := by decide +kernel
theorem d_Value_measure_37 : decode b_Value_measure 37 = .ok (.aload_n 0, 1) := by decide +kernel
theorem d_Value_measure_38 : decode b_Value_measure 38 = .ok (.getfield 31, 3) := by decide +kernel
theorem d_Value_measure_41 : decode b_Value_measure 41 = .ok (.arraylength, 1) := by decide +kernel
theorem d_Value_measure_42 : decode b_Value_measure 42 = .ok (.if_icmp .ge 24, 3) := by decide +kernel
theorem d_Value_measure_45 : decode b_Value_measure 45 = .ok (.aload_n 0, 1) := by decide +kernel
theorem d_Value_measure_46 : decode b_Value_measure 46 = .ok (.getfield 31, 3) := by decide +kernel
theorem d_Value_measure_49 : decode b_Value_measure 49 = .ok (.iload_n 2, 1) := by decide +kernel
theorem d_Value_measure_50 : decode b_Value_measure 50 = .ok (.iaload, 1) := by decide +kernel
theorem d_Value_measure_51 : decode b_Value_measure 51 = .ok (.invokestatic 34, 3) := by decide +kernel
theorem d_Value_measure_54 : decode b_Value_measure 54 = .ok (.ifCond .ne 6, 3) := by decide +kernel
theorem d_Value_measure_57 : decode b_Value_measure 57 = .ok (.iinc 1 1, 3) := by decide +kernel
theorem d_Value_measure_60 : decode b_Value_measure 60 = .ok (.iinc 2 1, 3) := by decide +kernel
theorem d_Value_measure_63 : decode b_Value_measure 63 = .ok (.goto (-27), 3) := by decide +kernel
theorem d_Value_measure_66 : decode b_Value_measure 66 = .ok (.iload_n 1, 1) := by decide +kernel
theorem d_Value_measure_67 : decode b_Value_measure 67 = .ok (.ireturn, 1) := by decide +kernel
set_option maxHeartbeats 4000000 in
set_option maxRecDepth 100000 in
/-- Value.measure -/
theorem c_Value_measure (l : Launch) (dC : Nat → ClassId) (dI : Nat → Nat → Nat) (sz : Heap) (cI cV : ClassId) (E lv : Nat → Nat) (L : List Nat) (f : Nat → va_E) (hO : PO cI cV E lv L f) (a : Nat) (ha : isF E a) : Met l y_Value_measure (k_Value_measure :: gtbl) ({ frames := 1, cells := 0, slots := 0, locals := 60 }) (va_Pc [.ref a] (mq dC dI ([] ++ va_pl L f) [(cI, .int), (cV, .object "QueryBench$Value")] sz)) (vp_Si (fun (r : Int32) => True)) 0 0 (fun _ => False) := by
  refine Met.ofW (cc := b_Value_measure) (maxL := 3) (ret := (some .int)) (by decide) rfl ?_
  intro p e s m args below meth c s₁ B hml hv
  obtain ⟨rfl, hsz, hP, hK, hN⟩ := hv
  have hx := B.exec
  have hb := B.bytes
  have hr := B.returns
  have hts0 := atoms_spec (ws := k_Value_measure :: gtbl) B.pre
  have hts := fun w h => hts0 w (List.mem_cons_of_mem _ h)
  have hown : s.vm.findClass R_Value = some m.cls := findClass_of_methodNamed B.named
  have hlocks := B.notSynchronized
  subst hsz
  have hP : va_P (dC, dI) classes ([] ++ va_pl L f) s.heap := hP
  have hl := lv_entry ([.ref a]) (n := 3) (Nat.le_of_ble_eq_true rfl)
  rw [lg_entry_eq]
  generalize (lg_sl ([.ref a]) ++ List.replicate (3 - (lg_sl ([.ref a])).length) Slot.unset).toArray = ls at hl ⊢
  have hl : lv_has ls 3 [(0, .ref a)] := hl
  refine lv_aload_n hx hb d_Value_measure_0 rfl (lv_at hl 0 rfl) ?_
  obtain ⟨kd1, nu1, tx1, me1, pa1, na1, ix1, nm1, no1, sp1, ef1, hv1⟩ := hO.val ((isF.v ha))
  refine vq_get (D := (dC, dI)) (ci := 9) (v := .int kd1) (C := R_Value) (T := F_Value) (N := 10) hx hb hts in_Value hown hK hP (hO.inV (isF.v ha)) ef1 rfl 0 (by decide) (hts _ z_312) (fun _ h9 => h9) rfl d_Value_measure_1 ?_
  refine lv_iconst (v := 5) hx hb d_Value_measure_4 (by decide) ?_
  refine lv_icmp_eq (tgt := 17) hx hb d_Value_measure_5 (by decide) (fun c5 => ?_) (fun c5 => ?_)
  · refine lv_aload_n hx hb d_Value_measure_17 rfl (lv_at hl 0 rfl) ?_
    refine vp_callSi (va_Run.run (va_runV (As := []) (rest := []) ⟨hx, hb, hml, hown, hts⟩ (c_Value_size l dC dI s.heap cI cV E lv L f hO a ha) (cwV 0 hts (gt_V (own := R_Value) (C := R_Value) (i := 19) (y := y_Value_size) i_Value_size z_865 z_866 z_867 z_14) rfl rfl rfl (by decide +kernel) ⟨Nat.le_of_ble_eq_true rfl, Nat.le_of_ble_eq_true rfl⟩) ⟨mq_blind, vq_recv hK hP rfl (hO.inV (isF.v ha)) ef1, fun U hU hW => ⟨rfl, hU, by rw [hU]; exact hP, va_K.moved hW.alike hK, hN.warm hW⟩⟩ rfl rfl hl.1 rfl (lv_room (Nat.le_of_ble_eq_true rfl)) d_Value_measure_18 ⟨Nat.le_of_ble_eq_true rfl, Nat.le_of_ble_eq_true rfl⟩)) (fun r2 h_r2 => ?_)
    subst h_r2
    exact W.iret (v := (nI (szF f a))) hx hb hr (fun t ht hW => ⟨(nI (szF f a)), rfl, trivial, ht⟩) (fun _ h => nomatch h) d_Value_measure_21
  · refine lv_aload_n hx hb d_Value_measure_8 rfl (lv_at hl 0 rfl) ?_
    refine vq_get (D := (dC, dI)) (ci := 9) (v := .int kd1) (C := R_Value) (T := F_Value) (N := 10) hx hb hts in_Value hown hK hP (hO.inV (isF.v ha)) ef1 rfl 0 (by decide) (hts _ z_312) (fun _ h9 => h9) rfl d_Value_measure_9 ?_
    refine lv_bipush (v := 6) hx hb d_Value_measure_12 (by decide) ?_
    refine lv_icmp_ne (tgt := 22) hx hb d_Value_measure_14 (by decide) (fun c14 => ?_) (fun c14 => ?_)
    · refine lv_aload_n hx hb d_Value_measure_22 rfl (lv_at hl 0 rfl) ?_
      refine vq_get (D := (dC, dI)) (ci := 9) (v := .int kd1) (C := R_Value) (T := F_Value) (N := 10) hx hb hts in_Value hown hK hP (hO.inV (isF.v ha)) ef1 rfl 0 (by decide) (hts _ z_312) (fun _ h9 => h9) rfl d_Value_measure_23 ?_
      refine lv_iconst (v := 4) hx hb d_Value_measure_26 (by decide) ?_
      refine lv_icmp_eq (tgt := 32) hx hb d_Value_measure_27 (by decide) (fun c27 => ?_) (fun c27 => ?_)
      · refine lv_iconst (v := 0) hx hb d_Value_measure_32 (by decide) ?_
        refine lv_istore_n (lv' := [(1, .int 0), (0, .ref a)]) hx hb d_Value_measure_33 rfl hl (by decide) rfl (fun ls hl => ?_)
        refine lv_iconst (v := 0) hx hb d_Value_measure_34 (by decide) ?_
        refine lv_istore_n (lv' := [(2, .int 0), (1, .int 0), (0, .ref a)]) hx hb d_Value_measure_35 rfl hl (by decide) rfl (fun ls hl => ?_)
        refine w_loopR (nL := 3) 36 (σ := Nat × Int32) (fun ⟨i, cn⟩ => i ≤ 4096) (fun ⟨i, cn⟩ => 4096 - i) (fun ⟨i, cn⟩ => [(0, .ref a), (1, .int cn), (2, .int (nI i))]) ?_ (0, 0) (Nat.zero_le _) (lv_sub hl [2, 1, 0] rfl)
        rintro ⟨i, cn⟩ ls hI ih hl
        have hl : lv_has ls 3 [(0, .ref a), (1, .int cn), (2, .int (nI i))] := hl
        have hI : i ≤ 4096 := hI
        refine lv_iload_n hx hb d_Value_measure_36 rfl (lv_at hl 2 rfl) ?_
        refine lv_aload_n hx hb d_Value_measure_37 rfl (lv_at hl 0 rfl) ?_
        rcases tx1 with _ | b3
        · exact absurd rfl ((hv1.2.2.2.2.2.2.1 ha.n1).1 c27)
        · refine vq_get (D := (dC, dI)) (ci := 9) (v := .ref b3) (C := R_Value) (T := F_Value) (N := 10) hx hb hts in_Value hown hK hP (hO.inV (isF.v ha)) ef1 rfl 2 (by decide) (hts _ z_322) (fun _ h9 => h9) rfl d_Value_measure_38 ?_
          obtain ⟨n4, g5, ef6, hn7⟩ := hO.txt (hv1.1 b3 rfl)
          refine vq_alen hx hb hK hP 0 (hO.inL (a := b3) (by rw [hv1.1 b3 rfl]; decide)) ef6 rfl d_Value_measure_41 ?_
          refine lv_icmp_ge (tgt := 66) hx hb d_Value_measure_42 (by decide) (fun c42 => ?_) (fun c42 => ?_)
          · refine lv_iload_n hx hb d_Value_measure_66 rfl (lv_at hl 1 rfl) ?_
            exact W.iret (v := cn) hx hb hr (fun t ht hW => ⟨cn, rfl, trivial, ht⟩) (fun _ h => nomatch h) d_Value_measure_67
          · have hi : i < n4 := by rw [nI_leI (by omega) (by omega)] at c42; omega
            refine lv_aload_n hx hb d_Value_measure_45 rfl (lv_at hl 0 rfl) ?_
            refine vq_get (D := (dC, dI)) (ci := 9) (v := .ref b3) (C := R_Value) (T := F_Value) (N := 10) hx hb hts in_Value hown hK hP (hO.inV (isF.v ha)) ef1 rfl 2 (by decide) (hts _ z_322) (fun _ h9 => h9) rfl d_Value_measure_46 ?_
            refine lv_iload_n hx hb d_Value_measure_49 rfl (lv_at hl 2 rfl) ?_
            refine vq_iald hx hb hK hP 0 (hO.inL (a := b3) (by rw [hv1.1 b3 rfl]; decide)) ef6 rfl (j := i) hi hn7 d_Value_measure_50 ?_
            refine vp_callSi (va_Run.run (va_runSN (As := [.int (g5 i)]) (rest := []) ⟨hx, hb, hml, hown, hts⟩ (r_QB_isLowUnit l dC dI s.heap ((g5 i))) (⟨va_cnB (host := "QueryBench") 1 hts (gt_code i_QB_isLowUnit) rfl rfl rfl (hN _ nz_927) (hts _ w_1) (by decide +kernel) ⟨Nat.le_of_ble_eq_true rfl, Nat.le_of_ble_eq_true rfl⟩, hts _ w_427, trivial⟩) ⟨mT_blind, fun U hU hW => ⟨rfl, hN.warm hW⟩⟩ rfl rfl hl.1 rfl (lv_room (Nat.le_of_ble_eq_true rfl)) d_Value_measure_51 ⟨Nat.le_of_ble_eq_true rfl, Nat.le_of_ble_eq_true rfl⟩)) (fun r8 h_r8 => ?_)
            refine lv_if_ne (tgt := 60) hx hb d_Value_measure_54 (by decide) (fun c54 => ?_) (fun c54 => ?_)
            · refine lv_iinc (v := nI (i + 1)) (lv' := [(2, .int (nI (i + 1))), (0, .ref a), (1, .int cn)]) hx hb d_Value_measure_60 hl (k := 2) rfl (nI_1 _) (by decide) rfl (fun ls hl => ?_)
              refine lv_goto (tgt := 36) hx hb d_Value_measure_63 (by decide) ?_
              exact ih (i + 1, cn) _ (show i + 1 ≤ 4096 by omega) (by show 4096 - (i + 1) < 4096 - i; omega) (lv_sub hl [1, 2, 0] rfl)
            · refine lv_iinc (v := cn + 1) (lv' := [(1, .int (cn + 1)), (0, .ref a), (2, .int (nI i))]) hx hb d_Value_measure_57 hl (k := 1) rfl rfl (by decide) rfl (fun ls hl => ?_)
              refine lv_iinc (v := nI (i + 1)) (lv' := [(2, .int (nI (i + 1))), (1, .int (cn + 1)), (0, .ref a)]) hx hb d_Value_measure_60 hl (k := 2) rfl (nI_1 _) (by decide) rfl (fun ls hl => ?_)
              refine lv_goto (tgt := 36) hx hb d_Value_measure_63 (by decide) ?_
              exact ih (i + 1, (cn + 1)) _ (show i + 1 ≤ 4096 by omega) (by show 4096 - (i + 1) < 4096 - i; omega) (lv_sub hl [2, 1, 0] rfl)
      · refine lv_iconst (v := (-1)) hx hb d_Value_measure_30 (by decide) ?_
        exact W.iret (v := (-1)) hx hb hr (fun t ht hW => ⟨(-1), rfl, trivial, ht⟩) (fun _ h => nomatch h) d_Value_measure_31
    · refine lv_aload_n hx hb d_Value_measure_17 rfl (lv_at hl 0 rfl) ?_
      refine vp_callSi (va_Run.run (va_runV (As := []) (rest := []) ⟨hx, hb, hml, hown, hts⟩ (c_Value_size l dC dI s.heap cI cV E lv L f hO a ha) (cwV 0 hts (gt_V (own := R_Value) (C := R_Value) (i := 19) (y := y_Value_size) i_Value_size z_865 z_866 z_867 z_14) rfl rfl rfl (by decide +kernel) ⟨Nat.le_of_ble_eq_true rfl, Nat.le_of_ble_eq_true rfl⟩) ⟨mq_blind, vq_recv hK hP rfl (hO.inV (isF.v ha)) ef1, fun U hU hW => ⟨rfl, hU, by rw [hU]; exact hP, va_K.moved hW.alike hK, hN.warm hW⟩⟩ rfl rfl hl.1 rfl (lv_room (Nat.le_of_ble_eq_true rfl)) d_Value_measure_18 ⟨Nat.le_of_ble_eq_true rfl, Nat.le_of_ble_eq_true rfl⟩)) (fun r9 h_r9 => ?_)
      subst h_r9
      exact W.iret (v := (nI (szF f a))) hx hb hr (fun t ht hW => ⟨(nI (szF f a)), rfl, trivial, ht⟩) (fun _ h => nomatch h) d_Value_measure_21
abbrev b_Value_rank : ByteArray := prog_11_method_9_code
def y_Value_rank : MethodName := ⟨"QueryBench$Value", "rank", "(I)I"⟩
abbrev k_Value_rank : Cond := .code y_Value_rank b_Value_rank 1 (some .int)
theorem i_Value_rank : k_Value_rank ∈ gtbl := gt_in 946 (by decide +kernel) (by decide +kernel)
theorem d_Value_rank_0 : decode b_Value_rank 0 = .ok (.iload_n 0, 1) := by decide +kernel
theorem d_Value_rank_1 : decode b_Value_rank 1 = .ok (.invokestatic 63, 3) := by decide +kernel
theorem d_Value_rank_4 : decode b_Value_rank 4 = .ok (.ifCond .ne 10, 3) := by decide +kernel
theorem d_Value_rank_7 : decode b_Value_rank 7 = .ok (.iload_n 0, 1) := by decide +kernel
theorem d_Value_rank_8 : decode b_Value_rank 8 = .ok (.invokestatic 34, 3) := by decide +kernel
theorem d_Value_rank_11 : decode b_Value_rank 11 = .ok (.ifCond .eq 10, 3) := by decide +kernel
theorem d_Value_rank_14 : decode b_Value_rank 14 = .ok (.iload_n 0, 1) := by decide +kernel
theorem d_Value_rank_15 : decode b_Value_rank 15 = .ok (.ldc 66, 2) := by decide +kernel
theorem d_Value_rank_17 : decode b_Value_rank 17 = .ok (.iadd, 1) := by decide +kernel
theorem d_Value_rank_18 : decode b_Value_rank 18 = .ok (.goto 4, 3) := by decide +kernel
theorem d_Value_rank_21 : decode b_Value_rank 21 = .ok (.iload_n 0, 1) := by decide +kernel
theorem d_Value_rank_22 : decode b_Value_rank 22 = .ok (.ireturn, 1) := by decide +kernel
set_option maxHeartbeats 4000000 in
set_option maxRecDepth 100000 in
/-- Value.rank -/
theorem c_Value_rank (l : Launch) (dC : Nat → ClassId) (dI : Nat → Nat → Nat) (sz : Heap) (x : Int32) : Met l y_Value_rank (k_Value_rank :: gtbl) ({ frames := 1, cells := 0, slots := 0, locals := 40 }) (va_Pc [.int x] mT) (vp_Si (fun (r : Int32) => True)) 0 0 (fun _ => False) := by
  refine Met.ofW (cc := b_Value_rank) (maxL := 1) (ret := (some .int)) (by decide) rfl ?_
  intro p e s m args below meth c s₁ B hml hv
  obtain ⟨rfl, hN⟩ := hv
  have hx := B.exec
  have hb := B.bytes
  have hr := B.returns
  have hts0 := atoms_spec (ws := k_Value_rank :: gtbl) B.pre
  have hts := fun w h => hts0 w (List.mem_cons_of_mem _ h)
  have hown : s.vm.findClass R_Value = some m.cls := findClass_of_methodNamed B.named
  have hlocks := B.notSynchronized
  have hl := lv_entry ([.int x]) (n := 1) (Nat.le_of_ble_eq_true rfl)
  rw [lg_entry_eq]
  generalize (lg_sl ([.int x]) ++ List.replicate (1 - (lg_sl ([.int x])).length) Slot.unset).toArray = ls at hl ⊢
  have hl : lv_has ls 1 [(0, .int x)] := hl
  refine lv_iload_n hx hb d_Value_rank_0 rfl (lv_at hl 0 rfl) ?_
  refine vp_callSi (va_Run.run (va_runSN (As := [.int x]) (rest := []) ⟨hx, hb, hml, hown, hts⟩ (r_QB_isHighUnit l dC dI s.heap x) (⟨va_cnB (host := "QueryBench") 1 hts (gt_code i_QB_isHighUnit) rfl rfl rfl (hN _ nz_947) (hts _ w_1) (by decide +kernel) ⟨Nat.le_of_ble_eq_true rfl, Nat.le_of_ble_eq_true rfl⟩, hts _ w_432, trivial⟩) ⟨mT_blind, fun U hU hW => ⟨rfl, hN.warm hW⟩⟩ rfl rfl hl.1 rfl (lv_room (Nat.le_of_ble_eq_true rfl)) d_Value_rank_1 ⟨Nat.le_of_ble_eq_true rfl, Nat.le_of_ble_eq_true rfl⟩)) (fun r1 h_r1 => ?_)
  refine lv_if_ne (tgt := 14) hx hb d_Value_rank_4 (by decide) (fun c4 => ?_) (fun c4 => ?_)
  · refine lv_iload_n hx hb d_Value_rank_14 rfl (lv_at hl 0 rfl) ?_
    refine lv_ldc (v := 65536) hx hb hown (hts _ z_948) d_Value_rank_15 ?_
    refine lv_iadd hx hb d_Value_rank_17 ?_
    refine lv_goto (tgt := 22) hx hb d_Value_rank_18 (by decide) ?_
    exact W.iret (v := (x + 65536)) hx hb hr (fun t ht hW => ⟨(x + 65536), rfl, trivial, ht⟩) (fun _ h => nomatch h) d_Value_rank_22
  · refine lv_iload_n hx hb d_Value_rank_7 rfl (lv_at hl 0 rfl) ?_
    refine vp_callSi (va_Run.run (va_runSN (As := [.int x]) (rest := []) ⟨hx, hb, hml, hown, hts⟩ (r_QB_isLowUnit l dC dI s.heap x) (⟨va_cnB (host := "QueryBench") 1 hts (gt_code i_QB_isLowUnit) rfl rfl rfl (hN _ nz_927) (hts _ w_1) (by decide +kernel) ⟨Nat.le_of_ble_eq_true rfl, Nat.le_of_ble_eq_true rfl⟩, hts _ w_427, trivial⟩) ⟨mT_blind, fun U hU hW => ⟨rfl, hN.warm hW⟩⟩ rfl rfl hl.1 rfl (lv_room (Nat.le_of_ble_eq_true rfl)) d_Value_rank_8 ⟨Nat.le_of_ble_eq_true rfl, Nat.le_of_ble_eq_true rfl⟩)) (fun r2 h_r2 => ?_)
    refine lv_if_eq (tgt := 21) hx hb d_Value_rank_11 (by decide) (fun c11 => ?_) (fun c11 => ?_)
    · refine lv_iload_n hx hb d_Value_rank_21 rfl (lv_at hl 0 rfl) ?_
      exact W.iret (v := x) hx hb hr (fun t ht hW => ⟨x, rfl, trivial, ht⟩) (fun _ h => nomatch h) d_Value_rank_22
    · refine lv_iload_n hx hb d_Value_rank_14 rfl (lv_at hl 0 rfl) ?_
      refine lv_ldc (v := 65536) hx hb hown (hts _ z_948) d_Value_rank_15 ?_
      refine lv_iadd hx hb d_Value_rank_17 ?_
      refine lv_goto (tgt := 22) hx hb d_Value_rank_18 (by decide) ?_
      exact W.iret (v := (x + 65536)) hx hb hr (fun t ht hW => ⟨(x + 65536), rfl, trivial, ht⟩) (fun _ h => nomatch h) d_Value_rank_22
abbrev b_Value_lessText : ByteArray := prog_11_method_8_code
def y_Value_lessText : MethodName := ⟨"QueryBench$Value", "lessText", "([I[I)Z"⟩
abbrev k_Value_lessText : Cond := .code y_Value_lessText b_Value_lessText 4 (some .boolean)
theorem i_Value_lessText : k_Value_lessText ∈ gtbl := gt_in 940 (by decide +kernel) (by decide +kernel)
theorem d_Value_lessText_0 : decode b_Value_lessText 0 = .ok (.aload_n 0, 1) := by decide +kernel
theorem d_Value_lessText_1 : decode b_Value_lessText 1 = .ok (.arraylength, 1) := by decide +kernel
theorem d_Value_lessText_2 : decode b_Value_lessText 2 = .ok (.aload_n 1, 1) := by decide +kernel
theorem d_Value_lessText_3 : decode b_Value_lessText 3 = .ok (.arraylength, 1) := by decide +kernel
theorem d_Value_lessText_4 : decode b_Value_lessText 4 = .ok (.invokestatic 53, 3) := by decide +kernel
theorem d_Value_lessText_7 : decode b_Value_lessText 7 = .ok (.istore_n 2, 1) := by decide +kernel
theorem d_Value_lessText_8 : decode b_Value_lessText 8 = .ok (.iconst 0, 1) := by decide +kernel
theorem d_Value_lessText_9 : decode b_Value_lessText 9 = .ok (.istore_n 3, 1) := by decide +kernel
theorem d_Value_lessText_10 : decode b_Value_lessText 10 = .ok (.iload_n 3, 1) := by decide +kernel
theorem d_Value_lessText_11 : decode b_Value_lessText 11 = .ok (.iload_n 2, 1) := by decide +kernel
theorem d_Value_lessText_12 : decode b_Value_lessText 12 = .ok (.if_icmp .ge 39, 3) := by decide +kernel
theorem d_Value_lessText_15 : decode b_Value_lessText 15 = .ok (.aload_n 0, 1) := by decide +kernel
theorem d_Value_lessText_16 : decode b_Value_lessText 16 = .ok (.iload_n 3, 1) := by decide +kernel
theorem d_Value_lessText_17 : decode b_Value_lessText 17 = .ok (.iaload, 1) := by decide +kernel
theorem d_Value_lessText_18 : decode b_Value_lessText 18 = .ok (.aload_n 1, 1) := by decide +kernel
theorem d_Value_lessText_19 : decode b_Value_lessText 19 = .ok (.iload_n 3, 1) := by decide +kernel
theorem d_Value_lessText_20 : decode b_Value_lessText 20 = .ok (.iaload, 1) := by decide +kernel
theorem d_Value_lessText_21 : decode b_Value_lessText 21 = .ok (.if_icmp .eq 24, 3) := by decide +kernel
theorem d_Value_lessText_24 : decode b_Value_lessText 24 = .ok (.aload_n 0, 1) := by decide +kernel
theorem d_Value_lessText_25 : decode b_Value_lessText 25 = .ok (.iload_n 3, 1) := by decide +kernel
theorem d_Value_lessText_26 : decode b_Value_lessText 26 = .ok (.iaload, 1) := by decide +kernel
theorem d_Value_lessText_27 : decode b_Value_lessText 27 = .ok (.invokestatic 59, 3) := by decide +kernel
theorem d_Value_lessText_30 : decode b_Value_lessText 30 = .ok (.aload_n 1, 1) := by decide +kernel
theorem d_Value_lessText_31 : decode b_Value_lessText 31 = .ok (.iload_n 3, 1) := by decide +kernel
theorem d_Value_lessText_32 : decode b_Value_lessText 32 = .ok (.iaload, 1) := by decide +kernel
theorem d_Value_lessText_33 : decode b_Value_lessText 33 = .ok (.invokestatic 59, 3) := by decide +kernel
theorem d_Value_lessText_36 : decode b_Value_lessText 36 = .ok (.if_icmp .ge 7, 3) := by decide +kernel
theorem d_Value_lessText_39 : decode b_Value_lessText 39 = .ok (.iconst 1, 1) := by decide +kernel
theorem d_Value_lessText_40 : decode b_Value_lessText 40 = .ok (.goto 4, 3) := by decide +kernel
theorem d_Value_lessText_43 : decode b_Value_lessText 43 = .ok (.iconst 0, 1) := by decide +kernel
theorem d_Value_lessText_44 : decode b_Value_lessText 44 = .ok (.ireturn, 1) := by decide +kernel
theorem d_Value_lessText_45 : decode b_Value_lessText 45 = .ok (.iinc 3 1, 3) := by decide +kernel
theorem d_Value_lessText_48 : decode b_Value_lessText 48 = .ok (.goto (-38), 3) := by decide +kernel
theorem d_Value_lessText_51 : decode b_Value_lessText 51 = .ok (.aload_n 0, 1) := by decide +kernel
theorem d_Value_lessText_52 : decode b_Value_lessText 52 = .ok (.arraylength, 1) := by decide +kernel
theorem d_Value_lessText_53 : decode b_Value_lessText 53 = .ok (.aload_n 1, 1) := by decide +kernel
theorem d_Value_lessText_54 : decode b_Value_lessText 54 = .ok (.arraylength, 1) := by decide +kernel
theorem d_Value_lessText_55 : decode b_Value_lessText 55 = .ok (.if_icmp .ge 7, 3) := by decide +kernel
theorem d_Value_lessText_58 : decode b_Value_lessText 58 = .ok (.iconst 1, 1) := by decide +kernel
theorem d_Value_lessText_59 : decode b_Value_lessText 59 = .ok (.goto 4, 3) := by decide +kernel
theorem d_Value_lessText_62 : decode b_Value_lessText 62 = .ok (.iconst 0, 1) := by decide +kernel
theorem d_Value_lessText_63 : decode b_Value_lessText 63 = .ok (.ireturn, 1) := by decide +kernel
set_option maxHeartbeats 4000000 in
set_option maxRecDepth 100000 in
/-- Value.lessText -/
theorem c_Value_lessText (l : Launch) (dC : Nat → ClassId) (dI : Nat → Nat → Nat) (sz : Heap) (cI cV : ClassId) (E lv : Nat → Nat) (L : List Nat) (f : Nat → va_E) (hO : PO cI cV E lv L f) (a b : Nat) (ha : E a = 4) (hb9 : E b = 4) : Met l y_Value_lessText (k_Value_lessText :: gtbl) ({ frames := 2, cells := 0, slots := 0, locals := 90 }) (va_Pc [.ref a, .ref b] (mq dC dI ([] ++ va_pl L f) [(cI, .int), (cV, .object "QueryBench$Value")] sz)) (vp_Si (fun (r : Int32) => Bo r)) 0 0 (fun _ => False) := by
  refine Met.ofW (cc := b_Value_lessText) (maxL := 4) (ret := (some .boolean)) (by decide) rfl ?_
  intro p e s m args below meth c s₁ B hml hv
  obtain ⟨rfl, hsz, hP, hK, hN⟩ := hv
  have hx := B.exec
  have hb := B.bytes
  have hr := B.returns
  have hts0 := atoms_spec (ws := k_Value_lessText :: gtbl) B.pre
  have hts := fun w h => hts0 w (List.mem_cons_of_mem _ h)
  have hown : s.vm.findClass R_Value = some m.cls := findClass_of_methodNamed B.named
  have hlocks := B.notSynchronized
  subst hsz
  have hP : va_P (dC, dI) classes ([] ++ va_pl L f) s.heap := hP
  have hl := lv_entry ([.ref a, .ref b]) (n := 4) (Nat.le_of_ble_eq_true rfl)
  rw [lg_entry_eq]
  generalize (lg_sl ([.ref a, .ref b]) ++ List.replicate (4 - (lg_sl ([.ref a, .ref b])).length) Slot.unset).toArray = ls at hl ⊢
  have hl : lv_has ls 4 [(0, .ref a), (1, .ref b)] := hl
  refine lv_aload_n hx hb d_Value_lessText_0 rfl (lv_at hl 0 rfl) ?_
  obtain ⟨n1, g2, ef3, hn4⟩ := hO.txt (ha)
  refine vq_alen hx hb hK hP 0 (hO.inL (a := a) (by rw [ha]; decide)) ef3 rfl d_Value_lessText_1 ?_
  refine lv_aload_n hx hb d_Value_lessText_2 rfl (lv_at hl 1 rfl) ?_
  obtain ⟨n5, g6, ef7, hn8⟩ := hO.txt (hb9)
  refine vq_alen hx hb hK hP 0 (hO.inL (a := b) (by rw [hb9]; decide)) ef7 rfl d_Value_lessText_3 ?_
  refine va_mmin hx hb (hml.trans hl.1.symm) hown (hts _ z_941) (hts _ w_942) (hts _ w_16) (hts _ wm_mini) (Nat.le_of_ble_eq_true rfl) (Nat.le_of_ble_eq_true rfl) (Nat.zero_le _) (Nat.zero_le _) d_Value_lessText_4 ?_
  refine lv_istore_n (lv' := [(2, .int (if (nI n5) < (nI n1) then (nI n5) else (nI n1))), (0, .ref a), (1, .ref b)]) hx hb d_Value_lessText_7 rfl hl (by decide) rfl (fun ls hl => ?_)
  refine lv_iconst (v := 0) hx hb d_Value_lessText_8 (by decide) ?_
  refine lv_istore_n (lv' := [(3, .int 0), (2, .int (if (nI n5) < (nI n1) then (nI n5) else (nI n1))), (0, .ref a), (1, .ref b)]) hx hb d_Value_lessText_9 rfl hl (by decide) rfl (fun ls hl => ?_)
  obtain ⟨mn, hmn1, hmn2, hmn3⟩ : ∃ k, (if (nI n5) < (nI n1) then (nI n5) else (nI n1)) = nI k ∧ k ≤ n1 ∧ k ≤ n5 := by
    split
    · rename_i h9; rw [nI_ltI (by omega) (by omega)] at h9; exact ⟨n5, rfl, by omega, by omega⟩
    · rename_i h9; rw [nI_ltI (by omega) (by omega)] at h9; exact ⟨n1, rfl, by omega, by omega⟩
  rw [hmn1] at hl
  have hl : lv_has ls 4 [(3, .int 0), (2, .int (nI mn)), (0, .ref a), (1, .ref b)] := hl
  refine w_loopR (nL := 4) 10 (σ := Nat) (fun i => i ≤ 4096) (fun i => 4096 - i) (fun i => [(0, .ref a), (1, .ref b), (2, .int (nI mn)), (3, .int (nI i))]) ?_ 0 (Nat.zero_le _) (lv_sub hl [2, 3, 1, 0] rfl)
  rintro i ls hI ih hl
  have hl : lv_has ls 4 [(0, .ref a), (1, .ref b), (2, .int (nI mn)), (3, .int (nI i))] := hl
  refine lv_iload_n hx hb d_Value_lessText_10 rfl (lv_at hl 3 rfl) ?_
  refine lv_iload_n hx hb d_Value_lessText_11 rfl (lv_at hl 2 rfl) ?_
  refine lv_icmp_ge (tgt := 51) hx hb d_Value_lessText_12 (by decide) (fun c12 => ?_) (fun c12 => ?_)
  · refine lv_aload_n hx hb d_Value_lessText_51 rfl (lv_at hl 0 rfl) ?_
    refine vq_alen hx hb hK hP 0 (hO.inL (a := a) (by rw [ha]; decide)) ef3 rfl d_Value_lessText_52 ?_
    refine lv_aload_n hx hb d_Value_lessText_53 rfl (lv_at hl 1 rfl) ?_
    refine vq_alen hx hb hK hP 0 (hO.inL (a := b) (by rw [hb9]; decide)) ef7 rfl d_Value_lessText_54 ?_
    refine lv_icmp_ge (tgt := 62) hx hb d_Value_lessText_55 (by decide) (fun c55 => ?_) (fun c55 => ?_)
    · refine lv_iconst (v := 0) hx hb d_Value_lessText_62 (by decide) ?_
      exact W.zret (v := 0) hx hb hr rfl (fun t ht hW => ⟨0, rfl, (Or.inl rfl), ht⟩) (fun _ h => nomatch h) d_Value_lessText_63
    · refine lv_iconst (v := 1) hx hb d_Value_lessText_58 (by decide) ?_
      refine lv_goto (tgt := 63) hx hb d_Value_lessText_59 (by decide) ?_
      exact W.zret (v := 1) hx hb hr rfl (fun t ht hW => ⟨1, rfl, (Or.inr rfl), ht⟩) (fun _ h => nomatch h) d_Value_lessText_63
  · have hi : i < mn := by rw [nI_leI (by omega) (by omega)] at c12; omega
    refine lv_aload_n hx hb d_Value_lessText_15 rfl (lv_at hl 0 rfl) ?_
    refine lv_iload_n hx hb d_Value_lessText_16 rfl (lv_at hl 3 rfl) ?_
    refine vq_iald hx hb hK hP 0 (hO.inL (a := a) (by rw [ha]; decide)) ef3 rfl (j := i) (by omega) hn4 d_Value_lessText_17 ?_
    refine lv_aload_n hx hb d_Value_lessText_18 rfl (lv_at hl 1 rfl) ?_
    refine lv_iload_n hx hb d_Value_lessText_19 rfl (lv_at hl 3 rfl) ?_
    refine vq_iald hx hb hK hP 0 (hO.inL (a := b) (by rw [hb9]; decide)) ef7 rfl (j := i) (by omega) hn8 d_Value_lessText_20 ?_
    refine lv_icmp_eq (tgt := 45) hx hb d_Value_lessText_21 (by decide) (fun c21 => ?_) (fun c21 => ?_)
    · refine lv_iinc (v := nI (i + 1)) (lv' := [(3, .int (nI (i + 1))), (0, .ref a), (1, .ref b), (2, .int (nI mn))]) hx hb d_Value_lessText_45 hl (k := 3) rfl (nI_1 _) (by decide) rfl (fun ls hl => ?_)
      refine lv_goto (tgt := 10) hx hb d_Value_lessText_48 (by decide) ?_
      exact ih (i + 1) _ (show i + 1 ≤ 4096 by omega) (by show 4096 - (i + 1) < 4096 - i; omega) (lv_sub hl [1, 2, 3, 0] rfl)
    · refine lv_aload_n hx hb d_Value_lessText_24 rfl (lv_at hl 0 rfl) ?_
      refine lv_iload_n hx hb d_Value_lessText_25 rfl (lv_at hl 3 rfl) ?_
      refine vq_iald hx hb hK hP 0 (hO.inL (a := a) (by rw [ha]; decide)) ef3 rfl (j := i) (by omega) hn4 d_Value_lessText_26 ?_
      refine vp_callSi (va_Run.run (va_runS (As := [.int (g2 i)]) (rest := []) ⟨hx, hb, hml, hown, hts⟩ (c_Value_rank l dC dI s.heap ((g2 i))) (va_cwS 1 hts (gt_S (own := R_Value) (i := 59) (y := y_Value_rank) i_Value_rank z_944 z_945 z_14) rfl rfl rfl (by decide +kernel) ⟨Nat.le_of_ble_eq_true rfl, Nat.le_of_ble_eq_true rfl⟩) ⟨mT_blind, fun U hU hW => ⟨rfl, hN.warm hW⟩⟩ rfl rfl hl.1 rfl (lv_room (Nat.le_of_ble_eq_true rfl)) d_Value_lessText_27 ⟨Nat.le_of_ble_eq_true rfl, Nat.le_of_ble_eq_true rfl⟩)) (fun r9 h_r9 => ?_)
      refine lv_aload_n hx hb d_Value_lessText_30 rfl (lv_at hl 1 rfl) ?_
      refine lv_iload_n hx hb d_Value_lessText_31 rfl (lv_at hl 3 rfl) ?_
      refine vq_iald hx hb hK hP 0 (hO.inL (a := b) (by rw [hb9]; decide)) ef7 rfl (j := i) (by omega) hn8 d_Value_lessText_32 ?_
      refine vp_callSi (va_Run.run (va_runS (As := [.int (g6 i)]) (rest := [.int r9]) ⟨hx, hb, hml, hown, hts⟩ (c_Value_rank l dC dI s.heap ((g6 i))) (va_cwS 1 hts (gt_S (own := R_Value) (i := 59) (y := y_Value_rank) i_Value_rank z_944 z_945 z_14) rfl rfl rfl (by decide +kernel) ⟨Nat.le_of_ble_eq_true rfl, Nat.le_of_ble_eq_true rfl⟩) ⟨mT_blind, fun U hU hW => ⟨rfl, hN.warm hW⟩⟩ rfl rfl hl.1 rfl (lv_room (Nat.le_of_ble_eq_true rfl)) d_Value_lessText_33 ⟨Nat.le_of_ble_eq_true rfl, Nat.le_of_ble_eq_true rfl⟩)) (fun r10 h_r10 => ?_)
      refine lv_icmp_ge (tgt := 43) hx hb d_Value_lessText_36 (by decide) (fun c36 => ?_) (fun c36 => ?_)
      · refine lv_iconst (v := 0) hx hb d_Value_lessText_43 (by decide) ?_
        exact W.zret (v := 0) hx hb hr rfl (fun t ht hW => ⟨0, rfl, (Or.inl rfl), ht⟩) (fun _ h => nomatch h) d_Value_lessText_44
      · refine lv_iconst (v := 1) hx hb d_Value_lessText_39 (by decide) ?_
        refine lv_goto (tgt := 44) hx hb d_Value_lessText_40 (by decide) ?_
        exact W.zret (v := 1) hx hb hr rfl (fun t ht hW => ⟨1, rfl, (Or.inr rfl), ht⟩) (fun _ h => nomatch h) d_Value_lessText_44
abbrev b_Value_less : ByteArray := prog_11_method_7_code
def y_Value_less : MethodName := ⟨"QueryBench$Value", "less", "(LQueryBench$Value;LQueryBench$Value;)Z"⟩
abbrev k_Value_less : Cond := .code y_Value_less b_Value_less 2 (some .boolean)
theorem i_Value_less : k_Value_less ∈ gtbl := gt_in 937 (by decide +kernel) (by decide +kernel)
theorem d_Value_less_0 : decode b_Value_less 0 = .ok (.aload_n 0, 1) := by decide +kernel
theorem d_Value_less_1 : decode b_Value_less 1 = .ok (.ifnull 18, 3) := by decide +kernel
theorem d_Value_less_4 : decode b_Value_less 4 = .ok (.aload_n 1, 1) := by decide +kernel
theorem d_Value_less_5 : decode b_Value_less 5 = .ok (.ifnull 14, 3) := by decide +kernel
theorem d_Value_less_8 : decode b_Value_less 8 = .ok (.aload_n 0, 1) := by decide +kernel
theorem d_Value_less_9 : decode b_Value_less 9 = .ok (.getfield 9, 3) := by decide +kernel
theorem d_Value_less_12 : decode b_Value_less 12 = .ok (.aload_n 1, 1) := by decide +kernel
theorem d_Value_less_13 : decode b_Value_less 13 = .ok (.getfield 9, 3) := by decide +kernel
theorem d_Value_less_16 : decode b_Value_less 16 = .ok (.if_icmp .eq 5, 3) := by decide +kernel
theorem d_Value_less_19 : decode b_Value_less 19 = .ok (.iconst 0, 1) := by decide +kernel
theorem d_Value_less_20 : decode b_Value_less 20 = .ok (.ireturn, 1) := by decide +kernel
theorem d_Value_less_21 : decode b_Value_less 21 = .ok (.aload_n 0, 1) := by decide +kernel
theorem d_Value_less_22 : decode b_Value_less 22 = .ok (.getfield 9, 3) := by decide +kernel
theorem d_Value_less_25 : decode b_Value_less 25 = .ok (.iconst 3, 1) := by decide +kernel
theorem d_Value_less_26 : decode b_Value_less 26 = .ok (.if_icmp .ne 21, 3) := by decide +kernel
theorem d_Value_less_29 : decode b_Value_less 29 = .ok (.aload_n 0, 1) := by decide +kernel
theorem d_Value_less_30 : decode b_Value_less 30 = .ok (.getfield 42, 3) := by decide +kernel
theorem d_Value_less_33 : decode b_Value_less 33 = .ok (.aload_n 1, 1) := by decide +kernel
theorem d_Value_less_34 : decode b_Value_less 34 = .ok (.getfield 42, 3) := by decide +kernel
theorem d_Value_less_37 : decode b_Value_less 37 = .ok (.lcmp, 1) := by decide +kernel
theorem d_Value_less_38 : decode b_Value_less 38 = .ok (.ifCond .ge 7, 3) := by decide +kernel
theorem d_Value_less_41 : decode b_Value_less 41 = .ok (.iconst 1, 1) := by decide +kernel
theorem d_Value_less_42 : decode b_Value_less 42 = .ok (.goto 4, 3) := by decide +kernel
theorem d_Value_less_45 : decode b_Value_less 45 = .ok (.iconst 0, 1) := by decide +kernel
theorem d_Value_less_46 : decode b_Value_less 46 = .ok (.ireturn, 1) := by decide +kernel
theorem d_Value_less_47 : decode b_Value_less 47 = .ok (.aload_n 0, 1) := by decide +kernel
theorem d_Value_less_48 : decode b_Value_less 48 = .ok (.getfield 9, 3) := by decide +kernel
theorem d_Value_less_51 : decode b_Value_less 51 = .ok (.iconst 4, 1) := by decide +kernel
theorem d_Value_less_52 : decode b_Value_less 52 = .ok (.if_icmp .ne 21, 3) := by decide +kernel
theorem d_Value_less_55 : decode b_Value_less 55 = .ok (.aload_n 0, 1) := by decide +kernel
theorem d_Value_less_56 : decode b_Value_less 56 = .ok (.getfield 31, 3) := by decide +kernel
theorem d_Value_less_59 : decode b_Value_less 59 = .ok (.aload_n 1, 1) := by decide +kernel
theorem d_Value_less_60 : decode b_Value_less 60 = .ok (.getfield 31, 3) := by decide +kernel
theorem d_Value_less_63 : decode b_Value_less 63 = .ok (.invokestatic 50, 3) := by decide +kernel
theorem d_Value_less_66 : decode b_Value_less 66 = .ok (.ifCond .eq 7, 3) := by decide +kernel
theorem d_Value_less_69 : decode b_Value_less 69 = .ok (.iconst 1, 1) := by decide +kernel
theorem d_Value_less_70 : decode b_Value_less 70 = .ok (.goto 4, 3) := by decide +kernel
theorem d_Value_less_73 : decode b_Value_less 73 = .ok (.iconst 0, 1) := by decide +kernel
theorem d_Value_less_74 : decode b_Value_less 74 = .ok (.ireturn, 1) := by decide +kernel
set_option maxHeartbeats 4000000 in
set_option maxRecDepth 100000 in
/-- Value.less -/
theorem c_Value_less (l : Launch) (dC : Nat → ClassId) (dI : Nat → Nat → Nat) (sz : Heap) (cI cV : ClassId) (E lv : Nat → Nat) (L : List Nat) (f : Nat → va_E) (hO : PO cI cV E lv L f) (oa ob : Option Nat) (hoa : oR (isF E) oa) (hob : oR (isF E) ob) : Met l y_Value_less (k_Value_less :: gtbl) ({ frames := 3, cells := 0, slots := 0, locals := 130 }) (va_Pc [va_rf oa, va_rf ob] (mq dC dI ([] ++ va_pl L f) [(cI, .int), (cV, .object "QueryBench$Value")] sz)) (vp_Si (fun (r : Int32) => Bo r)) 0 0 (fun _ => False) := by
  rcases oa with _ | b1
  · rcases ob with _ | b2
    · change Met _ _ _ _ (va_Pc [.null, .null] _) _ _ _ _
      refine Met.ofW (cc := b_Value_less) (maxL := 2) (ret := (some .boolean)) (by decide) rfl ?_
      intro p e s m args below meth c s₁ B hml hv
      obtain ⟨rfl, hsz, hP, hK, hN⟩ := hv
      have hx := B.exec
      have hb := B.bytes
      have hr := B.returns
      have hts0 := atoms_spec (ws := k_Value_less :: gtbl) B.pre
      have hts := fun w h => hts0 w (List.mem_cons_of_mem _ h)
      have hown : s.vm.findClass R_Value = some m.cls := findClass_of_methodNamed B.named
      have hlocks := B.notSynchronized
      subst hsz
      have hP : va_P (dC, dI) classes ([] ++ va_pl L f) s.heap := hP
      have hl := lv_entry ([.null, .null]) (n := 2) (Nat.le_of_ble_eq_true rfl)
      rw [lg_entry_eq]
      generalize (lg_sl ([.null, .null]) ++ List.replicate (2 - (lg_sl ([.null, .null])).length) Slot.unset).toArray = ls at hl ⊢
      have hl : lv_has ls 2 [(0, .null), (1, .null)] := hl
      refine lv_aload_nN hx hb d_Value_less_0 rfl (lv_at hl 0 rfl) ?_
      refine lv_ifnullN (tgt := 19) hx hb d_Value_less_1 (by decide) ?_
      refine lv_iconst (v := 0) hx hb d_Value_less_19 (by decide) ?_
      exact W.zret (v := 0) hx hb hr rfl (fun t ht hW => ⟨0, rfl, (Or.inl rfl), ht⟩) (fun _ h => nomatch h) d_Value_less_20
    · change Met _ _ _ _ (va_Pc [.null, .ref b2] _) _ _ _ _
      refine Met.ofW (cc := b_Value_less) (maxL := 2) (ret := (some .boolean)) (by decide) rfl ?_
      intro p e s m args below meth c s₁ B hml hv
      obtain ⟨rfl, hsz, hP, hK, hN⟩ := hv
      have hx := B.exec
      have hb := B.bytes
      have hr := B.returns
      have hts0 := atoms_spec (ws := k_Value_less :: gtbl) B.pre
      have hts := fun w h => hts0 w (List.mem_cons_of_mem _ h)
      have hown : s.vm.findClass R_Value = some m.cls := findClass_of_methodNamed B.named
      have hlocks := B.notSynchronized
      subst hsz
      have hP : va_P (dC, dI) classes ([] ++ va_pl L f) s.heap := hP
      have hl := lv_entry ([.null, .ref b2]) (n := 2) (Nat.le_of_ble_eq_true rfl)
      rw [lg_entry_eq]
      generalize (lg_sl ([.null, .ref b2]) ++ List.replicate (2 - (lg_sl ([.null, .ref b2])).length) Slot.unset).toArray = ls at hl ⊢
      have hl : lv_has ls 2 [(0, .null), (1, .ref b2)] := hl
      refine lv_aload_nN hx hb d_Value_less_0 rfl (lv_at hl 0 rfl) ?_
      refine lv_ifnullN (tgt := 19) hx hb d_Value_less_1 (by decide) ?_
      refine lv_iconst (v := 0) hx hb d_Value_less_19 (by decide) ?_
      exact W.zret (v := 0) hx hb hr rfl (fun t ht hW => ⟨0, rfl, (Or.inl rfl), ht⟩) (fun _ h => nomatch h) d_Value_less_20
  · rcases ob with _ | b3
    · change Met _ _ _ _ (va_Pc [.ref b1, .null] _) _ _ _ _
      refine Met.ofW (cc := b_Value_less) (maxL := 2) (ret := (some .boolean)) (by decide) rfl ?_
      intro p e s m args below meth c s₁ B hml hv
      obtain ⟨rfl, hsz, hP, hK, hN⟩ := hv
      have hx := B.exec
      have hb := B.bytes
      have hr := B.returns
      have hts0 := atoms_spec (ws := k_Value_less :: gtbl) B.pre
      have hts := fun w h => hts0 w (List.mem_cons_of_mem _ h)
      have hown : s.vm.findClass R_Value = some m.cls := findClass_of_methodNamed B.named
      have hlocks := B.notSynchronized
      subst hsz
      have hP : va_P (dC, dI) classes ([] ++ va_pl L f) s.heap := hP
      have hl := lv_entry ([.ref b1, .null]) (n := 2) (Nat.le_of_ble_eq_true rfl)
      rw [lg_entry_eq]
      generalize (lg_sl ([.ref b1, .null]) ++ List.replicate (2 - (lg_sl ([.ref b1, .null])).length) Slot.unset).toArray = ls at hl ⊢
      have hl : lv_has ls 2 [(0, .ref b1), (1, .null)] := hl
      refine lv_aload_n hx hb d_Value_less_0 rfl (lv_at hl 0 rfl) ?_
      refine lv_ifnull hx hb d_Value_less_1 ?_
      refine lv_aload_nN hx hb d_Value_less_4 rfl (lv_at hl 1 rfl) ?_
      refine lv_ifnullN (tgt := 19) hx hb d_Value_less_5 (by decide) ?_
      refine lv_iconst (v := 0) hx hb d_Value_less_19 (by decide) ?_
      exact W.zret (v := 0) hx hb hr rfl (fun t ht hW => ⟨0, rfl, (Or.inl rfl), ht⟩) (fun _ h => nomatch h) d_Value_less_20
    · change Met _ _ _ _ (va_Pc [.ref b1, .ref b3] _) _ _ _ _
      refine Met.ofW (cc := b_Value_less) (maxL := 2) (ret := (some .boolean)) (by decide) rfl ?_
      intro p e s m args below meth c s₁ B hml hv
      obtain ⟨rfl, hsz, hP, hK, hN⟩ := hv
      have hx := B.exec
      have hb := B.bytes
      have hr := B.returns
      have hts0 := atoms_spec (ws := k_Value_less :: gtbl) B.pre
      have hts := fun w h => hts0 w (List.mem_cons_of_mem _ h)
      have hown : s.vm.findClass R_Value = some m.cls := findClass_of_methodNamed B.named
      have hlocks := B.notSynchronized
      subst hsz
      have hP : va_P (dC, dI) classes ([] ++ va_pl L f) s.heap := hP
      have hl := lv_entry ([.ref b1, .ref b3]) (n := 2) (Nat.le_of_ble_eq_true rfl)
      rw [lg_entry_eq]
      generalize (lg_sl ([.ref b1, .ref b3]) ++ List.replicate (2 - (lg_sl ([.ref b1, .ref b3])).length) Slot.unset).toArray = ls at hl ⊢
      have hl : lv_has ls 2 [(0, .ref b1), (1, .ref b3)] := hl
      refine lv_aload_n hx hb d_Value_less_0 rfl (lv_at hl 0 rfl) ?_
      refine lv_ifnull hx hb d_Value_less_1 ?_
      refine lv_aload_n hx hb d_Value_less_4 rfl (lv_at hl 1 rfl) ?_
      refine lv_ifnull hx hb d_Value_less_5 ?_
      refine lv_aload_n hx hb d_Value_less_8 rfl (lv_at hl 0 rfl) ?_
      obtain ⟨kd4, nu4, tx4, me4, pa4, na4, ix4, nm4, no4, sp4, ef4, hv4⟩ := hO.val ((isF.v (hoa b1 rfl)))
      refine vq_get (D := (dC, dI)) (ci := 9) (v := .int kd4) (C := R_Value) (T := F_Value) (N := 10) hx hb hts in_Value hown hK hP (hO.inV (isF.v (hoa b1 rfl))) ef4 rfl 0 (by decide) (hts _ z_312) (fun _ h9 => h9) rfl d_Value_less_9 ?_
      refine lv_aload_n hx hb d_Value_less_12 rfl (lv_at hl 1 rfl) ?_
      obtain ⟨kd5, nu5, tx5, me5, pa5, na5, ix5, nm5, no5, sp5, ef5, hv5⟩ := hO.val ((isF.v (hob b3 rfl)))
      refine vq_get (D := (dC, dI)) (ci := 9) (v := .int kd5) (C := R_Value) (T := F_Value) (N := 10) hx hb hts in_Value hown hK hP (hO.inV (isF.v (hob b3 rfl))) ef5 rfl 0 (by decide) (hts _ z_312) (fun _ h9 => h9) rfl d_Value_less_13 ?_
      refine lv_icmp_eq (tgt := 21) hx hb d_Value_less_16 (by decide) (fun c16 => ?_) (fun c16 => ?_)
      · refine lv_aload_n hx hb d_Value_less_21 rfl (lv_at hl 0 rfl) ?_
        refine vq_get (D := (dC, dI)) (ci := 9) (v := .int kd4) (C := R_Value) (T := F_Value) (N := 10) hx hb hts in_Value hown hK hP (hO.inV (isF.v (hoa b1 rfl))) ef4 rfl 0 (by decide) (hts _ z_312) (fun _ h9 => h9) rfl d_Value_less_22 ?_
        refine lv_iconst (v := 3) hx hb d_Value_less_25 (by decide) ?_
        refine lv_icmp_ne (tgt := 47) hx hb d_Value_less_26 (by decide) (fun c26 => ?_) (fun c26 => ?_)
        · refine lv_aload_n hx hb d_Value_less_47 rfl (lv_at hl 0 rfl) ?_
          refine vq_get (D := (dC, dI)) (ci := 9) (v := .int kd4) (C := R_Value) (T := F_Value) (N := 10) hx hb hts in_Value hown hK hP (hO.inV (isF.v (hoa b1 rfl))) ef4 rfl 0 (by decide) (hts _ z_312) (fun _ h9 => h9) rfl d_Value_less_48 ?_
          refine lv_iconst (v := 4) hx hb d_Value_less_51 (by decide) ?_
          refine lv_icmp_ne (tgt := 73) hx hb d_Value_less_52 (by decide) (fun c52 => ?_) (fun c52 => ?_)
          · refine lv_iconst (v := 0) hx hb d_Value_less_73 (by decide) ?_
            exact W.zret (v := 0) hx hb hr rfl (fun t ht hW => ⟨0, rfl, (Or.inl rfl), ht⟩) (fun _ h => nomatch h) d_Value_less_74
          · refine lv_aload_n hx hb d_Value_less_55 rfl (lv_at hl 0 rfl) ?_
            rcases tx4 with _ | b6
            · exact absurd rfl ((hv4.2.2.2.2.2.2.1 (isF.n1 (hoa b1 rfl))).1 c52)
            · refine vq_get (D := (dC, dI)) (ci := 9) (v := .ref b6) (C := R_Value) (T := F_Value) (N := 10) hx hb hts in_Value hown hK hP (hO.inV (isF.v (hoa b1 rfl))) ef4 rfl 2 (by decide) (hts _ z_322) (fun _ h9 => h9) rfl d_Value_less_56 ?_
              refine lv_aload_n hx hb d_Value_less_59 rfl (lv_at hl 1 rfl) ?_
              rcases tx5 with _ | b7
              · exact absurd rfl ((hv5.2.2.2.2.2.2.1 (isF.n1 (hob b3 rfl))).1 (c16.symm.trans c52))
              · refine vq_get (D := (dC, dI)) (ci := 9) (v := .ref b7) (C := R_Value) (T := F_Value) (N := 10) hx hb hts in_Value hown hK hP (hO.inV (isF.v (hob b3 rfl))) ef5 rfl 2 (by decide) (hts _ z_322) (fun _ h9 => h9) rfl d_Value_less_60 ?_
                refine vp_callSi (va_Run.run (va_runS (As := [.ref b6, .ref b7]) (rest := []) ⟨hx, hb, hml, hown, hts⟩ (c_Value_lessText l dC dI s.heap cI cV E lv L f hO b6 b7 (hv4.1 b6 rfl) (hv5.1 b7 rfl)) (va_cwS 2 hts (gt_S (own := R_Value) (i := 50) (y := y_Value_lessText) i_Value_lessText z_938 z_939 z_14) rfl rfl rfl (by decide +kernel) ⟨Nat.le_of_ble_eq_true rfl, Nat.le_of_ble_eq_true rfl⟩) ⟨mq_blind, fun U hU hW => ⟨rfl, hU, by rw [hU]; exact hP, va_K.moved hW.alike hK, hN.warm hW⟩⟩ rfl rfl hl.1 rfl (lv_room (Nat.le_of_ble_eq_true rfl)) d_Value_less_63 ⟨Nat.le_of_ble_eq_true rfl, Nat.le_of_ble_eq_true rfl⟩)) (fun r8 h_r8 => ?_)
                refine lv_if_eq (tgt := 73) hx hb d_Value_less_66 (by decide) (fun c66 => ?_) (fun c66 => ?_)
                · refine lv_iconst (v := 0) hx hb d_Value_less_73 (by decide) ?_
                  exact W.zret (v := 0) hx hb hr rfl (fun t ht hW => ⟨0, rfl, (Or.inl rfl), ht⟩) (fun _ h => nomatch h) d_Value_less_74
                · refine lv_iconst (v := 1) hx hb d_Value_less_69 (by decide) ?_
                  refine lv_goto (tgt := 74) hx hb d_Value_less_70 (by decide) ?_
                  exact W.zret (v := 1) hx hb hr rfl (fun t ht hW => ⟨1, rfl, (Or.inr rfl), ht⟩) (fun _ h => nomatch h) d_Value_less_74
        · refine lv_aload_n hx hb d_Value_less_29 rfl (lv_at hl 0 rfl) ?_
          refine vq_get (D := (dC, dI)) (ci := 9) (v := .long nu4) (C := R_Value) (T := F_Value) (N := 10) hx hb hts in_Value hown hK hP (hO.inV (isF.v (hoa b1 rfl))) ef4 rfl 1 (by decide) (hts _ z_317) (fun _ h9 => h9) rfl d_Value_less_30 ?_
          refine lv_aload_n hx hb d_Value_less_33 rfl (lv_at hl 1 rfl) ?_
          refine vq_get (D := (dC, dI)) (ci := 9) (v := .long nu5) (C := R_Value) (T := F_Value) (N := 10) hx hb hts in_Value hown hK hP (hO.inV (isF.v (hob b3 rfl))) ef5 rfl 1 (by decide) (hts _ z_317) (fun _ h9 => h9) rfl d_Value_less_34 ?_
          refine W.lcmp hx hb d_Value_less_37 ?_
          refine lv_if_ge (tgt := 45) hx hb d_Value_less_38 (by decide) (fun c38 => ?_) (fun c38 => ?_)
          · refine lv_iconst (v := 0) hx hb d_Value_less_45 (by decide) ?_
            exact W.zret (v := 0) hx hb hr rfl (fun t ht hW => ⟨0, rfl, (Or.inl rfl), ht⟩) (fun _ h => nomatch h) d_Value_less_46
          · refine lv_iconst (v := 1) hx hb d_Value_less_41 (by decide) ?_
            refine lv_goto (tgt := 46) hx hb d_Value_less_42 (by decide) ?_
            exact W.zret (v := 1) hx hb hr rfl (fun t ht hW => ⟨1, rfl, (Or.inr rfl), ht⟩) (fun _ h => nomatch h) d_Value_less_46
      · refine lv_iconst (v := 0) hx hb d_Value_less_19 (by decide) ?_
        exact W.zret (v := 0) hx hb hr rfl (fun t ht hW => ⟨0, rfl, (Or.inl rfl), ht⟩) (fun _ h => nomatch h) d_Value_less_20
