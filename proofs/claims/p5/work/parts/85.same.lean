theorem z_862 : (.instanceMethod ⟨"QueryBench$Value", "member", "([I)LQueryBench$Value;"⟩ : Cond) ∈ gtbl := gt_in 862 (by decide +kernel) (by decide +kernel)
theorem z_863 : (.selects "QueryBench$Value" ⟨"QueryBench$Value", "member", "([I)LQueryBench$Value;"⟩ ⟨"QueryBench$Value", "member", "([I)LQueryBench$Value;"⟩ : Cond) ∈ gtbl := gt_in 863 (by decide +kernel) (by decide +kernel)
theorem z_931 : (.methodLink "QueryBench$Value" 38 ⟨"QueryBench$Value", "sameFrom", "(LQueryBench$Value;LQueryBench$Value;I)Z"⟩ : Cond) ∈ gtbl := gt_in 931 (by decide +kernel) (by decide +kernel)
theorem z_932 : (.static ⟨"QueryBench$Value", "sameFrom", "(LQueryBench$Value;LQueryBench$Value;I)Z"⟩ : Cond) ∈ gtbl := gt_in 932 (by decide +kernel) (by decide +kernel)
theorem z_934 : (.methodLink "QueryBench$Value" 46 ⟨"QueryBench$Value", "member", "([I)LQueryBench$Value;"⟩ : Cond) ∈ gtbl := gt_in 934 (by decide +kernel) (by decide +kernel)
abbrev b_Value_sameFrom : ByteArray := prog_11_method_6_code
def y_Value_sameFrom : MethodName := ⟨"QueryBench$Value", "sameFrom", "(LQueryBench$Value;LQueryBench$Value;I)Z"⟩
abbrev k_Value_sameFrom : Cond := .code y_Value_sameFrom b_Value_sameFrom 5 (some .boolean)
theorem i_Value_sameFrom : k_Value_sameFrom ∈ gtbl := gt_in 933 (by decide +kernel) (by decide +kernel)
theorem d_Value_sameFrom_0 : decode b_Value_sameFrom 0 = .ok (.aload_n 0, 1) := by decide +kernel
theorem d_Value_sameFrom_1 : decode b_Value_sameFrom 1 = .ok (.getfield 9, 3) := by decide +kernel
theorem d_Value_sameFrom_4 : decode b_Value_sameFrom 4 = .ok (.aload_n 1, 1) := by decide +kernel
theorem d_Value_sameFrom_5 : decode b_Value_sameFrom 5 = .ok (.getfield 9, 3) := by decide +kernel
theorem d_Value_sameFrom_8 : decode b_Value_sameFrom 8 = .ok (.if_icmp .ne 20, 3) := by decide +kernel
theorem d_Value_sameFrom_11 : decode b_Value_sameFrom 11 = .ok (.aload_n 0, 1) := by decide +kernel
theorem d_Value_sameFrom_12 : decode b_Value_sameFrom 12 = .ok (.invokevirtual 19, 3) := by decide +kernel
theorem d_Value_sameFrom_15 : decode b_Value_sameFrom 15 = .ok (.aload_n 1, 1) := by decide +kernel
theorem d_Value_sameFrom_16 : decode b_Value_sameFrom 16 = .ok (.invokevirtual 19, 3) := by decide +kernel
theorem d_Value_sameFrom_19 : decode b_Value_sameFrom 19 = .ok (.if_icmp .ne 9, 3) := by decide +kernel
theorem d_Value_sameFrom_22 : decode b_Value_sameFrom 22 = .ok (.iload_n 2, 1) := by decide +kernel
theorem d_Value_sameFrom_23 : decode b_Value_sameFrom 23 = .ok (.bipush 32, 2) := by decide +kernel
theorem d_Value_sameFrom_25 : decode b_Value_sameFrom 25 = .ok (.if_icmp .le 5, 3) := by decide +kernel
theorem d_Value_sameFrom_28 : decode b_Value_sameFrom 28 = .ok (.iconst 0, 1) := by decide +kernel
theorem d_Value_sameFrom_29 : decode b_Value_sameFrom 29 = .ok (.ireturn, 1) := by decide +kernel
theorem d_Value_sameFrom_30 : decode b_Value_sameFrom 30 = .ok (.aload_n 0, 1) := by decide +kernel
theorem d_Value_sameFrom_31 : decode b_Value_sameFrom 31 = .ok (.getfield 9, 3) := by decide +kernel
theorem d_Value_sameFrom_34 : decode b_Value_sameFrom 34 = .ok (.iconst 3, 1) := by decide +kernel
theorem d_Value_sameFrom_35 : decode b_Value_sameFrom 35 = .ok (.if_icmp .ne 21, 3) := by decide +kernel
theorem d_Value_sameFrom_38 : decode b_Value_sameFrom 38 = .ok (.aload_n 0, 1) := by decide +kernel
theorem d_Value_sameFrom_39 : decode b_Value_sameFrom 39 = .ok (.getfield 42, 3) := by decide +kernel
theorem d_Value_sameFrom_42 : decode b_Value_sameFrom 42 = .ok (.aload_n 1, 1) := by decide +kernel
theorem d_Value_sameFrom_43 : decode b_Value_sameFrom 43 = .ok (.getfield 42, 3) := by decide +kernel
theorem d_Value_sameFrom_46 : decode b_Value_sameFrom 46 = .ok (.lcmp, 1) := by decide +kernel
theorem d_Value_sameFrom_47 : decode b_Value_sameFrom 47 = .ok (.ifCond .ne 7, 3) := by decide +kernel
theorem d_Value_sameFrom_50 : decode b_Value_sameFrom 50 = .ok (.iconst 1, 1) := by decide +kernel
theorem d_Value_sameFrom_51 : decode b_Value_sameFrom 51 = .ok (.goto 4, 3) := by decide +kernel
theorem d_Value_sameFrom_54 : decode b_Value_sameFrom 54 = .ok (.iconst 0, 1) := by decide +kernel
theorem d_Value_sameFrom_55 : decode b_Value_sameFrom 55 = .ok (.ireturn, 1) := by decide +kernel
theorem d_Value_sameFrom_56 : decode b_Value_sameFrom 56 = .ok (.aload_n 0, 1) := by decide +kernel
theorem d_Value_sameFrom_57 : decode b_Value_sameFrom 57 = .ok (.getfield 9, 3) := by decide +kernel
theorem d_Value_sameFrom_60 : decode b_Value_sameFrom 60 = .ok (.iconst 4, 1) := by decide +kernel
theorem d_Value_sameFrom_61 : decode b_Value_sameFrom 61 = .ok (.if_icmp .ne 15, 3) := by decide +kernel
theorem d_Value_sameFrom_64 : decode b_Value_sameFrom 64 = .ok (.aload_n 0, 1) := by decide +kernel
theorem d_Value_sameFrom_65 : decode b_Value_sameFrom 65 = .ok (.getfield 31, 3) := by decide +kernel
theorem d_Value_sameFrom_68 : decode b_Value_sameFrom 68 = .ok (.aload_n 1, 1) := by decide +kernel
theorem d_Value_sameFrom_69 : decode b_Value_sameFrom 69 = .ok (.getfield 31, 3) := by decide +kernel
theorem d_Value_sameFrom_72 : decode b_Value_sameFrom 72 = .ok (.invokestatic 27, 3) := by decide +kernel
theorem d_Value_sameFrom_75 : decode b_Value_sameFrom 75 = .ok (.ireturn, 1) := by decide +kernel
theorem d_Value_sameFrom_76 : decode b_Value_sameFrom 76 = .ok (.iconst 0, 1) := by decide +kernel
theorem d_Value_sameFrom_77 : decode b_Value_sameFrom 77 = .ok (.istore_n 3, 1) := by decide +kernel
theorem d_Value_sameFrom_78 : decode b_Value_sameFrom 78 = .ok (.iload_n 3, 1) := by decide +kernel
theorem d_Value_sameFrom_79 : decode b_Value_sameFrom 79 = .ok (.aload_n 0, 1) := by decide +kernel
theorem d_Value_sameFrom_80 : decode b_Value_sameFrom 80 = .ok (.invokevirtual 19, 3) := by decide +kernel
theorem d_Value_sameFrom_83 : decode b_Value_sameFrom 83 = .ok (.if_icmp .ge 65, 3) := by decide +kernel
theorem d_Value_sameFrom_86 : decode b_Value_sameFrom 86 = .ok (.aload_n 0, 1) := by decide +kernel
theorem d_Value_sameFrom_87 : decode b_Value_sameFrom 87 = .ok (.getfield 9, 3) := by decide +kernel
theorem d_Value_sameFrom_90 : decode b_Value_sameFrom 90 = .ok (.iconst 5, 1) := by decide +kernel
theorem d_Value_sameFrom_91 : decode b_Value_sameFrom 91 = .ok (.if_icmp .ne 12, 3) := by decide +kernel
theorem d_Value_sameFrom_94 : decode b_Value_sameFrom 94 = .ok (.aload_n 1, 1) := by decide +kernel
theorem d_Value_sameFrom_95 : decode b_Value_sameFrom 95 = .ok (.getfield 15, 3) := by decide +kernel
theorem d_Value_sameFrom_98 : decode b_Value_sameFrom 98 = .ok (.iload_n 3, 1) := by decide +kernel
theorem d_Value_sameFrom_99 : decode b_Value_sameFrom 99 = .ok (.aaload, 1) := by decide +kernel
theorem d_Value_sameFrom_100 : decode b_Value_sameFrom 100 = .ok (.goto 16, 3) := by decide +kernel
theorem d_Value_sameFrom_103 : decode b_Value_sameFrom 103 = .ok (.aload_n 1, 1) := by decide +kernel
theorem d_Value_sameFrom_104 : decode b_Value_sameFrom 104 = .ok (.aload_n 0, 1) := by decide +kernel
theorem d_Value_sameFrom_105 : decode b_Value_sameFrom 105 = .ok (.getfield 15, 3) := by decide +kernel
theorem d_Value_sameFrom_108 : decode b_Value_sameFrom 108 = .ok (.iload_n 3, 1) := by decide +kernel
theorem d_Value_sameFrom_109 : decode b_Value_sameFrom 109 = .ok (.aaload, 1) := by decide +kernel
theorem d_Value_sameFrom_110 : decode b_Value_sameFrom 110 = .ok (.getfield 23, 3) := by decide +kernel
theorem d_Value_sameFrom_113 : decode b_Value_sameFrom 113 = .ok (.invokevirtual 46, 3) := by decide +kernel
theorem d_Value_sameFrom_116 : decode b_Value_sameFrom 116 = .ok (.astore 4, 2) := by decide +kernel
theorem d_Value_sameFrom_118 : decode b_Value_sameFrom 118 = .ok (.aload 4, 2) := by decide +kernel
theorem d_Value_sameFrom_120 : decode b_Value_sameFrom 120 = .ok (.ifnull 20, 3) := by decide +kernel
theorem d_Value_sameFrom_123 : decode b_Value_sameFrom 123 = .ok (.aload_n 0, 1) := by decide +kernel
theorem d_Value_sameFrom_124 : decode b_Value_sameFrom 124 = .ok (.getfield 15, 3) := by decide +kernel
theorem d_Value_sameFrom_127 : decode b_Value_sameFrom 127 = .ok (.iload_n 3, 1) := by decide +kernel
theorem d_Value_sameFrom_128 : decode b_Value_sameFrom 128 = .ok (.aaload, 1) := by decide +kernel
theorem d_Value_sameFrom_129 : decode b_Value_sameFrom 129 = .ok (.aload 4, 2) := by decide +kernel
theorem d_Value_sameFrom_131 : decode b_Value_sameFrom 131 = .ok (.iload_n 2, 1) := by decide +kernel
theorem d_Value_sameFrom_132 : decode b_Value_sameFrom 132 = .ok (.iconst 1, 1) := by decide +kernel
theorem d_Value_sameFrom_133 : decode b_Value_sameFrom 133 = .ok (.iadd, 1) := by decide +kernel
theorem d_Value_sameFrom_134 : decode b_Value_sameFrom 134 = .ok (.invokestatic 38, 3) := by decide +kernel
theorem d_Value_sameFrom_137 : decode b_Value_sameFrom 137 = .ok (.ifCond .ne 5, 3) := by decide +kernel
theorem d_Value_sameFrom_140 : decode b_Value_sameFrom 140 = .ok (.iconst 0, 1) := by decide +kernel
theorem d_Value_sameFrom_141 : decode b_Value_sameFrom 141 = .ok (.ireturn, 1) := by decide +kernel
theorem d_Value_sameFrom_142 : decode b_Value_sameFrom 142 = .ok (.iinc 3 1, 3) := by decide +kernel
theorem d_Value_sameFrom_145 : decode b_Value_sameFrom 145 = .ok (.goto (-67), 3) := by decide +kernel
theorem d_Value_sameFrom_148 : decode b_Value_sameFrom 148 = .ok (.iconst 1, 1) := by decide +kernel
theorem d_Value_sameFrom_149 : decode b_Value_sameFrom 149 = .ok (.ireturn, 1) := by decide +kernel
set_option maxHeartbeats 4000000 in
set_option maxRecDepth 100000 in
/-- Value.sameFrom -/
theorem c_Value_sameFrom (l : Launch) (dC : Nat → ClassId) (dI : Nat → Nat → Nat) (sz : Heap) (cI cV : ClassId) (E lv : Nat → Nat) (L : List Nat) (f : Nat → va_E) (hO : PO cI cV E lv L f) : ∀ (k d : Nat), d + k = 33 → ∀ (a b : Nat), isF E a → isF E b → Met l y_Value_sameFrom (k_Value_sameFrom :: gtbl) ({ frames := 4 + k, cells := 0, slots := 0, locals := 200 + 40 * k }) (va_Pc [.ref a, .ref b, .int (nI d)] (mq dC dI ([] ++ va_pl L f) [(cI, .int), (cV, .object "QueryBench$Value")] sz)) (vp_Si (fun (r : Int32) => Bo r)) 0 0 (fun _ => False) := by
  intro k
  induction k using Nat.strongRecOn with
  | _ k IH =>
    intro d hd a b ha hb9
    refine Met.ofW (cc := b_Value_sameFrom) (maxL := 5) (ret := (some .boolean)) (by decide) rfl ?_
    intro p e s m args below meth c s₁ B hml hv
    obtain ⟨rfl, hsz, hP, hK, hN⟩ := hv
    have hx := B.exec
    have hb := B.bytes
    have hr := B.returns
    have hts0 := atoms_spec (ws := k_Value_sameFrom :: gtbl) B.pre
    have hts := fun w h => hts0 w (List.mem_cons_of_mem _ h)
    have hown : s.vm.findClass R_Value = some m.cls := findClass_of_methodNamed B.named
    have hlocks := B.notSynchronized
    subst hsz
    have hP : va_P (dC, dI) classes ([] ++ va_pl L f) s.heap := hP
    have hl := lv_entry ([.ref a, .ref b, .int (nI d)]) (n := 5) (Nat.le_of_ble_eq_true rfl)
    rw [lg_entry_eq]
    generalize (lg_sl ([.ref a, .ref b, .int (nI d)]) ++ List.replicate (5 - (lg_sl ([.ref a, .ref b, .int (nI d)])).length) Slot.unset).toArray = ls at hl ⊢
    have hl : lv_has ls 5 [(0, .ref a), (1, .ref b), (2, .int (nI d))] := hl
    refine lv_aload_n hx hb d_Value_sameFrom_0 rfl (lv_at hl 0 rfl) ?_
    obtain ⟨kd1, nu1, tx1, me1, pa1, na1, ix1, nm1, no1, sp1, ef1, hv1⟩ := hO.val ((isF.v ha))
    refine vq_get (D := (dC, dI)) (ci := 9) (v := .int kd1) (C := R_Value) (T := F_Value) (N := 10) hx hb hts in_Value hown hK hP (hO.inV (isF.v ha)) ef1 rfl 0 (by decide) (hts _ z_312) (fun _ h9 => h9) rfl d_Value_sameFrom_1 ?_
    refine lv_aload_n hx hb d_Value_sameFrom_4 rfl (lv_at hl 1 rfl) ?_
    obtain ⟨kd2, nu2, tx2, me2, pa2, na2, ix2, nm2, no2, sp2, ef2, hv2⟩ := hO.val ((isF.v hb9))
    refine vq_get (D := (dC, dI)) (ci := 9) (v := .int kd2) (C := R_Value) (T := F_Value) (N := 10) hx hb hts in_Value hown hK hP (hO.inV (isF.v hb9)) ef2 rfl 0 (by decide) (hts _ z_312) (fun _ h9 => h9) rfl d_Value_sameFrom_5 ?_
    refine lv_icmp_ne (tgt := 28) hx hb d_Value_sameFrom_8 (by decide) (fun c8 => ?_) (fun c8 => ?_)
    · refine lv_iconst (v := 0) hx hb d_Value_sameFrom_28 (by decide) ?_
      exact W.zret (v := 0) hx hb hr rfl (fun t ht hW => ⟨0, rfl, (Or.inl rfl), ht⟩) (fun _ h => nomatch h) d_Value_sameFrom_29
    · refine lv_aload_n hx hb d_Value_sameFrom_11 rfl (lv_at hl 0 rfl) ?_
      refine vp_callSi (va_Run.run (va_runV (As := []) (rest := []) ⟨hx, hb, hml, hown, hts⟩ (c_Value_size l dC dI s.heap cI cV E lv L f hO a ha) (cwV 0 hts (gt_V (own := R_Value) (C := R_Value) (i := 19) (y := y_Value_size) i_Value_size z_865 z_866 z_867 z_14) rfl rfl rfl (by decide +kernel) ⟨by show 0 + 1 ≤ 4 + k; omega, by show 8 + (1 + 11) + 0 ≤ 200 + 40 * k; omega⟩) ⟨mq_blind, vq_recv hK hP rfl (hO.inV (isF.v ha)) ef1, fun U hU hW => ⟨rfl, hU, by rw [hU]; exact hP, va_K.moved hW.alike hK, hN.warm hW⟩⟩ rfl rfl hl.1 rfl (lv_room (Nat.le_of_ble_eq_true rfl)) d_Value_sameFrom_12 ⟨Nat.le_of_ble_eq_true rfl, Nat.le_of_ble_eq_true rfl⟩)) (fun r3 h_r3 => ?_)
      subst h_r3
      refine lv_aload_n hx hb d_Value_sameFrom_15 rfl (lv_at hl 1 rfl) ?_
      refine vp_callSi (va_Run.run (va_runV (As := []) (rest := [.int (nI (szF f a))]) ⟨hx, hb, hml, hown, hts⟩ (c_Value_size l dC dI s.heap cI cV E lv L f hO b hb9) (cwV 0 hts (gt_V (own := R_Value) (C := R_Value) (i := 19) (y := y_Value_size) i_Value_size z_865 z_866 z_867 z_14) rfl rfl rfl (by decide +kernel) ⟨by show 0 + 1 ≤ 4 + k; omega, by show 8 + (1 + 11) + 0 ≤ 200 + 40 * k; omega⟩) ⟨mq_blind, vq_recv hK hP rfl (hO.inV (isF.v hb9)) ef2, fun U hU hW => ⟨rfl, hU, by rw [hU]; exact hP, va_K.moved hW.alike hK, hN.warm hW⟩⟩ rfl rfl hl.1 rfl (lv_room (Nat.le_of_ble_eq_true rfl)) d_Value_sameFrom_16 ⟨Nat.le_of_ble_eq_true rfl, Nat.le_of_ble_eq_true rfl⟩)) (fun r4 h_r4 => ?_)
      subst h_r4
      refine lv_icmp_ne (tgt := 28) hx hb d_Value_sameFrom_19 (by decide) (fun c19 => ?_) (fun c19 => ?_)
      · refine lv_iconst (v := 0) hx hb d_Value_sameFrom_28 (by decide) ?_
        exact W.zret (v := 0) hx hb hr rfl (fun t ht hW => ⟨0, rfl, (Or.inl rfl), ht⟩) (fun _ h => nomatch h) d_Value_sameFrom_29
      · have hsa := hO.szle ef1 hv1
        have hsb := hO.szle ef2 hv2
        have hss : szF f a = szF f b := by rw [nI_eq (by omega) (by omega)] at c19; exact c19
        refine lv_iload_n hx hb d_Value_sameFrom_22 rfl (lv_at hl 2 rfl) ?_
        refine lv_bipush (v := 32) hx hb d_Value_sameFrom_23 (by decide) ?_
        refine lv_icmp_le (tgt := 30) hx hb d_Value_sameFrom_25 (by decide) (fun c25 => ?_) (fun c25 => ?_)
        · have hd1 : d ≤ 32 := by rw [show (32 : Int32) = nI 32 from rfl, nI_leI (by omega) (by omega)] at c25; exact c25
          refine lv_aload_n hx hb d_Value_sameFrom_30 rfl (lv_at hl 0 rfl) ?_
          refine vq_get (D := (dC, dI)) (ci := 9) (v := .int kd1) (C := R_Value) (T := F_Value) (N := 10) hx hb hts in_Value hown hK hP (hO.inV (isF.v ha)) ef1 rfl 0 (by decide) (hts _ z_312) (fun _ h9 => h9) rfl d_Value_sameFrom_31 ?_
          refine lv_iconst (v := 3) hx hb d_Value_sameFrom_34 (by decide) ?_
          refine lv_icmp_ne (tgt := 56) hx hb d_Value_sameFrom_35 (by decide) (fun c35 => ?_) (fun c35 => ?_)
          · refine lv_aload_n hx hb d_Value_sameFrom_56 rfl (lv_at hl 0 rfl) ?_
            refine vq_get (D := (dC, dI)) (ci := 9) (v := .int kd1) (C := R_Value) (T := F_Value) (N := 10) hx hb hts in_Value hown hK hP (hO.inV (isF.v ha)) ef1 rfl 0 (by decide) (hts _ z_312) (fun _ h9 => h9) rfl d_Value_sameFrom_57 ?_
            refine lv_iconst (v := 4) hx hb d_Value_sameFrom_60 (by decide) ?_
            refine lv_icmp_ne (tgt := 76) hx hb d_Value_sameFrom_61 (by decide) (fun c61 => ?_) (fun c61 => ?_)
            · refine lv_iconst (v := 0) hx hb d_Value_sameFrom_76 (by decide) ?_
              refine lv_istore_n (lv' := [(3, .int 0), (0, .ref a), (1, .ref b), (2, .int (nI d))]) hx hb d_Value_sameFrom_77 rfl hl (by decide) rfl (fun ls hl => ?_)
              refine w_loopR (nL := 5) 78 (σ := Nat) (fun i => i ≤ 4096) (fun i => 4096 - i) (fun i => [(0, .ref a), (1, .ref b), (2, .int (nI d)), (3, .int (nI i))]) ?_ 0 (Nat.zero_le _) (lv_sub hl [1, 2, 3, 0] rfl)
              rintro i ls hI ih hl
              have hl : lv_has ls 5 [(0, .ref a), (1, .ref b), (2, .int (nI d)), (3, .int (nI i))] := hl
              refine lv_iload_n hx hb d_Value_sameFrom_78 rfl (lv_at hl 3 rfl) ?_
              refine lv_aload_n hx hb d_Value_sameFrom_79 rfl (lv_at hl 0 rfl) ?_
              refine vp_callSi (va_Run.run (va_runV (As := []) (rest := [.int (nI i)]) ⟨hx, hb, hml, hown, hts⟩ (c_Value_size l dC dI s.heap cI cV E lv L f hO a ha) (cwV 0 hts (gt_V (own := R_Value) (C := R_Value) (i := 19) (y := y_Value_size) i_Value_size z_865 z_866 z_867 z_14) rfl rfl rfl (by decide +kernel) ⟨by show 0 + 1 ≤ 4 + k; omega, by show 8 + (1 + 11) + 0 ≤ 200 + 40 * k; omega⟩) ⟨mq_blind, vq_recv hK hP rfl (hO.inV (isF.v ha)) ef1, fun U hU hW => ⟨rfl, hU, by rw [hU]; exact hP, va_K.moved hW.alike hK, hN.warm hW⟩⟩ rfl rfl hl.1 rfl (lv_room (Nat.le_of_ble_eq_true rfl)) d_Value_sameFrom_80 ⟨Nat.le_of_ble_eq_true rfl, Nat.le_of_ble_eq_true rfl⟩)) (fun r5 h_r5 => ?_)
              subst h_r5
              refine lv_icmp_ge (tgt := 148) hx hb d_Value_sameFrom_83 (by decide) (fun c83 => ?_) (fun c83 => ?_)
              · refine lv_iconst (v := 1) hx hb d_Value_sameFrom_148 (by decide) ?_
                exact W.zret (v := 1) hx hb hr rfl (fun t ht hW => ⟨1, rfl, (Or.inr rfl), ht⟩) (fun _ h => nomatch h) d_Value_sameFrom_149
              · have hi : i < szF f a := by rw [nI_leI (by omega) (by omega)] at c83; omega
                refine lv_aload_n hx hb d_Value_sameFrom_86 rfl (lv_at hl 0 rfl) ?_
                refine vq_get (D := (dC, dI)) (ci := 9) (v := .int kd1) (C := R_Value) (T := F_Value) (N := 10) hx hb hts in_Value hown hK hP (hO.inV (isF.v ha)) ef1 rfl 0 (by decide) (hts _ z_312) (fun _ h9 => h9) rfl d_Value_sameFrom_87 ?_
                refine lv_iconst (v := 5) hx hb d_Value_sameFrom_90 (by decide) ?_
                refine lv_icmp_ne (tgt := 103) hx hb d_Value_sameFrom_91 (by decide) (fun c91 => ?_) (fun c91 => ?_)
                · refine lv_aload_n hx hb d_Value_sameFrom_103 rfl (lv_at hl 1 rfl) ?_
                  refine lv_aload_n hx hb d_Value_sameFrom_104 rfl (lv_at hl 0 rfl) ?_
                  rcases me1 with _ | b6
                  · exact absurd (PO.mem0 ef1) (by omega)
                  · refine vq_get (D := (dC, dI)) (ci := 9) (v := .ref b6) (C := R_Value) (T := F_Value) (N := 10) hx hb hts in_Value hown hK hP (hO.inV (isF.v ha)) ef1 rfl 3 (by decide) (hts _ z_325) (fun _ h9 => h9) rfl d_Value_sameFrom_105 ?_
                    refine lv_iload_n hx hb d_Value_sameFrom_108 rfl (lv_at hl 3 rfl) ?_
                    obtain ⟨g7, hi7, ef7, hg7⟩ := hO.mem1 ef1 hv1 (isF.n1 ha)
                    have hn7 := hO.szle ef1 hv1
                    obtain ⟨me8, hm8, hf8, hnm8⟩ := hg7 i (by omega)
                    refine vq_aald hx hb hK hP 1 hi7 ef7 rfl (j := i) (by omega) hn7 hm8 d_Value_sameFrom_109 ?_
                    obtain ⟨kd9, nu9, tx9, me9, pa9, na9, ix9, nm9, no9, sp9, ef9, hv9⟩ := hO.val ((isF.v hf8))
                    rcases na9 with _ | b10
                    · refine vq_get (D := (dC, dI)) (ci := 9) (v := .null) (C := R_Value) (T := F_Value) (N := 10) hx hb hts in_Value hown hK hP (hO.inV (isF.v hf8)) ef9 rfl 5 (by decide) (hts _ z_331) (fun _ h9 => h9) rfl d_Value_sameFrom_110 ?_
                      refine va_csq (va_Run.run (va_runV (As := [.null]) (rest := []) ⟨hx, hb, hml, hown, hts⟩ (c_Value_member l dC dI s.heap cI cV E lv L f hO b hb9 none (fun b h => nomatch h) (fun h9 => absurd rfl (hv9.2.2.2.2.2.2.2 (hnm8 (c8.trans ((kdF_v ef2).symm.trans h9)))).1)) (cwV 1 hts (gt_V (own := R_Value) (C := R_Value) (i := 46) (y := y_Value_member) i_Value_member z_934 z_862 z_863 z_14) rfl rfl rfl (by decide +kernel) ⟨by show 1 + 1 ≤ 4 + k; omega, by show 8 + (3 + 11) + 60 ≤ 200 + 40 * k; omega⟩) ⟨mq_blind, vq_recv hK hP rfl (hO.inV (isF.v hb9)) ef2, fun U hU hW => ⟨rfl, hU, by rw [hU]; exact hP, va_K.moved hW.alike hK, hN.warm hW⟩⟩ rfl rfl hl.1 rfl (lv_room (Nat.le_of_ble_eq_true rfl)) d_Value_sameFrom_113 ⟨Nat.le_of_ble_eq_true rfl, Nat.le_of_ble_eq_true rfl⟩)) (fun r11 h_r11 => ?_)
                      rcases r11 with _ | b12
                      · refine lv_astoreN (lv' := [(4, .null), (0, .ref a), (1, .ref b), (2, .int (nI d)), (3, .int (nI i))]) hx hb d_Value_sameFrom_116 hl (by decide) rfl (fun ls hl => ?_)
                        refine lv_aloadN hx hb d_Value_sameFrom_118 (lv_at hl 0 rfl) ?_
                        refine lv_ifnullN (tgt := 140) hx hb d_Value_sameFrom_120 (by decide) ?_
                        refine lv_iconst (v := 0) hx hb d_Value_sameFrom_140 (by decide) ?_
                        exact W.zret (v := 0) hx hb hr rfl (fun t ht hW => ⟨0, rfl, (Or.inl rfl), ht⟩) (fun _ h => nomatch h) d_Value_sameFrom_141
                      · refine lv_astore (lv' := [(4, .ref b12), (0, .ref a), (1, .ref b), (2, .int (nI d)), (3, .int (nI i))]) hx hb d_Value_sameFrom_116 hl (by decide) rfl (fun ls hl => ?_)
                        refine lv_aload hx hb d_Value_sameFrom_118 (lv_at hl 0 rfl) ?_
                        refine lv_ifnull hx hb d_Value_sameFrom_120 ?_
                        refine lv_aload_n hx hb d_Value_sameFrom_123 rfl (lv_at hl 1 rfl) ?_
                        refine vq_get (D := (dC, dI)) (ci := 9) (v := .ref b6) (C := R_Value) (T := F_Value) (N := 10) hx hb hts in_Value hown hK hP (hO.inV (isF.v ha)) ef1 rfl 3 (by decide) (hts _ z_325) (fun _ h9 => h9) rfl d_Value_sameFrom_124 ?_
                        refine lv_iload_n hx hb d_Value_sameFrom_127 rfl (lv_at hl 4 rfl) ?_
                        obtain ⟨me13, hm13, hf13, hnm13⟩ := hg7 i (by omega)
                        refine vq_aald hx hb hK hP 1 hi7 ef7 rfl (j := i) (by omega) hn7 hm13 d_Value_sameFrom_128 ?_
                        refine lv_aload hx hb d_Value_sameFrom_129 (lv_at hl 0 rfl) ?_
                        refine lv_iload_n hx hb d_Value_sameFrom_131 rfl (lv_at hl 3 rfl) ?_
                        refine lv_iconst (v := 1) hx hb d_Value_sameFrom_132 (by decide) ?_
                        refine lv_iadd hx hb d_Value_sameFrom_133 ?_
                        refine W.eq (g2 := F0 m 134 ls [.int (nI (d + 1)), .ref b12, .ref me13]) (by rw [show ((nI d) + 1) = (nI (d + 1)) from nI_1 _]) ?_
                        refine vp_callSi (va_Run.run (va_runS (As := [.ref me13, .ref b12, .int (nI (d + 1))]) (rest := []) ⟨hx, hb, hml, hown, hts⟩ (IH (k - 1) (by omega) (d + 1) (by omega) me13 b12 hf13 (h_r11 b12 rfl)) (va_cwS 3 hts (gt_S (own := R_Value) (i := 38) (y := y_Value_sameFrom) i_Value_sameFrom z_931 z_932 z_14) rfl rfl rfl (by decide +kernel) ⟨by show 4 + (k - 1) + 1 ≤ 4 + k; omega, by show 8 + (5 + 11) + (200 + 40 * (k - 1)) ≤ 200 + 40 * k; omega⟩) ⟨mq_blind, fun U hU hW => ⟨rfl, hU, by rw [hU]; exact hP, va_K.moved hW.alike hK, hN.warm hW⟩⟩ rfl rfl hl.1 rfl (lv_room (Nat.le_of_ble_eq_true rfl)) d_Value_sameFrom_134 ⟨Nat.le_of_ble_eq_true rfl, Nat.le_of_ble_eq_true rfl⟩)) (fun r14 h_r14 => ?_)
                        refine lv_if_ne (tgt := 142) hx hb d_Value_sameFrom_137 (by decide) (fun c137 => ?_) (fun c137 => ?_)
                        · refine lv_iinc (v := nI (i + 1)) (lv' := [(3, .int (nI (i + 1))), (4, .ref b12), (0, .ref a), (1, .ref b), (2, .int (nI d))]) hx hb d_Value_sameFrom_142 hl (k := 4) rfl (nI_1 _) (by decide) rfl (fun ls hl => ?_)
                          refine lv_goto (tgt := 78) hx hb d_Value_sameFrom_145 (by decide) ?_
                          exact ih (i + 1) _ (show i + 1 ≤ 4096 by omega) (by show 4096 - (i + 1) < 4096 - i; omega) (lv_sub hl [2, 3, 4, 0] rfl)
                        · refine lv_iconst (v := 0) hx hb d_Value_sameFrom_140 (by decide) ?_
                          exact W.zret (v := 0) hx hb hr rfl (fun t ht hW => ⟨0, rfl, (Or.inl rfl), ht⟩) (fun _ h => nomatch h) d_Value_sameFrom_141
                    · refine vq_get (D := (dC, dI)) (ci := 9) (v := .ref b10) (C := R_Value) (T := F_Value) (N := 10) hx hb hts in_Value hown hK hP (hO.inV (isF.v hf8)) ef9 rfl 5 (by decide) (hts _ z_331) (fun _ h9 => h9) rfl d_Value_sameFrom_110 ?_
                      refine va_csq (va_Run.run (va_runV (As := [.ref b10]) (rest := []) ⟨hx, hb, hml, hown, hts⟩ (c_Value_member l dC dI s.heap cI cV E lv L f hO b hb9 (some b10) (fun b h => by cases h; exact hv9.2.2.2.1 b10 rfl) (fun _ h => by cases h)) (cwV 1 hts (gt_V (own := R_Value) (C := R_Value) (i := 46) (y := y_Value_member) i_Value_member z_934 z_862 z_863 z_14) rfl rfl rfl (by decide +kernel) ⟨by show 1 + 1 ≤ 4 + k; omega, by show 8 + (3 + 11) + 60 ≤ 200 + 40 * k; omega⟩) ⟨mq_blind, vq_recv hK hP rfl (hO.inV (isF.v hb9)) ef2, fun U hU hW => ⟨rfl, hU, by rw [hU]; exact hP, va_K.moved hW.alike hK, hN.warm hW⟩⟩ rfl rfl hl.1 rfl (lv_room (Nat.le_of_ble_eq_true rfl)) d_Value_sameFrom_113 ⟨Nat.le_of_ble_eq_true rfl, Nat.le_of_ble_eq_true rfl⟩)) (fun r15 h_r15 => ?_)
                      rcases r15 with _ | b16
                      · refine lv_astoreN (lv' := [(4, .null), (0, .ref a), (1, .ref b), (2, .int (nI d)), (3, .int (nI i))]) hx hb d_Value_sameFrom_116 hl (by decide) rfl (fun ls hl => ?_)
                        refine lv_aloadN hx hb d_Value_sameFrom_118 (lv_at hl 0 rfl) ?_
                        refine lv_ifnullN (tgt := 140) hx hb d_Value_sameFrom_120 (by decide) ?_
                        refine lv_iconst (v := 0) hx hb d_Value_sameFrom_140 (by decide) ?_
                        exact W.zret (v := 0) hx hb hr rfl (fun t ht hW => ⟨0, rfl, (Or.inl rfl), ht⟩) (fun _ h => nomatch h) d_Value_sameFrom_141
                      · refine lv_astore (lv' := [(4, .ref b16), (0, .ref a), (1, .ref b), (2, .int (nI d)), (3, .int (nI i))]) hx hb d_Value_sameFrom_116 hl (by decide) rfl (fun ls hl => ?_)
                        refine lv_aload hx hb d_Value_sameFrom_118 (lv_at hl 0 rfl) ?_
                        refine lv_ifnull hx hb d_Value_sameFrom_120 ?_
                        refine lv_aload_n hx hb d_Value_sameFrom_123 rfl (lv_at hl 1 rfl) ?_
                        refine vq_get (D := (dC, dI)) (ci := 9) (v := .ref b6) (C := R_Value) (T := F_Value) (N := 10) hx hb hts in_Value hown hK hP (hO.inV (isF.v ha)) ef1 rfl 3 (by decide) (hts _ z_325) (fun _ h9 => h9) rfl d_Value_sameFrom_124 ?_
                        refine lv_iload_n hx hb d_Value_sameFrom_127 rfl (lv_at hl 4 rfl) ?_
                        obtain ⟨me17, hm17, hf17, hnm17⟩ := hg7 i (by omega)
                        refine vq_aald hx hb hK hP 1 hi7 ef7 rfl (j := i) (by omega) hn7 hm17 d_Value_sameFrom_128 ?_
                        refine lv_aload hx hb d_Value_sameFrom_129 (lv_at hl 0 rfl) ?_
                        refine lv_iload_n hx hb d_Value_sameFrom_131 rfl (lv_at hl 3 rfl) ?_
                        refine lv_iconst (v := 1) hx hb d_Value_sameFrom_132 (by decide) ?_
                        refine lv_iadd hx hb d_Value_sameFrom_133 ?_
                        refine W.eq (g2 := F0 m 134 ls [.int (nI (d + 1)), .ref b16, .ref me17]) (by rw [show ((nI d) + 1) = (nI (d + 1)) from nI_1 _]) ?_
                        refine vp_callSi (va_Run.run (va_runS (As := [.ref me17, .ref b16, .int (nI (d + 1))]) (rest := []) ⟨hx, hb, hml, hown, hts⟩ (IH (k - 1) (by omega) (d + 1) (by omega) me17 b16 hf17 (h_r15 b16 rfl)) (va_cwS 3 hts (gt_S (own := R_Value) (i := 38) (y := y_Value_sameFrom) i_Value_sameFrom z_931 z_932 z_14) rfl rfl rfl (by decide +kernel) ⟨by show 4 + (k - 1) + 1 ≤ 4 + k; omega, by show 8 + (5 + 11) + (200 + 40 * (k - 1)) ≤ 200 + 40 * k; omega⟩) ⟨mq_blind, fun U hU hW => ⟨rfl, hU, by rw [hU]; exact hP, va_K.moved hW.alike hK, hN.warm hW⟩⟩ rfl rfl hl.1 rfl (lv_room (Nat.le_of_ble_eq_true rfl)) d_Value_sameFrom_134 ⟨Nat.le_of_ble_eq_true rfl, Nat.le_of_ble_eq_true rfl⟩)) (fun r18 h_r18 => ?_)
                        refine lv_if_ne (tgt := 142) hx hb d_Value_sameFrom_137 (by decide) (fun c137 => ?_) (fun c137 => ?_)
                        · refine lv_iinc (v := nI (i + 1)) (lv' := [(3, .int (nI (i + 1))), (4, .ref b16), (0, .ref a), (1, .ref b), (2, .int (nI d))]) hx hb d_Value_sameFrom_142 hl (k := 4) rfl (nI_1 _) (by decide) rfl (fun ls hl => ?_)
                          refine lv_goto (tgt := 78) hx hb d_Value_sameFrom_145 (by decide) ?_
                          exact ih (i + 1) _ (show i + 1 ≤ 4096 by omega) (by show 4096 - (i + 1) < 4096 - i; omega) (lv_sub hl [2, 3, 4, 0] rfl)
                        · refine lv_iconst (v := 0) hx hb d_Value_sameFrom_140 (by decide) ?_
                          exact W.zret (v := 0) hx hb hr rfl (fun t ht hW => ⟨0, rfl, (Or.inl rfl), ht⟩) (fun _ h => nomatch h) d_Value_sameFrom_141
                · refine lv_aload_n hx hb d_Value_sameFrom_94 rfl (lv_at hl 1 rfl) ?_
                  rcases me2 with _ | b19
                  · exact absurd (PO.mem0 ef2) (by omega)
                  · refine vq_get (D := (dC, dI)) (ci := 9) (v := .ref b19) (C := R_Value) (T := F_Value) (N := 10) hx hb hts in_Value hown hK hP (hO.inV (isF.v hb9)) ef2 rfl 3 (by decide) (hts _ z_325) (fun _ h9 => h9) rfl d_Value_sameFrom_95 ?_
                    refine lv_iload_n hx hb d_Value_sameFrom_98 rfl (lv_at hl 3 rfl) ?_
                    obtain ⟨g20, hi20, ef20, hg20⟩ := hO.mem1 ef2 hv2 (isF.n1 hb9)
                    have hn20 := hO.szle ef2 hv2
                    obtain ⟨me21, hm21, hf21, hnm21⟩ := hg20 i (by omega)
                    refine vq_aald hx hb hK hP 1 hi20 ef20 rfl (j := i) (by omega) hn20 hm21 d_Value_sameFrom_99 ?_
                    refine lv_goto (tgt := 116) hx hb d_Value_sameFrom_100 (by decide) ?_
                    refine lv_astore (lv' := [(4, .ref me21), (0, .ref a), (1, .ref b), (2, .int (nI d)), (3, .int (nI i))]) hx hb d_Value_sameFrom_116 hl (by decide) rfl (fun ls hl => ?_)
                    refine lv_aload hx hb d_Value_sameFrom_118 (lv_at hl 0 rfl) ?_
                    refine lv_ifnull hx hb d_Value_sameFrom_120 ?_
                    refine lv_aload_n hx hb d_Value_sameFrom_123 rfl (lv_at hl 1 rfl) ?_
                    rcases me1 with _ | b22
                    · exact absurd (PO.mem0 ef1) (by omega)
                    · refine vq_get (D := (dC, dI)) (ci := 9) (v := .ref b22) (C := R_Value) (T := F_Value) (N := 10) hx hb hts in_Value hown hK hP (hO.inV (isF.v ha)) ef1 rfl 3 (by decide) (hts _ z_325) (fun _ h9 => h9) rfl d_Value_sameFrom_124 ?_
                      refine lv_iload_n hx hb d_Value_sameFrom_127 rfl (lv_at hl 4 rfl) ?_
                      obtain ⟨g23, hi23, ef23, hg23⟩ := hO.mem1 ef1 hv1 (isF.n1 ha)
                      have hn23 := hO.szle ef1 hv1
                      obtain ⟨me24, hm24, hf24, hnm24⟩ := hg23 i (by omega)
                      refine vq_aald hx hb hK hP 1 hi23 ef23 rfl (j := i) (by omega) hn23 hm24 d_Value_sameFrom_128 ?_
                      refine lv_aload hx hb d_Value_sameFrom_129 (lv_at hl 0 rfl) ?_
                      refine lv_iload_n hx hb d_Value_sameFrom_131 rfl (lv_at hl 3 rfl) ?_
                      refine lv_iconst (v := 1) hx hb d_Value_sameFrom_132 (by decide) ?_
                      refine lv_iadd hx hb d_Value_sameFrom_133 ?_
                      refine W.eq (g2 := F0 m 134 ls [.int (nI (d + 1)), .ref me21, .ref me24]) (by rw [show ((nI d) + 1) = (nI (d + 1)) from nI_1 _]) ?_
                      refine vp_callSi (va_Run.run (va_runS (As := [.ref me24, .ref me21, .int (nI (d + 1))]) (rest := []) ⟨hx, hb, hml, hown, hts⟩ (IH (k - 1) (by omega) (d + 1) (by omega) me24 me21 hf24 hf21) (va_cwS 3 hts (gt_S (own := R_Value) (i := 38) (y := y_Value_sameFrom) i_Value_sameFrom z_931 z_932 z_14) rfl rfl rfl (by decide +kernel) ⟨by show 4 + (k - 1) + 1 ≤ 4 + k; omega, by show 8 + (5 + 11) + (200 + 40 * (k - 1)) ≤ 200 + 40 * k; omega⟩) ⟨mq_blind, fun U hU hW => ⟨rfl, hU, by rw [hU]; exact hP, va_K.moved hW.alike hK, hN.warm hW⟩⟩ rfl rfl hl.1 rfl (lv_room (Nat.le_of_ble_eq_true rfl)) d_Value_sameFrom_134 ⟨Nat.le_of_ble_eq_true rfl, Nat.le_of_ble_eq_true rfl⟩)) (fun r25 h_r25 => ?_)
                      refine lv_if_ne (tgt := 142) hx hb d_Value_sameFrom_137 (by decide) (fun c137 => ?_) (fun c137 => ?_)
                      · refine lv_iinc (v := nI (i + 1)) (lv' := [(3, .int (nI (i + 1))), (4, .ref me21), (0, .ref a), (1, .ref b), (2, .int (nI d))]) hx hb d_Value_sameFrom_142 hl (k := 4) rfl (nI_1 _) (by decide) rfl (fun ls hl => ?_)
                        refine lv_goto (tgt := 78) hx hb d_Value_sameFrom_145 (by decide) ?_
                        exact ih (i + 1) _ (show i + 1 ≤ 4096 by omega) (by show 4096 - (i + 1) < 4096 - i; omega) (lv_sub hl [2, 3, 4, 0] rfl)
                      · refine lv_iconst (v := 0) hx hb d_Value_sameFrom_140 (by decide) ?_
                        exact W.zret (v := 0) hx hb hr rfl (fun t ht hW => ⟨0, rfl, (Or.inl rfl), ht⟩) (fun _ h => nomatch h) d_Value_sameFrom_141
            · refine lv_aload_n hx hb d_Value_sameFrom_64 rfl (lv_at hl 0 rfl) ?_
              rcases tx1 with _ | b26
              · exact absurd rfl ((hv1.2.2.2.2.2.2.1 (isF.n1 ha)).1 c61)
              · refine vq_get (D := (dC, dI)) (ci := 9) (v := .ref b26) (C := R_Value) (T := F_Value) (N := 10) hx hb hts in_Value hown hK hP (hO.inV (isF.v ha)) ef1 rfl 2 (by decide) (hts _ z_322) (fun _ h9 => h9) rfl d_Value_sameFrom_65 ?_
                refine lv_aload_n hx hb d_Value_sameFrom_68 rfl (lv_at hl 1 rfl) ?_
                rcases tx2 with _ | b27
                · exact absurd rfl ((hv2.2.2.2.2.2.2.1 (isF.n1 hb9)).1 (c8.symm.trans c61))
                · refine vq_get (D := (dC, dI)) (ci := 9) (v := .ref b27) (C := R_Value) (T := F_Value) (N := 10) hx hb hts in_Value hown hK hP (hO.inV (isF.v hb9)) ef2 rfl 2 (by decide) (hts _ z_322) (fun _ h9 => h9) rfl d_Value_sameFrom_69 ?_
                  refine vp_callSi (va_Run.run (va_runSN (As := [.ref b26, .ref b27]) (rest := []) ⟨hx, hb, hml, hown, hts⟩ (c_QB_sameText l dC dI s.heap cI cV E lv L f hO b26 b27 (hv1.1 b26 rfl) (hv2.1 b27 rfl)) (⟨va_cnB (host := "QueryBench") 2 hts (gt_code i_QB_sameText) rfl rfl rfl (hN _ nz_869) (hts _ w_1) (by decide +kernel) ⟨by show 0 + 1 ≤ 4 + k; omega, by show 8 + (3 + 11) + 0 ≤ 200 + 40 * k; omega⟩, hts _ z_444, trivial⟩) ⟨mq_blind, fun U hU hW => ⟨rfl, hU, by rw [hU]; exact hP, va_K.moved hW.alike hK, hN.warm hW⟩⟩ rfl rfl hl.1 rfl (lv_room (Nat.le_of_ble_eq_true rfl)) d_Value_sameFrom_72 ⟨Nat.le_of_ble_eq_true rfl, Nat.le_of_ble_eq_true rfl⟩)) (fun r28 h_r28 => ?_)
                  exact W.zret (v := r28) hx hb hr (Bo.nar h_r28) (fun t ht hW => ⟨r28, rfl, h_r28, ht⟩) (fun _ h => nomatch h) d_Value_sameFrom_75
          · refine lv_aload_n hx hb d_Value_sameFrom_38 rfl (lv_at hl 0 rfl) ?_
            refine vq_get (D := (dC, dI)) (ci := 9) (v := .long nu1) (C := R_Value) (T := F_Value) (N := 10) hx hb hts in_Value hown hK hP (hO.inV (isF.v ha)) ef1 rfl 1 (by decide) (hts _ z_317) (fun _ h9 => h9) rfl d_Value_sameFrom_39 ?_
            refine lv_aload_n hx hb d_Value_sameFrom_42 rfl (lv_at hl 1 rfl) ?_
            refine vq_get (D := (dC, dI)) (ci := 9) (v := .long nu2) (C := R_Value) (T := F_Value) (N := 10) hx hb hts in_Value hown hK hP (hO.inV (isF.v hb9)) ef2 rfl 1 (by decide) (hts _ z_317) (fun _ h9 => h9) rfl d_Value_sameFrom_43 ?_
            refine W.lcmp hx hb d_Value_sameFrom_46 ?_
            refine lv_if_ne (tgt := 54) hx hb d_Value_sameFrom_47 (by decide) (fun c47 => ?_) (fun c47 => ?_)
            · refine lv_iconst (v := 0) hx hb d_Value_sameFrom_54 (by decide) ?_
              exact W.zret (v := 0) hx hb hr rfl (fun t ht hW => ⟨0, rfl, (Or.inl rfl), ht⟩) (fun _ h => nomatch h) d_Value_sameFrom_55
            · refine lv_iconst (v := 1) hx hb d_Value_sameFrom_50 (by decide) ?_
              refine lv_goto (tgt := 55) hx hb d_Value_sameFrom_51 (by decide) ?_
              exact W.zret (v := 1) hx hb hr rfl (fun t ht hW => ⟨1, rfl, (Or.inr rfl), ht⟩) (fun _ h => nomatch h) d_Value_sameFrom_55
        · refine lv_iconst (v := 0) hx hb d_Value_sameFrom_28 (by decide) ?_
          exact W.zret (v := 0) hx hb hr rfl (fun t ht hW => ⟨0, rfl, (Or.inl rfl), ht⟩) (fun _ h => nomatch h) d_Value_sameFrom_29
abbrev b_Value_same : ByteArray := prog_11_method_5_code
def y_Value_same : MethodName := ⟨"QueryBench$Value", "same", "(LQueryBench$Value;LQueryBench$Value;)Z"⟩
abbrev k_Value_same : Cond := .code y_Value_same b_Value_same 2 (some .boolean)
theorem i_Value_same : k_Value_same ∈ gtbl := gt_in 930 (by decide +kernel) (by decide +kernel)
theorem d_Value_same_0 : decode b_Value_same 0 = .ok (.aload_n 0, 1) := by decide +kernel
theorem d_Value_same_1 : decode b_Value_same 1 = .ok (.ifnull 7, 3) := by decide +kernel
theorem d_Value_same_4 : decode b_Value_same 4 = .ok (.aload_n 1, 1) := by decide +kernel
theorem d_Value_same_5 : decode b_Value_same 5 = .ok (.ifnonnull 17, 3) := by decide +kernel
theorem d_Value_same_8 : decode b_Value_same 8 = .ok (.aload_n 0, 1) := by decide +kernel
theorem d_Value_same_9 : decode b_Value_same 9 = .ok (.ifnonnull 11, 3) := by decide +kernel
theorem d_Value_same_12 : decode b_Value_same 12 = .ok (.aload_n 1, 1) := by decide +kernel
theorem d_Value_same_13 : decode b_Value_same 13 = .ok (.ifnonnull 7, 3) := by decide +kernel
theorem d_Value_same_16 : decode b_Value_same 16 = .ok (.iconst 1, 1) := by decide +kernel
theorem d_Value_same_17 : decode b_Value_same 17 = .ok (.goto 4, 3) := by decide +kernel
theorem d_Value_same_20 : decode b_Value_same 20 = .ok (.iconst 0, 1) := by decide +kernel
theorem d_Value_same_21 : decode b_Value_same 21 = .ok (.ireturn, 1) := by decide +kernel
theorem d_Value_same_22 : decode b_Value_same 22 = .ok (.aload_n 0, 1) := by decide +kernel
theorem d_Value_same_23 : decode b_Value_same 23 = .ok (.aload_n 1, 1) := by decide +kernel
theorem d_Value_same_24 : decode b_Value_same 24 = .ok (.iconst 0, 1) := by decide +kernel
theorem d_Value_same_25 : decode b_Value_same 25 = .ok (.invokestatic 38, 3) := by decide +kernel
theorem d_Value_same_28 : decode b_Value_same 28 = .ok (.ireturn, 1) := by decide +kernel
set_option maxHeartbeats 4000000 in
set_option maxRecDepth 100000 in
/-- Value.same -/
theorem c_Value_same (l : Launch) (dC : Nat → ClassId) (dI : Nat → Nat → Nat) (sz : Heap) (cI cV : ClassId) (E lv : Nat → Nat) (L : List Nat) (f : Nat → va_E) (hO : PO cI cV E lv L f) (oa ob : Option Nat) (hoa : oR (isF E) oa) (hob : oR (isF E) ob) : Met l y_Value_same (k_Value_same :: gtbl) ({ frames := 40, cells := 0, slots := 0, locals := 1700 }) (va_Pc [va_rf oa, va_rf ob] (mq dC dI ([] ++ va_pl L f) [(cI, .int), (cV, .object "QueryBench$Value")] sz)) (vp_Si (fun (r : Int32) => Bo r)) 0 0 (fun _ => False) := by
  rcases oa with _ | b1
  · rcases ob with _ | b2
    · change Met _ _ _ _ (va_Pc [.null, .null] _) _ _ _ _
      refine Met.ofW (cc := b_Value_same) (maxL := 2) (ret := (some .boolean)) (by decide) rfl ?_
      intro p e s m args below meth c s₁ B hml hv
      obtain ⟨rfl, hsz, hP, hK, hN⟩ := hv
      have hx := B.exec
      have hb := B.bytes
      have hr := B.returns
      have hts0 := atoms_spec (ws := k_Value_same :: gtbl) B.pre
      have hts := fun w h => hts0 w (List.mem_cons_of_mem _ h)
      have hown : s.vm.findClass R_Value = some m.cls := findClass_of_methodNamed B.named
      have hlocks := B.notSynchronized
      subst hsz
      have hP : va_P (dC, dI) classes ([] ++ va_pl L f) s.heap := hP
      have hl := lv_entry ([.null, .null]) (n := 2) (Nat.le_of_ble_eq_true rfl)
      rw [lg_entry_eq]
      generalize (lg_sl ([.null, .null]) ++ List.replicate (2 - (lg_sl ([.null, .null])).length) Slot.unset).toArray = ls at hl ⊢
      have hl : lv_has ls 2 [(0, .null), (1, .null)] := hl
      refine lv_aload_nN hx hb d_Value_same_0 rfl (lv_at hl 0 rfl) ?_
      refine lv_ifnullN (tgt := 8) hx hb d_Value_same_1 (by decide) ?_
      refine lv_aload_nN hx hb d_Value_same_8 rfl (lv_at hl 0 rfl) ?_
      refine lv_ifnonnullN hx hb d_Value_same_9 ?_
      refine lv_aload_nN hx hb d_Value_same_12 rfl (lv_at hl 1 rfl) ?_
      refine lv_ifnonnullN hx hb d_Value_same_13 ?_
      refine lv_iconst (v := 1) hx hb d_Value_same_16 (by decide) ?_
      refine lv_goto (tgt := 21) hx hb d_Value_same_17 (by decide) ?_
      exact W.zret (v := 1) hx hb hr rfl (fun t ht hW => ⟨1, rfl, (Or.inr rfl), ht⟩) (fun _ h => nomatch h) d_Value_same_21
    · change Met _ _ _ _ (va_Pc [.null, .ref b2] _) _ _ _ _
      refine Met.ofW (cc := b_Value_same) (maxL := 2) (ret := (some .boolean)) (by decide) rfl ?_
      intro p e s m args below meth c s₁ B hml hv
      obtain ⟨rfl, hsz, hP, hK, hN⟩ := hv
      have hx := B.exec
      have hb := B.bytes
      have hr := B.returns
      have hts0 := atoms_spec (ws := k_Value_same :: gtbl) B.pre
      have hts := fun w h => hts0 w (List.mem_cons_of_mem _ h)
      have hown : s.vm.findClass R_Value = some m.cls := findClass_of_methodNamed B.named
      have hlocks := B.notSynchronized
      subst hsz
      have hP : va_P (dC, dI) classes ([] ++ va_pl L f) s.heap := hP
      have hl := lv_entry ([.null, .ref b2]) (n := 2) (Nat.le_of_ble_eq_true rfl)
      rw [lg_entry_eq]
      generalize (lg_sl ([.null, .ref b2]) ++ List.replicate (2 - (lg_sl ([.null, .ref b2])).length) Slot.unset).toArray = ls at hl ⊢
      have hl : lv_has ls 2 [(0, .null), (1, .ref b2)] := hl
      refine lv_aload_nN hx hb d_Value_same_0 rfl (lv_at hl 0 rfl) ?_
      refine lv_ifnullN (tgt := 8) hx hb d_Value_same_1 (by decide) ?_
      refine lv_aload_nN hx hb d_Value_same_8 rfl (lv_at hl 0 rfl) ?_
      refine lv_ifnonnullN hx hb d_Value_same_9 ?_
      refine lv_aload_n hx hb d_Value_same_12 rfl (lv_at hl 1 rfl) ?_
      refine lv_ifnonnull (tgt := 20) hx hb d_Value_same_13 (by decide) ?_
      refine lv_iconst (v := 0) hx hb d_Value_same_20 (by decide) ?_
      exact W.zret (v := 0) hx hb hr rfl (fun t ht hW => ⟨0, rfl, (Or.inl rfl), ht⟩) (fun _ h => nomatch h) d_Value_same_21
  · rcases ob with _ | b3
    · change Met _ _ _ _ (va_Pc [.ref b1, .null] _) _ _ _ _
      refine Met.ofW (cc := b_Value_same) (maxL := 2) (ret := (some .boolean)) (by decide) rfl ?_
      intro p e s m args below meth c s₁ B hml hv
      obtain ⟨rfl, hsz, hP, hK, hN⟩ := hv
      have hx := B.exec
      have hb := B.bytes
      have hr := B.returns
      have hts0 := atoms_spec (ws := k_Value_same :: gtbl) B.pre
      have hts := fun w h => hts0 w (List.mem_cons_of_mem _ h)
      have hown : s.vm.findClass R_Value = some m.cls := findClass_of_methodNamed B.named
      have hlocks := B.notSynchronized
      subst hsz
      have hP : va_P (dC, dI) classes ([] ++ va_pl L f) s.heap := hP
      have hl := lv_entry ([.ref b1, .null]) (n := 2) (Nat.le_of_ble_eq_true rfl)
      rw [lg_entry_eq]
      generalize (lg_sl ([.ref b1, .null]) ++ List.replicate (2 - (lg_sl ([.ref b1, .null])).length) Slot.unset).toArray = ls at hl ⊢
      have hl : lv_has ls 2 [(0, .ref b1), (1, .null)] := hl
      refine lv_aload_n hx hb d_Value_same_0 rfl (lv_at hl 0 rfl) ?_
      refine lv_ifnull hx hb d_Value_same_1 ?_
      refine lv_aload_nN hx hb d_Value_same_4 rfl (lv_at hl 1 rfl) ?_
      refine lv_ifnonnullN hx hb d_Value_same_5 ?_
      refine lv_aload_n hx hb d_Value_same_8 rfl (lv_at hl 0 rfl) ?_
      refine lv_ifnonnull (tgt := 20) hx hb d_Value_same_9 (by decide) ?_
      refine lv_iconst (v := 0) hx hb d_Value_same_20 (by decide) ?_
      exact W.zret (v := 0) hx hb hr rfl (fun t ht hW => ⟨0, rfl, (Or.inl rfl), ht⟩) (fun _ h => nomatch h) d_Value_same_21
    · change Met _ _ _ _ (va_Pc [.ref b1, .ref b3] _) _ _ _ _
      refine Met.ofW (cc := b_Value_same) (maxL := 2) (ret := (some .boolean)) (by decide) rfl ?_
      intro p e s m args below meth c s₁ B hml hv
      obtain ⟨rfl, hsz, hP, hK, hN⟩ := hv
      have hx := B.exec
      have hb := B.bytes
      have hr := B.returns
      have hts0 := atoms_spec (ws := k_Value_same :: gtbl) B.pre
      have hts := fun w h => hts0 w (List.mem_cons_of_mem _ h)
      have hown : s.vm.findClass R_Value = some m.cls := findClass_of_methodNamed B.named
      have hlocks := B.notSynchronized
      subst hsz
      have hP : va_P (dC, dI) classes ([] ++ va_pl L f) s.heap := hP
      have hl := lv_entry ([.ref b1, .ref b3]) (n := 2) (Nat.le_of_ble_eq_true rfl)
      rw [lg_entry_eq]
      generalize (lg_sl ([.ref b1, .ref b3]) ++ List.replicate (2 - (lg_sl ([.ref b1, .ref b3])).length) Slot.unset).toArray = ls at hl ⊢
      have hl : lv_has ls 2 [(0, .ref b1), (1, .ref b3)] := hl
      refine lv_aload_n hx hb d_Value_same_0 rfl (lv_at hl 0 rfl) ?_
      refine lv_ifnull hx hb d_Value_same_1 ?_
      refine lv_aload_n hx hb d_Value_same_4 rfl (lv_at hl 1 rfl) ?_
      refine lv_ifnonnull (tgt := 22) hx hb d_Value_same_5 (by decide) ?_
      refine lv_aload_n hx hb d_Value_same_22 rfl (lv_at hl 0 rfl) ?_
      refine lv_aload_n hx hb d_Value_same_23 rfl (lv_at hl 1 rfl) ?_
      refine lv_iconst (v := 0) hx hb d_Value_same_24 (by decide) ?_
      refine vp_callSi (va_Run.run (va_runS (As := [.ref b1, .ref b3, .int 0]) (rest := []) ⟨hx, hb, hml, hown, hts⟩ (c_Value_sameFrom l dC dI s.heap cI cV E lv L f hO 33 0 (by decide) b1 b3 (hoa b1 rfl) (hob b3 rfl)) (va_cwS 3 hts (gt_S (own := R_Value) (i := 38) (y := y_Value_sameFrom) i_Value_sameFrom z_931 z_932 z_14) rfl rfl rfl (by decide +kernel) ⟨by show 4 + 33 + 1 ≤ 40; omega, by show 8 + (5 + 11) + (200 + 40 * 33) ≤ 1700; omega⟩) ⟨mq_blind, fun U hU hW => ⟨rfl, hU, by rw [hU]; exact hP, va_K.moved hW.alike hK, hN.warm hW⟩⟩ rfl rfl hl.1 rfl (lv_room (Nat.le_of_ble_eq_true rfl)) d_Value_same_25 ⟨Nat.le_of_ble_eq_true rfl, Nat.le_of_ble_eq_true rfl⟩)) (fun r4 h_r4 => ?_)
      exact W.zret (v := r4) hx hb hr (Bo.nar h_r4) (fun t ht hW => ⟨r4, rfl, h_r4, ht⟩) (fun _ h => nomatch h) d_Value_same_28
