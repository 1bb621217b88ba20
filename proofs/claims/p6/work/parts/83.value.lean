theorem z_325 : (.fieldLink "QueryBench$Value" 15 "QueryBench$Value" "members" "[LQueryBench$Value;" : Cond) ∈ gtbl := gt_in 325 (by decide +kernel) (by decide +kernel)
abbrev b_QB_sameText : ByteArray := prog_1_method_15_code
def y_QB_sameText : MethodName := ⟨"QueryBench", "sameText", "([I[I)Z"⟩
abbrev k_QB_sameText : Cond := .code y_QB_sameText b_QB_sameText 3 (some .boolean)
theorem i_QB_sameText : k_QB_sameText ∈ gtbl := gt_in 445 (by decide +kernel) (by decide +kernel)
theorem d_QB_sameText_0 : decode b_QB_sameText 0 = .ok (.aload_n 0, 1) := by decide +kernel
theorem d_QB_sameText_1 : decode b_QB_sameText 1 = .ok (.arraylength, 1) := by decide +kernel
theorem d_QB_sameText_2 : decode b_QB_sameText 2 = .ok (.aload_n 1, 1) := by decide +kernel
theorem d_QB_sameText_3 : decode b_QB_sameText 3 = .ok (.arraylength, 1) := by decide +kernel
theorem d_QB_sameText_4 : decode b_QB_sameText 4 = .ok (.if_icmp .eq 5, 3) := by decide +kernel
theorem d_QB_sameText_7 : decode b_QB_sameText 7 = .ok (.iconst 0, 1) := by decide +kernel
theorem d_QB_sameText_8 : decode b_QB_sameText 8 = .ok (.ireturn, 1) := by decide +kernel
theorem d_QB_sameText_9 : decode b_QB_sameText 9 = .ok (.iconst 0, 1) := by decide +kernel
theorem d_QB_sameText_10 : decode b_QB_sameText 10 = .ok (.istore_n 2, 1) := by decide +kernel
theorem d_QB_sameText_11 : decode b_QB_sameText 11 = .ok (.iload_n 2, 1) := by decide +kernel
theorem d_QB_sameText_12 : decode b_QB_sameText 12 = .ok (.aload_n 0, 1) := by decide +kernel
theorem d_QB_sameText_13 : decode b_QB_sameText 13 = .ok (.arraylength, 1) := by decide +kernel
theorem d_QB_sameText_14 : decode b_QB_sameText 14 = .ok (.if_icmp .ge 20, 3) := by decide +kernel
theorem d_QB_sameText_17 : decode b_QB_sameText 17 = .ok (.aload_n 0, 1) := by decide +kernel
theorem d_QB_sameText_18 : decode b_QB_sameText 18 = .ok (.iload_n 2, 1) := by decide +kernel
theorem d_QB_sameText_19 : decode b_QB_sameText 19 = .ok (.iaload, 1) := by decide +kernel
theorem d_QB_sameText_20 : decode b_QB_sameText 20 = .ok (.aload_n 1, 1) := by decide +kernel
theorem d_QB_sameText_21 : decode b_QB_sameText 21 = .ok (.iload_n 2, 1) := by decide +kernel
theorem d_QB_sameText_22 : decode b_QB_sameText 22 = .ok (.iaload, 1) := by decide +kernel
theorem d_QB_sameText_23 : decode b_QB_sameText 23 = .ok (.if_icmp .eq 5, 3) := by decide +kernel
theorem d_QB_sameText_26 : decode b_QB_sameText 26 = .ok (.iconst 0, 1) := by decide +kernel
theorem d_QB_sameText_27 : decode b_QB_sameText 27 = .ok (.ireturn, 1) := by decide +kernel
theorem d_QB_sameText_28 : decode b_QB_sameText 28 = .ok (.iinc 2 1, 3) := by decide +kernel
theorem d_QB_sameText_31 : decode b_QB_sameText 31 = .ok (.goto (-20), 3) := by decide +kernel
theorem d_QB_sameText_34 : decode b_QB_sameText 34 = .ok (.iconst 1, 1) := by decide +kernel
theorem d_QB_sameText_35 : decode b_QB_sameText 35 = .ok (.ireturn, 1) := by decide +kernel
abbrev b_Value_size : ByteArray := prog_11_method_2_code
def y_Value_size : MethodName := ⟨"QueryBench$Value", "size", "()I"⟩
abbrev k_Value_size : Cond := .code y_Value_size b_Value_size 1 (some .int)
theorem i_Value_size : k_Value_size ∈ gtbl := gt_in 868 (by decide +kernel) (by decide +kernel)
theorem d_Value_size_0 : decode b_Value_size 0 = .ok (.aload_n 0, 1) := by decide +kernel
theorem d_Value_size_1 : decode b_Value_size 1 = .ok (.getfield 15, 3) := by decide +kernel
theorem d_Value_size_4 : decode b_Value_size 4 = .ok (.ifnonnull 7, 3) := by decide +kernel
theorem d_Value_size_7 : decode b_Value_size 7 = .ok (.iconst 0, 1) := by decide +kernel
theorem d_Value_size_8 : decode b_Value_size 8 = .ok (.goto 8, 3) := by decide +kernel
theorem d_Value_size_11 : decode b_Value_size 11 = .ok (.aload_n 0, 1) := by decide +kernel
theorem d_Value_size_12 : decode b_Value_size 12 = .ok (.getfield 15, 3) := by decide +kernel
theorem d_Value_size_15 : decode b_Value_size 15 = .ok (.arraylength, 1) := by decide +kernel
theorem d_Value_size_16 : decode b_Value_size 16 = .ok (.ireturn, 1) := by decide +kernel
set_option maxHeartbeats 4000000 in
set_option maxRecDepth 100000 in
/-- Value.size -/
theorem c_Value_size (l : Launch) (dC : Nat → ClassId) (dI : Nat → Nat → Nat) (sz : Heap) (cI cV : ClassId) (E lv : Nat → Nat) (L : List Nat) (f : Nat → va_E) (hO : PO cI cV E lv L f) (a : Nat) (ha : isF E a) : Met l y_Value_size (k_Value_size :: gtbl) ({ frames := 0, cells := 0, slots := 0, locals := 0 }) (va_Pc [.ref a] (mq dC dI ([] ++ va_pl L f) [(cI, .int), (cV, .object "QueryBench$Value")] sz)) (vp_Si (fun (r : Int32) => r = nI (szF f a))) 0 0 (fun _ => False) := by
  refine Met.ofW (cc := b_Value_size) (maxL := 1) (ret := (some .int)) (by decide) rfl ?_
  intro p e s m args below meth c s₁ B hml hv
  obtain ⟨rfl, hsz, hP, hK, hN⟩ := hv
  have hx := B.exec
  have hb := B.bytes
  have hr := B.returns
  have hts0 := atoms_spec (ws := k_Value_size :: gtbl) B.pre
  have hts := fun w h => hts0 w (List.mem_cons_of_mem _ h)
  have hown : s.vm.findClass R_Value = some m.cls := findClass_of_methodNamed B.named
  have hlocks := B.notSynchronized
  subst hsz
  have hP : va_P (dC, dI) classes ([] ++ va_pl L f) s.heap := hP
  have hl := lv_entry ([.ref a]) (n := 1) (Nat.le_of_ble_eq_true rfl)
  rw [lg_entry_eq]
  generalize (lg_sl ([.ref a]) ++ List.replicate (1 - (lg_sl ([.ref a])).length) Slot.unset).toArray = ls at hl ⊢
  have hl : lv_has ls 1 [(0, .ref a)] := hl
  refine lv_aload_n hx hb d_Value_size_0 rfl (lv_at hl 0 rfl) ?_
  obtain ⟨kd1, nu1, tx1, me1, pa1, na1, ix1, nm1, no1, sp1, ef1, hv1⟩ := hO.val ((isF.v ha))
  rcases me1 with _ | b2
  · refine vq_get (D := (dC, dI)) (ci := 9) (v := .null) (C := R_Value) (T := F_Value) (N := 10) hx hb hts in_Value hown hK hP (hO.inV (isF.v ha)) ef1 rfl 3 (by decide) (hts _ z_325) (fun _ h9 => h9) rfl d_Value_size_1 ?_
    refine lv_ifnonnullN hx hb d_Value_size_4 ?_
    refine lv_iconst (v := 0) hx hb d_Value_size_7 (by decide) ?_
    refine lv_goto (tgt := 16) hx hb d_Value_size_8 (by decide) ?_
    exact W.iret (v := 0) hx hb hr (fun t ht hW => ⟨0, rfl, (by rw [PO.mem0 ef1]; rfl), ht⟩) (fun _ h => nomatch h) d_Value_size_16
  · refine vq_get (D := (dC, dI)) (ci := 9) (v := .ref b2) (C := R_Value) (T := F_Value) (N := 10) hx hb hts in_Value hown hK hP (hO.inV (isF.v ha)) ef1 rfl 3 (by decide) (hts _ z_325) (fun _ h9 => h9) rfl d_Value_size_1 ?_
    refine lv_ifnonnull (tgt := 11) hx hb d_Value_size_4 (by decide) ?_
    refine lv_aload_n hx hb d_Value_size_11 rfl (lv_at hl 0 rfl) ?_
    refine vq_get (D := (dC, dI)) (ci := 9) (v := .ref b2) (C := R_Value) (T := F_Value) (N := 10) hx hb hts in_Value hown hK hP (hO.inV (isF.v ha)) ef1 rfl 3 (by decide) (hts _ z_325) (fun _ h9 => h9) rfl d_Value_size_12 ?_
    obtain ⟨g3, hi3, ef3, hg3⟩ := hO.mem1 ef1 hv1 ha.n1
    have hn3 := hO.szle ef1 hv1
    refine vq_alen hx hb hK hP 1 hi3 ef3 rfl d_Value_size_15 ?_
    exact W.iret (v := (nI (szF f a))) hx hb hr (fun t ht hW => ⟨(nI (szF f a)), rfl, rfl, ht⟩) (fun _ h => nomatch h) d_Value_size_16
