theorem w_1113 : (.fieldLink "QueryBenchModel" 59 "QueryBenchModel" "list" "[I" : Cond) ∈ gtbl := gt_in 1113 (by decide +kernel) (by decide +kernel)
theorem w_1114 : (.fieldLink "QueryBenchModel" 351 "QueryBenchModel" "top" "I" : Cond) ∈ gtbl := gt_in 1114 (by decide +kernel) (by decide +kernel)
theorem w_1497 : (.methodLink "QueryBenchModel" 348 ⟨"QueryBenchModel", "worked", "()Z"⟩ : Cond) ∈ gtbl := gt_in 1497 (by decide +kernel) (by decide +kernel)
theorem w_1499 : (.instanceMethod ⟨"QueryBenchModel", "worked", "()Z"⟩ : Cond) ∈ gtbl := gt_in 1499 (by decide +kernel) (by decide +kernel)
theorem w_1541 : (.constant "QueryBenchModel" 101 65536 : Cond) ∈ gtbl := gt_in 1541 (by decide +kernel) (by decide +kernel)
/-- the reference's list and its work: how long, how much, whether too much -/
def es (v : Nat → Value) (tp d : Nat) (tm : Int32) : Nat → Value := va_up (va_up (va_up v 25 (.int (nI tp))) 26 (.int (nI d))) 27 (.int tm)
theorem es_25 {v : Nat → Value} {tp d : Nat} {tm : Int32} : es v tp d tm 25 = .int (nI tp) := by unfold es; rw [va_up_ne _ _ (by decide), va_up_ne _ _ (by decide), va_up_self]
theorem es_26 {v : Nat → Value} {tp d : Nat} {tm : Int32} : es v tp d tm 26 = .int (nI d) := by unfold es; rw [va_up_ne _ _ (by decide), va_up_self]
theorem es_27 {v : Nat → Value} {tp d : Nat} {tm : Int32} : es v tp d tm 27 = .int tm := by unfold es; rw [va_up_self]
theorem es_ne {v : Nat → Value} {tp d j : Nat} {tm : Int32} (h1 : j ≠ 25) (h2 : j ≠ 26) (h3 : j ≠ 27) : es v tp d tm j = v j := by unfold es; rw [va_up_ne _ _ h3, va_up_ne _ _ h2, va_up_ne _ _ h1]
theorem es_u25 {v : Nat → Value} {tp d t2 : Nat} {tm : Int32} : va_up (es v tp d tm) 25 (.int (nI t2)) = es v t2 d tm := by
  funext k
  unfold es va_up
  by_cases e1 : k = 25
  · subst e1; simp
  · simp [e1]
theorem es_u26 {v : Nat → Value} {tp d d2 : Nat} {tm : Int32} : va_up (es v tp d tm) 26 (.int (nI d2)) = es v tp d2 tm := by
  funext k
  unfold es va_up
  by_cases e1 : k = 26
  · subst e1; simp
  · simp [e1]
theorem es_u27 {v : Nat → Value} {tp d : Nat} {tm t2 : Int32} : va_up (es v tp d tm) 27 (.int t2) = es v tp d t2 := by
  unfold es
  rw [bx_uu]
abbrev b_Mo_choose : ByteArray := prog_14_method_53_code
def y_Mo_choose : MethodName := ⟨"QueryBenchModel", "choose", "(I)V"⟩
abbrev k_Mo_choose : Cond := .code y_Mo_choose b_Mo_choose 2 none
theorem i_Mo_choose : k_Mo_choose ∈ gtbl := gt_in 1496 (by decide +kernel) (by decide +kernel)
theorem d_Mo_choose_0 : decode b_Mo_choose 0 = .ok (.aload_n 0, 1) := by decide +kernel
theorem d_Mo_choose_1 : decode b_Mo_choose 1 = .ok (.invokevirtual 348, 3) := by decide +kernel
theorem d_Mo_choose_4 : decode b_Mo_choose 4 = .ok (.ifCond .ne 4, 3) := by decide +kernel
theorem d_Mo_choose_7 : decode b_Mo_choose 7 = .ok (.return_, 1) := by decide +kernel
theorem d_Mo_choose_8 : decode b_Mo_choose 8 = .ok (.aload_n 0, 1) := by decide +kernel
theorem d_Mo_choose_9 : decode b_Mo_choose 9 = .ok (.getfield 59, 3) := by decide +kernel
theorem d_Mo_choose_12 : decode b_Mo_choose 12 = .ok (.aload_n 0, 1) := by decide +kernel
theorem d_Mo_choose_13 : decode b_Mo_choose 13 = .ok (.getfield 351, 3) := by decide +kernel
theorem d_Mo_choose_16 : decode b_Mo_choose 16 = .ok (.iload_n 1, 1) := by decide +kernel
theorem d_Mo_choose_17 : decode b_Mo_choose 17 = .ok (.iastore, 1) := by decide +kernel
theorem d_Mo_choose_18 : decode b_Mo_choose 18 = .ok (.aload_n 0, 1) := by decide +kernel
theorem d_Mo_choose_19 : decode b_Mo_choose 19 = .ok (.dup, 1) := by decide +kernel
theorem d_Mo_choose_20 : decode b_Mo_choose 20 = .ok (.getfield 351, 3) := by decide +kernel
theorem d_Mo_choose_23 : decode b_Mo_choose 23 = .ok (.iconst 1, 1) := by decide +kernel
theorem d_Mo_choose_24 : decode b_Mo_choose 24 = .ok (.iadd, 1) := by decide +kernel
theorem d_Mo_choose_25 : decode b_Mo_choose 25 = .ok (.putfield 351, 3) := by decide +kernel
theorem d_Mo_choose_28 : decode b_Mo_choose 28 = .ok (.return_, 1) := by decide +kernel
set_option maxHeartbeats 4000000 in
set_option maxRecDepth 100000 in
/-- the reference: choose -/
theorem c_Mo_choose (l : Launch) (dC : Nat → ClassId) (dI : Nat → Nat → Nat) (mo : Nat) (sz : Heap) (v : Nat → Value) (cI : ClassId) (ql tp d : Nat) (tm x : Int32) (li : Nat → Int32) (htd : tp ≤ d) (hd0 : d ≤ 100000) (htp : tp ≤ 10000) (h24 : v 24 = .ref ql) : Met l y_Mo_choose (k_Mo_choose :: gtbl) ({ frames := 1, cells := 0, slots := 0, locals := 24 }) (va_Pc [.ref mo, .int x] (mp dC dI [(mo, .inr (13, MF 30 (es v tp d tm))), (ql, .inl (cI, 20100, .inl li))] [(cI, .int)] sz)) (va_Qv (fun (u : Nat × Int32 × (Nat → Int32)) => (d + 1 ≤ 10000 ∧ tm = 0 ∧ u = (tp + 1, tm, upd li tp x)) ∨ (u.1 = tp ∧ u.2.2 = li ∧ ((¬ tm = 0 ∧ u.2.1 = tm) ∨ (¬ d + 1 ≤ 10000 ∧ u.2.1 = 1)))) (fun u t9 => mz dC dI [(mo, .inr (13, MF 30 (es v u.1 (d + 1) u.2.1))), (ql, .inl (cI, 20100, .inl u.2.2))] [(cI, .int)] (va_A [(mo, .inr (13, MF 30 (es v tp d tm))), (ql, .inl (cI, 20100, .inl li))] sz.size) t9) (va_A [(mo, .inr (13, MF 30 (es v tp d tm))), (ql, .inl (cI, 20100, .inl li))] sz.size)) 0 0 (va_A [(mo, .inr (13, MF 30 (es v tp d tm))), (ql, .inl (cI, 20100, .inl li))] sz.size) := by
  refine Met.ofW (cc := b_Mo_choose) (maxL := 2) (ret := none) (by decide) rfl ?_
  intro p e s m args below meth c s₁ B hml hv
  obtain ⟨rfl, hsz, hP, hK, hD0⟩ := hv
  have hx := B.exec
  have hb := B.bytes
  have hr := B.returns
  have hts0 := atoms_spec (ws := k_Mo_choose :: gtbl) B.pre
  have hts := fun w h => hts0 w (List.mem_cons_of_mem _ h)
  have hown : s.vm.findClass R_Mo = some m.cls := findClass_of_methodNamed B.named
  have hlocks := B.notSynchronized
  subst hsz
  have hD := hD0.self (sz := s.heap.size)
  generalize hAe : va_A [(mo, .inr (13, MF 30 (es v tp d tm))), (ql, .inl (cI, 20100, .inl li))] s.heap.size = A at hD ⊢
  have hA : ∀ q : Nat, s.heap.size ≤ q → A q := fun q h => by rw [← hAe]; exact Or.inr h
  have hS : va_S A s.heap s.heap [] := va_S.rf
  have hP : va_P (dC, dI) classes [(mo, .inr (13, MF 30 (es v tp d tm))), (ql, .inl (cI, 20100, .inl li))] s.heap := hP
  have hl := lv_entry ([.ref mo, .int x]) (n := 2) (Nat.le_of_ble_eq_true rfl)
  rw [lg_entry_eq]
  generalize (lg_sl ([.ref mo, .int x]) ++ List.replicate (2 - (lg_sl ([.ref mo, .int x])).length) Slot.unset).toArray = ls at hl ⊢
  have hl : lv_has ls 2 [(0, .ref mo), (1, .int x)] := hl
  refine lv_aload_n hx hb d_Mo_choose_0 rfl (lv_at hl 0 rfl) ?_
  have hPc := hP.sub (ws' := [(mo, .inr (13, MF 30 (es v tp d tm)))]) [0] rfl
  have hDc := hD.sub (ws' := [(mo, .inr (13, MF 30 (es v tp d tm)))]) [0] (by decide) rfl
  have hKc := hK.sub (tys' := []) [] rfl
  have hFc := va_free (wc := [(mo, .inr (13, MF 30 (es v tp d tm)))]) hD hS hA [0] rfl
  refine va_calli (va_runV (As := []) (rest := []) ⟨hx, hb, hml, hown, hts⟩ (c_Mo_worked l dC dI mo s.heap (es v tp d tm) d tm (by omega) es_26 es_27) (cwV 0 hts (gt_V (own := R_Mo) (C := R_Mo) (i := 348) (y := y_Mo_worked) i_Mo_worked w_1497 w_1499 (gt_sel (y := y_Mo_worked) (n := 30) (by decide +kernel)) w_7) rfl rfl rfl (by decide +kernel) ⟨Nat.le_of_ble_eq_true rfl, Nat.le_of_ble_eq_true rfl⟩) ⟨mp_blind, va_recv hKc hPc (ci := 13) (q0 := 0) rfl rfl, fun U hU hW => ⟨rfl, hU, by rw [hU]; exact hPc, va_K.moved hW.alike hKc, hDc.weaken (fun _ _ _ _ => trivial)⟩⟩ rfl rfl hl.1 rfl (lv_room (Nat.le_of_ble_eq_true rfl)) d_Mo_choose_1 ⟨Nat.le_of_ble_eq_true rfl, Nat.le_of_ble_eq_true rfl⟩) hS (fun q _ h => hFc q h) hFc (fun r0 u2 t9 H1 locs ht hvm hw hB hz1 hk1 hS => ?_)
  obtain ⟨hP1, hK1, hD1⟩ := hB
  rw [ht] at hP1
  obtain ⟨hP, hD⟩ := va_join (wr := [(ql, .inl (cI, 20100, .inl li))]) (w1 := [(mo, .inr (13, MF 30 u2))]) hP hD [0] [1] rfl rfl (by decide) (by decide) hk1 hFc hP1 hD1
  generalize H1 = H at hP hS ⊢
  have hP : va_P (dC, dI) classes [(ql, .inl (cI, 20100, .inl li)), (mo, .inr (13, MF 30 u2))] H := hP
  have hD : va_D A [(ql, .inl (cI, 20100, .inl li)), (mo, .inr (13, MF 30 u2))] := hD
  have hP := hP.sub (ws' := [(mo, .inr (13, MF 30 u2)), (ql, .inl (cI, 20100, .inl li))]) [1, 0] rfl
  have hD := hD.sub (ws' := [(mo, .inr (13, MF 30 u2)), (ql, .inl (cI, 20100, .inl li))]) [1, 0] (by decide) rfl
  rcases hw with ⟨hw1, hw2, hw3⟩ | ⟨hw1, hw0, hw2, hw3⟩ | ⟨hw1, hw0, hw2, hw3⟩
  · have hw3 : u2 = _ := hw3
    rw [es_u26, es_u27] at hw3
    subst hw3
    subst hw2
    have hP : va_P (dC, dI) classes [(mo, .inr (13, MF 30 (es v tp (d + 1) 1))), (ql, .inl (cI, 20100, .inl li))] H := hP
    have hD : va_D A [(mo, .inr (13, MF 30 (es v tp (d + 1) 1))), (ql, .inl (cI, 20100, .inl li))] := hD
    refine lv_if_ne (tgt := 8) hx hb d_Mo_choose_4 (by decide) (fun h => absurd h (by decide)) (fun _ => ?_)
    exact W.vret hx hb hr (fun t9 ht hW => ⟨⟨(tp, 1, li), rfl, Or.inr ⟨rfl, rfl, Or.inr ⟨hw1, rfl⟩⟩, by rw [ht]; exact hP, va_K.moved hW.alike hK, hD⟩, hS.F ht⟩) hS.2.2 d_Mo_choose_7
  · have hw3 : u2 = _ := hw3
    rw [es_u26] at hw3
    subst hw3
    subst hw2
    have hP : va_P (dC, dI) classes [(mo, .inr (13, MF 30 (es v tp (d + 1) tm))), (ql, .inl (cI, 20100, .inl li))] H := hP
    have hD : va_D A [(mo, .inr (13, MF 30 (es v tp (d + 1) tm))), (ql, .inl (cI, 20100, .inl li))] := hD
    refine lv_if_ne (tgt := 8) hx hb d_Mo_choose_4 (by decide) (fun h => absurd h (by decide)) (fun _ => ?_)
    exact W.vret hx hb hr (fun t9 ht hW => ⟨⟨(tp, tm, li), rfl, Or.inr ⟨rfl, rfl, Or.inl ⟨hw0, rfl⟩⟩, by rw [ht]; exact hP, va_K.moved hW.alike hK, hD⟩, hS.F ht⟩) hS.2.2 d_Mo_choose_7
  · have hw3 : u2 = _ := hw3
    rw [es_u26] at hw3
    subst hw3
    subst hw2
    have hP : va_P (dC, dI) classes [(mo, .inr (13, MF 30 (es v tp (d + 1) tm))), (ql, .inl (cI, 20100, .inl li))] H := hP
    have hD : va_D A [(mo, .inr (13, MF 30 (es v tp (d + 1) tm))), (ql, .inl (cI, 20100, .inl li))] := hD
    refine lv_if_ne (tgt := 8) hx hb d_Mo_choose_4 (by decide) (fun _ => ?_) (fun h => absurd h (by decide))
    refine lv_aload_n hx hb d_Mo_choose_8 rfl (lv_at hl 0 rfl) ?_
    refine va_get (D := (dC, dI)) (ci := 13) (v := .ref ql) (C := R_Mo) (T := F_Mo) (N := 30) hx hb hts in_Mo hown hK hP 0 rfl rfl 24 (by decide) (hts _ w_1113) (fun _ h9 => h9) (MFg (by decide) ((es_ne (by decide) (by decide) (by decide)).trans h24)) d_Mo_choose_9 ?_
    refine lv_aload_n hx hb d_Mo_choose_12 rfl (lv_at hl 0 rfl) ?_
    refine va_get (D := (dC, dI)) (ci := 13) (v := .int (nI tp)) (C := R_Mo) (T := F_Mo) (N := 30) hx hb hts in_Mo hown hK hP 0 rfl rfl 25 (by decide) (hts _ w_1114) (fun _ h9 => h9) (MFg (by decide) es_25) d_Mo_choose_13 ?_
    refine lv_iload_n hx hb d_Mo_choose_16 rfl (lv_at hl 1 rfl) ?_
    refine va_iast hx hb hK hP hD hS 1 0 rfl rfl (vp_in_nI (show tp < 20100 by omega) (by decide)) d_Mo_choose_17 (fun H locs hP hD hS => ?_)
    rw [show (nI tp).toNatClampNeg = tp from nI_clamp (by omega)] at hP hD
    have hP : va_P (dC, dI) classes [(mo, .inr (13, MF 30 (es v tp (d + 1) tm))), (ql, .inl (cI, 20100, .inl (upd li tp x)))] H := hP
    have hD : va_D A [(mo, .inr (13, MF 30 (es v tp (d + 1) tm))), (ql, .inl (cI, 20100, .inl (upd li tp x)))] := hD
    refine lv_aload_n hx hb d_Mo_choose_18 rfl (lv_at hl 0 rfl) ?_
    refine lv_dup hx hb d_Mo_choose_19 rfl ?_
    refine va_get (D := (dC, dI)) (ci := 13) (v := .int (nI tp)) (C := R_Mo) (T := F_Mo) (N := 30) hx hb hts in_Mo hown hK hP 0 rfl rfl 25 (by decide) (hts _ w_1114) (fun _ h9 => h9) (MFg (by decide) es_25) d_Mo_choose_20 ?_
    refine lv_iconst (v := 1) hx hb d_Mo_choose_23 (by decide) ?_
    refine lv_iadd hx hb d_Mo_choose_24 ?_
    refine W.eq (g2 := F0 m 25 ls [.int (nI (tp + 1)), .ref mo]) (by rw [show ((nI tp) + 1) = (nI (tp + 1)) from nI_1 _]) ?_
    refine va_put (D := (dC, dI)) (ci := 13) (v := .int (nI (tp + 1))) (ty := .int) (C := R_Mo) (T := F_Mo) (N := 30) hx hb hts in_Mo t_Mo t_Mo_ok n_Mo hown hK hP hD hS 0 rfl rfl 25 (by decide) (hts _ w_1114) (fun _ h9 => h9) rfl (by decide +kernel) rfl rfl (by rw [MFl]; decide) d_Mo_choose_25 (fun H locs hP hD hS => ?_)
    rw [MFs (n := 30) (k := 25) (by decide)] at hP hD
    have hP : va_P (dC, dI) classes [(mo, .inr (13, MF 30 (va_up (es v tp (d + 1) tm) 25 (.int (nI (tp + 1)))))), (ql, .inl (cI, 20100, .inl (upd li tp x)))] H := hP
    have hD : va_D A [(mo, .inr (13, MF 30 (va_up (es v tp (d + 1) tm) 25 (.int (nI (tp + 1)))))), (ql, .inl (cI, 20100, .inl (upd li tp x)))] := hD
    rw [es_u25] at hP hD
    have hP : va_P (dC, dI) classes [(mo, .inr (13, MF 30 (es v (tp + 1) (d + 1) tm))), (ql, .inl (cI, 20100, .inl (upd li tp x)))] H := hP
    have hD : va_D A [(mo, .inr (13, MF 30 (es v (tp + 1) (d + 1) tm))), (ql, .inl (cI, 20100, .inl (upd li tp x)))] := hD
    exact W.vret hx hb hr (fun t9 ht hW => ⟨⟨(tp + 1, tm, upd li tp x), rfl, Or.inl ⟨hw1, hw0, rfl⟩, by rw [ht]; exact hP, va_K.moved hW.alike hK, hD⟩, hS.F ht⟩) hS.2.2 d_Mo_choose_28
abbrev b_Mo_character : ByteArray := prog_14_method_3_code
def y_Mo_character : MethodName := ⟨"QueryBenchModel", "character", "([CII)I"⟩
abbrev k_Mo_character : Cond := .code y_Mo_character b_Mo_character 4 (some .int)
theorem i_Mo_character : k_Mo_character ∈ gtbl := gt_in 1540 (by decide +kernel) (by decide +kernel)
theorem d_Mo_character_0 : decode b_Mo_character 0 = .ok (.aload_n 0, 1) := by decide +kernel
theorem d_Mo_character_1 : decode b_Mo_character 1 = .ok (.iload_n 1, 1) := by decide +kernel
theorem d_Mo_character_2 : decode b_Mo_character 2 = .ok (.caload, 1) := by decide +kernel
theorem d_Mo_character_3 : decode b_Mo_character 3 = .ok (.istore_n 3, 1) := by decide +kernel
theorem d_Mo_character_4 : decode b_Mo_character 4 = .ok (.iload_n 3, 1) := by decide +kernel
theorem d_Mo_character_5 : decode b_Mo_character 5 = .ok (.ldc 99, 2) := by decide +kernel
theorem d_Mo_character_7 : decode b_Mo_character 7 = .ok (.if_icmp .lt 16, 3) := by decide +kernel
theorem d_Mo_character_10 : decode b_Mo_character 10 = .ok (.iload_n 3, 1) := by decide +kernel
theorem d_Mo_character_11 : decode b_Mo_character 11 = .ok (.ldc 100, 2) := by decide +kernel
theorem d_Mo_character_13 : decode b_Mo_character 13 = .ok (.if_icmp .gt 10, 3) := by decide +kernel
theorem d_Mo_character_16 : decode b_Mo_character 16 = .ok (.iload_n 1, 1) := by decide +kernel
theorem d_Mo_character_17 : decode b_Mo_character 17 = .ok (.iconst 1, 1) := by decide +kernel
theorem d_Mo_character_18 : decode b_Mo_character 18 = .ok (.iadd, 1) := by decide +kernel
theorem d_Mo_character_19 : decode b_Mo_character 19 = .ok (.iload_n 2, 1) := by decide +kernel
theorem d_Mo_character_20 : decode b_Mo_character 20 = .ok (.if_icmp .lt 5, 3) := by decide +kernel
theorem d_Mo_character_23 : decode b_Mo_character 23 = .ok (.iload_n 3, 1) := by decide +kernel
theorem d_Mo_character_24 : decode b_Mo_character 24 = .ok (.ireturn, 1) := by decide +kernel
theorem d_Mo_character_25 : decode b_Mo_character 25 = .ok (.ldc 101, 2) := by decide +kernel
theorem d_Mo_character_27 : decode b_Mo_character 27 = .ok (.iload_n 3, 1) := by decide +kernel
theorem d_Mo_character_28 : decode b_Mo_character 28 = .ok (.ldc 99, 2) := by decide +kernel
theorem d_Mo_character_30 : decode b_Mo_character 30 = .ok (.isub, 1) := by decide +kernel
theorem d_Mo_character_31 : decode b_Mo_character 31 = .ok (.bipush 10, 2) := by decide +kernel
theorem d_Mo_character_33 : decode b_Mo_character 33 = .ok (.ishl, 1) := by decide +kernel
theorem d_Mo_character_34 : decode b_Mo_character 34 = .ok (.iadd, 1) := by decide +kernel
theorem d_Mo_character_35 : decode b_Mo_character 35 = .ok (.aload_n 0, 1) := by decide +kernel
theorem d_Mo_character_36 : decode b_Mo_character 36 = .ok (.iload_n 1, 1) := by decide +kernel
theorem d_Mo_character_37 : decode b_Mo_character 37 = .ok (.iconst 1, 1) := by decide +kernel
theorem d_Mo_character_38 : decode b_Mo_character 38 = .ok (.iadd, 1) := by decide +kernel
theorem d_Mo_character_39 : decode b_Mo_character 39 = .ok (.caload, 1) := by decide +kernel
theorem d_Mo_character_40 : decode b_Mo_character 40 = .ok (.iadd, 1) := by decide +kernel
theorem d_Mo_character_41 : decode b_Mo_character 41 = .ok (.ldc 102, 2) := by decide +kernel
theorem d_Mo_character_43 : decode b_Mo_character 43 = .ok (.isub, 1) := by decide +kernel
theorem d_Mo_character_44 : decode b_Mo_character 44 = .ok (.ireturn, 1) := by decide +kernel
set_option maxHeartbeats 4000000 in
set_option maxRecDepth 100000 in
/-- the reference: character -/
theorem c_Mo_character (l : Launch) (dC : Nat → ClassId) (dI : Nat → Nat → Nat) (sz : Heap) (cC : ClassId) (au U i en : Nat) (g : Nat → Int32) (hi : i < en) (he : en ≤ U) (hU : U ≤ 1000000) : Met l y_Mo_character (k_Mo_character :: gtbl) ({ frames := 0, cells := 0, slots := 0, locals := 0 }) (va_Pc [.ref au, .int (nI i), .int (nI en)] (mp dC dI [(au, .inl (cC, U, .inl g))] [(cC, .char)] sz)) (va_Qi (fun (_ : Int32) (_ : Unit) => True) (fun _ => mz dC dI [(au, .inl (cC, U, .inl g))] [(cC, .char)] (va_A [(au, .inl (cC, U, .inl g))] sz.size)) (va_A [(au, .inl (cC, U, .inl g))] sz.size)) 0 0 (va_A [(au, .inl (cC, U, .inl g))] sz.size) := by
  refine Met.ofW (cc := b_Mo_character) (maxL := 4) (ret := (some .int)) (by decide) rfl ?_
  intro p e s m args below meth c s₁ B hml hv
  obtain ⟨rfl, hsz, hP, hK, hD0⟩ := hv
  have hx := B.exec
  have hb := B.bytes
  have hr := B.returns
  have hts0 := atoms_spec (ws := k_Mo_character :: gtbl) B.pre
  have hts := fun w h => hts0 w (List.mem_cons_of_mem _ h)
  have hown : s.vm.findClass R_Mo = some m.cls := findClass_of_methodNamed B.named
  have hlocks := B.notSynchronized
  subst hsz
  have hD := hD0.self (sz := s.heap.size)
  generalize hAe : va_A [(au, .inl (cC, U, .inl g))] s.heap.size = A at hD ⊢
  have hA : ∀ q : Nat, s.heap.size ≤ q → A q := fun q h => by rw [← hAe]; exact Or.inr h
  have hS : va_S A s.heap s.heap [] := va_S.rf
  have hP : va_P (dC, dI) classes [(au, .inl (cC, U, .inl g))] s.heap := hP
  have hl := lv_entry ([.ref au, .int (nI i), .int (nI en)]) (n := 4) (Nat.le_of_ble_eq_true rfl)
  rw [lg_entry_eq]
  generalize (lg_sl ([.ref au, .int (nI i), .int (nI en)]) ++ List.replicate (4 - (lg_sl ([.ref au, .int (nI i), .int (nI en)])).length) Slot.unset).toArray = ls at hl ⊢
  have hl : lv_has ls 4 [(0, .ref au), (1, .int (nI i)), (2, .int (nI en))] := hl
  refine lv_aload_n hx hb d_Mo_character_0 rfl (lv_at hl 0 rfl) ?_
  refine lv_iload_n hx hb d_Mo_character_1 rfl (lv_at hl 1 rfl) ?_
  refine va_cald hx hb hK hP 0 0 rfl rfl (vp_in_nI (show i < U by omega) (by omega)) d_Mo_character_2 ?_
  rw [show (nI i).toNatClampNeg = i from nI_clamp (by omega)]
  refine lv_istore_n (lv' := [(3, .int (g i)), (0, .ref au), (1, .int (nI i)), (2, .int (nI en))]) hx hb d_Mo_character_3 rfl hl (by decide) rfl (fun ls hl => ?_)
  refine lv_iload_n hx hb d_Mo_character_4 rfl (lv_at hl 0 rfl) ?_
  refine lv_ldc (v := 55296) hx hb hown (hts _ w_1337) d_Mo_character_5 ?_
  refine lv_icmp_lt (tgt := 23) hx hb d_Mo_character_7 (by decide) (fun c7 => ?_) (fun c7 => ?_)
  · refine lv_iload_n hx hb d_Mo_character_23 rfl (lv_at hl 0 rfl) ?_
    exact W.iret (v := (g i)) hx hb hr (fun t ht hW => ⟨⟨(g i), (), rfl, trivial, by rw [ht]; exact hP, va_K.moved hW.alike hK, hD⟩, hS.F ht⟩) hS.2.2 d_Mo_character_24
  · refine lv_iload_n hx hb d_Mo_character_10 rfl (lv_at hl 0 rfl) ?_
    refine lv_ldc (v := 56319) hx hb hown (hts _ w_1338) d_Mo_character_11 ?_
    refine lv_icmp_gt (tgt := 23) hx hb d_Mo_character_13 (by decide) (fun c13 => ?_) (fun c13 => ?_)
    · refine lv_iload_n hx hb d_Mo_character_23 rfl (lv_at hl 0 rfl) ?_
      exact W.iret (v := (g i)) hx hb hr (fun t ht hW => ⟨⟨(g i), (), rfl, trivial, by rw [ht]; exact hP, va_K.moved hW.alike hK, hD⟩, hS.F ht⟩) hS.2.2 d_Mo_character_24
    · refine lv_iload_n hx hb d_Mo_character_16 rfl (lv_at hl 2 rfl) ?_
      refine lv_iconst (v := 1) hx hb d_Mo_character_17 (by decide) ?_
      refine lv_iadd hx hb d_Mo_character_18 ?_
      refine lv_iload_n hx hb d_Mo_character_19 rfl (lv_at hl 3 rfl) ?_
      refine lv_icmp_lt (tgt := 25) hx hb d_Mo_character_20 (by decide) (fun c20 => ?_) (fun c20 => ?_)
      · refine lv_ldc (v := 65536) hx hb hown (hts _ w_1541) d_Mo_character_25 ?_
        refine lv_iload_n hx hb d_Mo_character_27 rfl (lv_at hl 0 rfl) ?_
        refine lv_ldc (v := 55296) hx hb hown (hts _ w_1337) d_Mo_character_28 ?_
        refine lv_isub hx hb d_Mo_character_30 ?_
        refine lv_bipush (v := 10) hx hb d_Mo_character_31 (by decide) ?_
        refine lv_ishl hx hb d_Mo_character_33 ?_
        refine lv_topi (fun x1 e1 => ?_)
        refine lv_iadd hx hb d_Mo_character_34 ?_
        refine lv_aload_n hx hb d_Mo_character_35 rfl (lv_at hl 1 rfl) ?_
        refine lv_iload_n hx hb d_Mo_character_36 rfl (lv_at hl 2 rfl) ?_
        refine lv_iconst (v := 1) hx hb d_Mo_character_37 (by decide) ?_
        refine lv_iadd hx hb d_Mo_character_38 ?_
        refine W.eq (g2 := F0 m 39 ls [.int (nI (i + 1)), .ref au, .int (65536 + x1)]) (by rw [show ((nI i) + 1) = (nI (i + 1)) from nI_1 _]) ?_
        have hi1 : i + 1 < en := by rw [show (nI i + 1 : Int32) = nI (i + 1) from nI_1 _, nI_ltI (by omega) (by omega)] at c20; exact c20
        refine va_cald hx hb hK hP 0 0 rfl rfl (vp_in_nI (show (i + 1) < U by omega) (by omega)) d_Mo_character_39 ?_
        rw [show (nI (i + 1)).toNatClampNeg = (i + 1) from nI_clamp (by omega)]
        refine lv_iadd hx hb d_Mo_character_40 ?_
        refine lv_ldc (v := 56320) hx hb hown (hts _ w_1335) d_Mo_character_41 ?_
        refine lv_isub hx hb d_Mo_character_43 ?_
        exact W.iret (v := (((65536 + x1) + (g (i + 1))) - 56320)) hx hb hr (fun t ht hW => ⟨⟨(((65536 + x1) + (g (i + 1))) - 56320), (), rfl, trivial, by rw [ht]; exact hP, va_K.moved hW.alike hK, hD⟩, hS.F ht⟩) hS.2.2 d_Mo_character_44
      · refine lv_iload_n hx hb d_Mo_character_23 rfl (lv_at hl 0 rfl) ?_
        exact W.iret (v := (g i)) hx hb hr (fun t ht hW => ⟨⟨(g i), (), rfl, trivial, by rw [ht]; exact hP, va_K.moved hW.alike hK, hD⟩, hS.F ht⟩) hS.2.2 d_Mo_character_24
