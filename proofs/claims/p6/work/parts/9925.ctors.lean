theorem z_545 : (.methodLink "QueryBench$Query" 1 ⟨"java/lang/Object", "<init>", "()V"⟩ : Cond) ∈ gtbl := gt_in 545 (by decide +kernel) (by decide +kernel)
theorem z_546 : (.fieldLink "QueryBench$Query" 13 "QueryBench$Query" "fromRoot" "Z" : Cond) ∈ gtbl := gt_in 546 (by decide +kernel) (by decide +kernel)
theorem z_548 : (.fieldLink "QueryBench$Query" 7 "QueryBench$Query" "singular" "Z" : Cond) ∈ gtbl := gt_in 548 (by decide +kernel) (by decide +kernel)
theorem z_574 : (.fieldLink "QueryBench$Segment" 7 "QueryBench$Segment" "descends" "Z" : Cond) ∈ gtbl := gt_in 574 (by decide +kernel) (by decide +kernel)
theorem z_577 : (.fieldLink "QueryBench$Segment" 13 "QueryBench$Segment" "first" "LQueryBench$Selector;" : Cond) ∈ gtbl := gt_in 577 (by decide +kernel) (by decide +kernel)
theorem z_610 : (.fieldLink "QueryBench$Segment" 22 "QueryBench$Selector" "kind" "I" : Cond) ∈ gtbl := gt_in 610 (by decide +kernel) (by decide +kernel)
theorem z_628 : (.fieldLink "QueryBench$Segment" 17 "QueryBench$Selector" "next" "LQueryBench$Selector;" : Cond) ∈ gtbl := gt_in 628 (by decide +kernel) (by decide +kernel)
theorem z_725 : (.methodLink "QueryBench$Operand" 1 ⟨"java/lang/Object", "<init>", "()V"⟩ : Cond) ∈ gtbl := gt_in 725 (by decide +kernel) (by decide +kernel)
theorem z_726 : (.fieldLink "QueryBench$Operand" 7 "QueryBench$Operand" "kind" "I" : Cond) ∈ gtbl := gt_in 726 (by decide +kernel) (by decide +kernel)
theorem z_728 : (.fieldLink "QueryBench$Operand" 13 "QueryBench$Operand" "value" "LQueryBench$Value;" : Cond) ∈ gtbl := gt_in 728 (by decide +kernel) (by decide +kernel)
abbrev b_Query_init : ByteArray := prog_6_method_1_code
def y_Query_init : MethodName := ⟨"QueryBench$Query", "<init>", "(Z)V"⟩
abbrev k_Query_init : Cond := .code y_Query_init b_Query_init 2 none
theorem i_Query_init : k_Query_init ∈ gtbl := gt_in 544 (by decide +kernel) (by decide +kernel)
theorem d_Query_init_0 : decode b_Query_init 0 = .ok (.aload_n 0, 1) := by decide +kernel
theorem d_Query_init_1 : decode b_Query_init 1 = .ok (.invokespecial 1, 3) := by decide +kernel
theorem d_Query_init_4 : decode b_Query_init 4 = .ok (.aload_n 0, 1) := by decide +kernel
theorem d_Query_init_5 : decode b_Query_init 5 = .ok (.iconst 1, 1) := by decide +kernel
theorem d_Query_init_6 : decode b_Query_init 6 = .ok (.putfield 7, 3) := by decide +kernel
theorem d_Query_init_9 : decode b_Query_init 9 = .ok (.aload_n 0, 1) := by decide +kernel
theorem d_Query_init_10 : decode b_Query_init 10 = .ok (.iload_n 1, 1) := by decide +kernel
theorem d_Query_init_11 : decode b_Query_init 11 = .ok (.putfield 13, 3) := by decide +kernel
theorem d_Query_init_14 : decode b_Query_init 14 = .ok (.return_, 1) := by decide +kernel
set_option maxHeartbeats 4000000 in
set_option maxRecDepth 100000 in
/-- Query() -/
theorem c_Query_init (l : Launch) (dC : Nat → ClassId) (dI : Nat → Nat → Nat) (sz : Heap) (q : Nat) (k : Int32) (hk : Bo k) : Met l y_Query_init (k_Query_init :: gtbl) ({ frames := 1, cells := 0, slots := 0, locals := 20 }) (va_Pc [.ref q, .int k] (mp dC dI ([(q, .inr (4, [.int 0, .int 0, .null, .null]))]) [] sz)) (va_Qv (fun (u : Unit) => True) (fun u t9 => mz dC dI ([(q, .inr (4, [.int k, .int 1, .null, .null]))]) [] (va_A ([(q, .inr (4, [.int 0, .int 0, .null, .null]))]) sz.size) t9 ∧ szk sz t9.heap (0) (0)) (va_A ([(q, .inr (4, [.int 0, .int 0, .null, .null]))]) sz.size)) (0) (0) (va_A ([(q, .inr (4, [.int 0, .int 0, .null, .null]))]) sz.size) := by
  rcases hk with rfl | rfl
  · refine Met.ofW (cc := b_Query_init) (maxL := 2) (ret := none) (by decide) rfl ?_
    intro p e s m args below meth c s₁ B hml hv
    obtain ⟨rfl, hsz, hP, hK, hD0⟩ := hv
    have hx := B.exec
    have hb := B.bytes
    have hr := B.returns
    have hts0 := atoms_spec (ws := k_Query_init :: gtbl) B.pre
    have hts := fun w h => hts0 w (List.mem_cons_of_mem _ h)
    have hown : s.vm.findClass R_Query = some m.cls := findClass_of_methodNamed B.named
    have hlocks := B.notSynchronized
    have hin : meth.name = "<init>" := (name_of_methodNamed B.named B.method).1
    subst hsz
    have hD := hD0.self (sz := s.heap.size)
    generalize hAe : va_A ([(q, .inr (4, [.int 0, .int 0, .null, .null]))]) s.heap.size = A at hD ⊢
    have hA : ∀ q : Nat, s.heap.size ≤ q → A q := fun q h => by rw [← hAe]; exact Or.inr h
    have hS : va_S A s.heap s.heap [] := va_S.rf
    have hP : va_P (dC, dI) classes ([(q, .inr (4, [.int 0, .int 0, .null, .null]))]) s.heap := hP
    have hl := lv_entry ([.ref q, .int 0]) (n := 2) (Nat.le_of_ble_eq_true rfl)
    rw [lg_entry_eq]
    generalize (lg_sl ([.ref q, .int 0]) ++ List.replicate (2 - (lg_sl ([.ref q, .int 0])).length) Slot.unset).toArray = ls at hl ⊢
    have hl : lv_has ls 2 [(0, .ref q), (1, .int 0)] := hl
    refine lv_aload_n hx hb d_Query_init_0 rfl (lv_at hl 0 rfl) ?_
    refine W.objInit hx hb hown (hts _ z_545) (hts _ w_35) (hts _ w_obj) rfl (by rw [hml]; exact hl.1) rfl d_Query_init_1 (Nat.le_of_ble_eq_true rfl) (Nat.le_of_ble_eq_true rfl) ?_
    refine W.eq (g2 := F0 m 4 ls []) rfl ?_
    refine lv_aload_n hx hb d_Query_init_4 rfl (lv_at hl 0 rfl) ?_
    refine lv_iconst (v := 1) hx hb d_Query_init_5 (by decide) ?_
    refine va_put (D := (dC, dI)) (ci := 4) (v := .int 1) (ty := .boolean) (C := R_Query) (T := F_Query) (N := 4) hx hb hts in_Query t_Query t_Query_ok n_Query hown hK hP hD hS 0 rfl rfl 1 (by decide) (hts _ z_548) (fun _ h9 => h9) rfl (by decide +kernel) rfl rfl (Nat.le_of_ble_eq_true rfl) d_Query_init_6 (fun H locs hP hD hS => ?_)
    have hP : va_P (dC, dI) classes ([(q, .inr (4, [.int 0, .int 1, .null, .null]))]) H := hP
    have hD : va_D A ([(q, .inr (4, [.int 0, .int 1, .null, .null]))]) := hD
    refine lv_aload_n hx hb d_Query_init_9 rfl (lv_at hl 0 rfl) ?_
    refine lv_iload_n hx hb d_Query_init_10 rfl (lv_at hl 1 rfl) ?_
    refine va_putF (D := (dC, dI)) (ci := 4) (v := .int 0) (ty := .boolean) (C := R_Query) (T := F_Query) (N := 4) hx hb hts in_Query t_Query t_Query_ok n_Query hown hK hP hD hS 0 rfl rfl 0 (by decide) (hts _ z_546) (fun _ h9 => h9) rfl hin rfl (by decide +kernel) rfl rfl (Nat.le_of_ble_eq_true rfl) d_Query_init_11 (fun H locs hP hD hS => ?_)
    have hP : va_P (dC, dI) classes ([(q, .inr (4, [.int 0, .int 1, .null, .null]))]) H := hP
    have hD : va_D A ([(q, .inr (4, [.int 0, .int 1, .null, .null]))]) := hD
    refine w_same (fun hq => ?_)
    refine W.widen (k := 0) (n := 0) (Nat.zero_le _) (Nat.zero_le _) ?_
    exact W.vret hx hb hr (fun t9 ht hW => ⟨⟨(), rfl, trivial, ⟨by rw [ht]; exact hP, va_K.moved hW.alike hK, hD⟩, by rw [ht]; exact hq⟩, hS.F ht⟩) hS.2.2 d_Query_init_14
  · refine Met.ofW (cc := b_Query_init) (maxL := 2) (ret := none) (by decide) rfl ?_
    intro p e s m args below meth c s₁ B hml hv
    obtain ⟨rfl, hsz, hP, hK, hD0⟩ := hv
    have hx := B.exec
    have hb := B.bytes
    have hr := B.returns
    have hts0 := atoms_spec (ws := k_Query_init :: gtbl) B.pre
    have hts := fun w h => hts0 w (List.mem_cons_of_mem _ h)
    have hown : s.vm.findClass R_Query = some m.cls := findClass_of_methodNamed B.named
    have hlocks := B.notSynchronized
    have hin : meth.name = "<init>" := (name_of_methodNamed B.named B.method).1
    subst hsz
    have hD := hD0.self (sz := s.heap.size)
    generalize hAe : va_A ([(q, .inr (4, [.int 0, .int 0, .null, .null]))]) s.heap.size = A at hD ⊢
    have hA : ∀ q : Nat, s.heap.size ≤ q → A q := fun q h => by rw [← hAe]; exact Or.inr h
    have hS : va_S A s.heap s.heap [] := va_S.rf
    have hP : va_P (dC, dI) classes ([(q, .inr (4, [.int 0, .int 0, .null, .null]))]) s.heap := hP
    have hl := lv_entry ([.ref q, .int 1]) (n := 2) (Nat.le_of_ble_eq_true rfl)
    rw [lg_entry_eq]
    generalize (lg_sl ([.ref q, .int 1]) ++ List.replicate (2 - (lg_sl ([.ref q, .int 1])).length) Slot.unset).toArray = ls at hl ⊢
    have hl : lv_has ls 2 [(0, .ref q), (1, .int 1)] := hl
    refine lv_aload_n hx hb d_Query_init_0 rfl (lv_at hl 0 rfl) ?_
    refine W.objInit hx hb hown (hts _ z_545) (hts _ w_35) (hts _ w_obj) rfl (by rw [hml]; exact hl.1) rfl d_Query_init_1 (Nat.le_of_ble_eq_true rfl) (Nat.le_of_ble_eq_true rfl) ?_
    refine W.eq (g2 := F0 m 4 ls []) rfl ?_
    refine lv_aload_n hx hb d_Query_init_4 rfl (lv_at hl 0 rfl) ?_
    refine lv_iconst (v := 1) hx hb d_Query_init_5 (by decide) ?_
    refine va_put (D := (dC, dI)) (ci := 4) (v := .int 1) (ty := .boolean) (C := R_Query) (T := F_Query) (N := 4) hx hb hts in_Query t_Query t_Query_ok n_Query hown hK hP hD hS 0 rfl rfl 1 (by decide) (hts _ z_548) (fun _ h9 => h9) rfl (by decide +kernel) rfl rfl (Nat.le_of_ble_eq_true rfl) d_Query_init_6 (fun H locs hP hD hS => ?_)
    have hP : va_P (dC, dI) classes ([(q, .inr (4, [.int 0, .int 1, .null, .null]))]) H := hP
    have hD : va_D A ([(q, .inr (4, [.int 0, .int 1, .null, .null]))]) := hD
    refine lv_aload_n hx hb d_Query_init_9 rfl (lv_at hl 0 rfl) ?_
    refine lv_iload_n hx hb d_Query_init_10 rfl (lv_at hl 1 rfl) ?_
    refine va_putF (D := (dC, dI)) (ci := 4) (v := .int 1) (ty := .boolean) (C := R_Query) (T := F_Query) (N := 4) hx hb hts in_Query t_Query t_Query_ok n_Query hown hK hP hD hS 0 rfl rfl 0 (by decide) (hts _ z_546) (fun _ h9 => h9) rfl hin rfl (by decide +kernel) rfl rfl (Nat.le_of_ble_eq_true rfl) d_Query_init_11 (fun H locs hP hD hS => ?_)
    have hP : va_P (dC, dI) classes ([(q, .inr (4, [.int 1, .int 1, .null, .null]))]) H := hP
    have hD : va_D A ([(q, .inr (4, [.int 1, .int 1, .null, .null]))]) := hD
    refine w_same (fun hq => ?_)
    refine W.widen (k := 0) (n := 0) (Nat.zero_le _) (Nat.zero_le _) ?_
    exact W.vret hx hb hr (fun t9 ht hW => ⟨⟨(), rfl, trivial, ⟨by rw [ht]; exact hP, va_K.moved hW.alike hK, hD⟩, by rw [ht]; exact hq⟩, hS.F ht⟩) hS.2.2 d_Query_init_14
abbrev b_Operand_init : ByteArray := prog_4_method_1_code
def y_Operand_init : MethodName := ⟨"QueryBench$Operand", "<init>", "(ILQueryBench$Value;)V"⟩
abbrev k_Operand_init : Cond := .code y_Operand_init b_Operand_init 3 none
theorem i_Operand_init : k_Operand_init ∈ gtbl := gt_in 724 (by decide +kernel) (by decide +kernel)
theorem d_Operand_init_0 : decode b_Operand_init 0 = .ok (.aload_n 0, 1) := by decide +kernel
theorem d_Operand_init_1 : decode b_Operand_init 1 = .ok (.invokespecial 1, 3) := by decide +kernel
theorem d_Operand_init_4 : decode b_Operand_init 4 = .ok (.aload_n 0, 1) := by decide +kernel
theorem d_Operand_init_5 : decode b_Operand_init 5 = .ok (.iload_n 1, 1) := by decide +kernel
theorem d_Operand_init_6 : decode b_Operand_init 6 = .ok (.putfield 7, 3) := by decide +kernel
theorem d_Operand_init_9 : decode b_Operand_init 9 = .ok (.aload_n 0, 1) := by decide +kernel
theorem d_Operand_init_10 : decode b_Operand_init 10 = .ok (.aload_n 2, 1) := by decide +kernel
theorem d_Operand_init_11 : decode b_Operand_init 11 = .ok (.putfield 13, 3) := by decide +kernel
theorem d_Operand_init_14 : decode b_Operand_init 14 = .ok (.return_, 1) := by decide +kernel
set_option maxHeartbeats 4000000 in
set_option maxRecDepth 100000 in
/-- Operand() -/
theorem c_Operand_init (l : Launch) (dC : Nat → ClassId) (dI : Nat → Nat → Nat) (sz : Heap) (q : Nat) (k : Int32) (va : Option Nat) : Met l y_Operand_init (k_Operand_init :: gtbl) ({ frames := 1, cells := 0, slots := 0, locals := 20 }) (va_Pc [.ref q, .int k, va_rf va] (mp dC dI ([(q, .inr (2, [.int 0, .null, .null, .null]))]) [] sz)) (va_Qv (fun (u : Unit) => True) (fun u t9 => mz dC dI ([(q, .inr (2, [.int k, va_rf va, .null, .null]))]) [] (va_A ([(q, .inr (2, [.int 0, .null, .null, .null]))]) sz.size) t9 ∧ szk sz t9.heap (0) (0)) (va_A ([(q, .inr (2, [.int 0, .null, .null, .null]))]) sz.size)) (0) (0) (va_A ([(q, .inr (2, [.int 0, .null, .null, .null]))]) sz.size) := by
  rcases va with _ | b21
  · change Met _ _ _ _ (va_Pc [.ref q, .int k, .null] _) _ _ _ _
    refine Met.ofW (cc := b_Operand_init) (maxL := 3) (ret := none) (by decide) rfl ?_
    intro p e s m args below meth c s₁ B hml hv
    obtain ⟨rfl, hsz, hP, hK, hD0⟩ := hv
    have hx := B.exec
    have hb := B.bytes
    have hr := B.returns
    have hts0 := atoms_spec (ws := k_Operand_init :: gtbl) B.pre
    have hts := fun w h => hts0 w (List.mem_cons_of_mem _ h)
    have hown : s.vm.findClass R_Operand = some m.cls := findClass_of_methodNamed B.named
    have hlocks := B.notSynchronized
    have hin : meth.name = "<init>" := (name_of_methodNamed B.named B.method).1
    subst hsz
    have hD := hD0.self (sz := s.heap.size)
    generalize hAe : va_A ([(q, .inr (2, [.int 0, .null, .null, .null]))]) s.heap.size = A at hD ⊢
    have hA : ∀ q : Nat, s.heap.size ≤ q → A q := fun q h => by rw [← hAe]; exact Or.inr h
    have hS : va_S A s.heap s.heap [] := va_S.rf
    have hP : va_P (dC, dI) classes ([(q, .inr (2, [.int 0, .null, .null, .null]))]) s.heap := hP
    have hl := lv_entry ([.ref q, .int k, .null]) (n := 3) (Nat.le_of_ble_eq_true rfl)
    rw [lg_entry_eq]
    generalize (lg_sl ([.ref q, .int k, .null]) ++ List.replicate (3 - (lg_sl ([.ref q, .int k, .null])).length) Slot.unset).toArray = ls at hl ⊢
    have hl : lv_has ls 3 [(0, .ref q), (1, .int k), (2, .null)] := hl
    refine lv_aload_n hx hb d_Operand_init_0 rfl (lv_at hl 0 rfl) ?_
    refine W.objInit hx hb hown (hts _ z_725) (hts _ w_35) (hts _ w_obj) rfl (by rw [hml]; exact hl.1) rfl d_Operand_init_1 (Nat.le_of_ble_eq_true rfl) (Nat.le_of_ble_eq_true rfl) ?_
    refine W.eq (g2 := F0 m 4 ls []) rfl ?_
    refine lv_aload_n hx hb d_Operand_init_4 rfl (lv_at hl 0 rfl) ?_
    refine lv_iload_n hx hb d_Operand_init_5 rfl (lv_at hl 1 rfl) ?_
    refine va_putF (D := (dC, dI)) (ci := 2) (v := .int k) (ty := .int) (C := R_Operand) (T := F_Operand) (N := 4) hx hb hts in_Operand t_Operand t_Operand_ok n_Operand hown hK hP hD hS 0 rfl rfl 0 (by decide) (hts _ z_726) (fun _ h9 => h9) rfl hin rfl (by decide +kernel) rfl rfl (Nat.le_of_ble_eq_true rfl) d_Operand_init_6 (fun H locs hP hD hS => ?_)
    have hP : va_P (dC, dI) classes ([(q, .inr (2, [.int k, .null, .null, .null]))]) H := hP
    have hD : va_D A ([(q, .inr (2, [.int k, .null, .null, .null]))]) := hD
    refine lv_aload_n hx hb d_Operand_init_9 rfl (lv_at hl 0 rfl) ?_
    refine lv_aload_nN hx hb d_Operand_init_10 rfl (lv_at hl 2 rfl) ?_
    refine va_putF (D := (dC, dI)) (ci := 2) (v := .null) (ty := .object "QueryBench$Value") (C := R_Operand) (T := F_Operand) (N := 4) hx hb hts in_Operand t_Operand t_Operand_ok n_Operand hown hK hP hD hS 0 rfl rfl 1 (by decide) (hts _ z_728) (fun _ h9 => h9) rfl hin rfl (by decide +kernel) rfl rfl (Nat.le_of_ble_eq_true rfl) d_Operand_init_11 (fun H locs hP hD hS => ?_)
    have hP : va_P (dC, dI) classes ([(q, .inr (2, [.int k, .null, .null, .null]))]) H := hP
    have hD : va_D A ([(q, .inr (2, [.int k, .null, .null, .null]))]) := hD
    refine w_same (fun hq => ?_)
    refine W.widen (k := 0) (n := 0) (Nat.zero_le _) (Nat.zero_le _) ?_
    exact W.vret hx hb hr (fun t9 ht hW => ⟨⟨(), rfl, trivial, ⟨by rw [ht]; exact hP, va_K.moved hW.alike hK, hD⟩, by rw [ht]; exact hq⟩, hS.F ht⟩) hS.2.2 d_Operand_init_14
  · change Met _ _ _ _ (va_Pc [.ref q, .int k, .ref b21] _) _ _ _ _
    refine Met.ofW (cc := b_Operand_init) (maxL := 3) (ret := none) (by decide) rfl ?_
    intro p e s m args below meth c s₁ B hml hv
    obtain ⟨rfl, hsz, hP, hK, hD0⟩ := hv
    have hx := B.exec
    have hb := B.bytes
    have hr := B.returns
    have hts0 := atoms_spec (ws := k_Operand_init :: gtbl) B.pre
    have hts := fun w h => hts0 w (List.mem_cons_of_mem _ h)
    have hown : s.vm.findClass R_Operand = some m.cls := findClass_of_methodNamed B.named
    have hlocks := B.notSynchronized
    have hin : meth.name = "<init>" := (name_of_methodNamed B.named B.method).1
    subst hsz
    have hD := hD0.self (sz := s.heap.size)
    generalize hAe : va_A ([(q, .inr (2, [.int 0, .null, .null, .null]))]) s.heap.size = A at hD ⊢
    have hA : ∀ q : Nat, s.heap.size ≤ q → A q := fun q h => by rw [← hAe]; exact Or.inr h
    have hS : va_S A s.heap s.heap [] := va_S.rf
    have hP : va_P (dC, dI) classes ([(q, .inr (2, [.int 0, .null, .null, .null]))]) s.heap := hP
    have hl := lv_entry ([.ref q, .int k, .ref b21]) (n := 3) (Nat.le_of_ble_eq_true rfl)
    rw [lg_entry_eq]
    generalize (lg_sl ([.ref q, .int k, .ref b21]) ++ List.replicate (3 - (lg_sl ([.ref q, .int k, .ref b21])).length) Slot.unset).toArray = ls at hl ⊢
    have hl : lv_has ls 3 [(0, .ref q), (1, .int k), (2, .ref b21)] := hl
    refine lv_aload_n hx hb d_Operand_init_0 rfl (lv_at hl 0 rfl) ?_
    refine W.objInit hx hb hown (hts _ z_725) (hts _ w_35) (hts _ w_obj) rfl (by rw [hml]; exact hl.1) rfl d_Operand_init_1 (Nat.le_of_ble_eq_true rfl) (Nat.le_of_ble_eq_true rfl) ?_
    refine W.eq (g2 := F0 m 4 ls []) rfl ?_
    refine lv_aload_n hx hb d_Operand_init_4 rfl (lv_at hl 0 rfl) ?_
    refine lv_iload_n hx hb d_Operand_init_5 rfl (lv_at hl 1 rfl) ?_
    refine va_putF (D := (dC, dI)) (ci := 2) (v := .int k) (ty := .int) (C := R_Operand) (T := F_Operand) (N := 4) hx hb hts in_Operand t_Operand t_Operand_ok n_Operand hown hK hP hD hS 0 rfl rfl 0 (by decide) (hts _ z_726) (fun _ h9 => h9) rfl hin rfl (by decide +kernel) rfl rfl (Nat.le_of_ble_eq_true rfl) d_Operand_init_6 (fun H locs hP hD hS => ?_)
    have hP : va_P (dC, dI) classes ([(q, .inr (2, [.int k, .null, .null, .null]))]) H := hP
    have hD : va_D A ([(q, .inr (2, [.int k, .null, .null, .null]))]) := hD
    refine lv_aload_n hx hb d_Operand_init_9 rfl (lv_at hl 0 rfl) ?_
    refine lv_aload_n hx hb d_Operand_init_10 rfl (lv_at hl 2 rfl) ?_
    refine va_putF (D := (dC, dI)) (ci := 2) (v := .ref b21) (ty := .object "QueryBench$Value") (C := R_Operand) (T := F_Operand) (N := 4) hx hb hts in_Operand t_Operand t_Operand_ok n_Operand hown hK hP hD hS 0 rfl rfl 1 (by decide) (hts _ z_728) (fun _ h9 => h9) rfl hin rfl (by decide +kernel) rfl rfl (Nat.le_of_ble_eq_true rfl) d_Operand_init_11 (fun H locs hP hD hS => ?_)
    have hP : va_P (dC, dI) classes ([(q, .inr (2, [.int k, .ref b21, .null, .null]))]) H := hP
    have hD : va_D A ([(q, .inr (2, [.int k, .ref b21, .null, .null]))]) := hD
    refine w_same (fun hq => ?_)
    refine W.widen (k := 0) (n := 0) (Nat.zero_le _) (Nat.zero_le _) ?_
    exact W.vret hx hb hr (fun t9 ht hW => ⟨⟨(), rfl, trivial, ⟨by rw [ht]; exact hP, va_K.moved hW.alike hK, hD⟩, by rw [ht]; exact hq⟩, hS.F ht⟩) hS.2.2 d_Operand_init_14
abbrev b_Segment_isSingular : ByteArray := prog_8_method_2_code
def y_Segment_isSingular : MethodName := ⟨"QueryBench$Segment", "isSingular", "()Z"⟩
abbrev k_Segment_isSingular : Cond := .code y_Segment_isSingular b_Segment_isSingular 1 (some .boolean)
theorem i_Segment_isSingular : k_Segment_isSingular ∈ gtbl := gt_in 803 (by decide +kernel) (by decide +kernel)
theorem d_Segment_isSingular_0 : decode b_Segment_isSingular 0 = .ok (.aload_n 0, 1) := by decide +kernel
theorem d_Segment_isSingular_1 : decode b_Segment_isSingular 1 = .ok (.getfield 7, 3) := by decide +kernel
theorem d_Segment_isSingular_4 : decode b_Segment_isSingular 4 = .ok (.ifCond .ne 38, 3) := by decide +kernel
theorem d_Segment_isSingular_7 : decode b_Segment_isSingular 7 = .ok (.aload_n 0, 1) := by decide +kernel
theorem d_Segment_isSingular_8 : decode b_Segment_isSingular 8 = .ok (.getfield 13, 3) := by decide +kernel
theorem d_Segment_isSingular_11 : decode b_Segment_isSingular 11 = .ok (.getfield 17, 3) := by decide +kernel
theorem d_Segment_isSingular_14 : decode b_Segment_isSingular 14 = .ok (.ifnonnull 28, 3) := by decide +kernel
theorem d_Segment_isSingular_17 : decode b_Segment_isSingular 17 = .ok (.aload_n 0, 1) := by decide +kernel
theorem d_Segment_isSingular_18 : decode b_Segment_isSingular 18 = .ok (.getfield 13, 3) := by decide +kernel
theorem d_Segment_isSingular_21 : decode b_Segment_isSingular 21 = .ok (.getfield 22, 3) := by decide +kernel
theorem d_Segment_isSingular_24 : decode b_Segment_isSingular 24 = .ok (.ifCond .eq 14, 3) := by decide +kernel
theorem d_Segment_isSingular_27 : decode b_Segment_isSingular 27 = .ok (.aload_n 0, 1) := by decide +kernel
theorem d_Segment_isSingular_28 : decode b_Segment_isSingular 28 = .ok (.getfield 13, 3) := by decide +kernel
theorem d_Segment_isSingular_31 : decode b_Segment_isSingular 31 = .ok (.getfield 22, 3) := by decide +kernel
theorem d_Segment_isSingular_34 : decode b_Segment_isSingular 34 = .ok (.iconst 2, 1) := by decide +kernel
theorem d_Segment_isSingular_35 : decode b_Segment_isSingular 35 = .ok (.if_icmp .ne 7, 3) := by decide +kernel
theorem d_Segment_isSingular_38 : decode b_Segment_isSingular 38 = .ok (.iconst 1, 1) := by decide +kernel
theorem d_Segment_isSingular_39 : decode b_Segment_isSingular 39 = .ok (.goto 4, 3) := by decide +kernel
theorem d_Segment_isSingular_42 : decode b_Segment_isSingular 42 = .ok (.iconst 0, 1) := by decide +kernel
theorem d_Segment_isSingular_43 : decode b_Segment_isSingular 43 = .ok (.ireturn, 1) := by decide +kernel
set_option maxHeartbeats 4000000 in
set_option maxRecDepth 100000 in
/-- Segment.isSingular -/
theorem c_Segment_isSingular (l : Launch) (dC : Nat → ClassId) (dI : Nat → Nat → Nat) (sz : Heap) (cI cV : ClassId) (E lv : Nat → Nat) (L : List Nat) (f : Nat → va_E) (hO : PO cI cV E lv L f) (sg : Nat) (hsg : E sg = 8) : Met l y_Segment_isSingular (k_Segment_isSingular :: gtbl) ({ frames := 0, cells := 0, slots := 0, locals := 0 }) (va_Pc [.ref sg] (mq dC dI ([] ++ va_pl L f) [(cI, .int), (cV, .object "QueryBench$Value")] sz)) (vp_Si (fun (r : Int32) => r = bI (sgG f sg))) 0 0 (fun _ => False) := by
  refine Met.ofW (cc := b_Segment_isSingular) (maxL := 1) (ret := (some .boolean)) (by decide) rfl ?_
  intro p e s m args below meth c s₁ B hml hv
  obtain ⟨rfl, hsz, hP, hK, hN⟩ := hv
  have hx := B.exec
  have hb := B.bytes
  have hr := B.returns
  have hts0 := atoms_spec (ws := k_Segment_isSingular :: gtbl) B.pre
  have hts := fun w h => hts0 w (List.mem_cons_of_mem _ h)
  have hown : s.vm.findClass R_Segment = some m.cls := findClass_of_methodNamed B.named
  have hlocks := B.notSynchronized
  subst hsz
  have hP : va_P (dC, dI) classes ([] ++ va_pl L f) s.heap := hP
  have hl := lv_entry ([.ref sg]) (n := 1) (Nat.le_of_ble_eq_true rfl)
  rw [lg_entry_eq]
  generalize (lg_sl ([.ref sg]) ++ List.replicate (1 - (lg_sl ([.ref sg])).length) Slot.unset).toArray = ls at hl ⊢
  have hl : lv_has ls 1 [(0, .ref sg)] := hl
  refine lv_aload_n hx hb d_Segment_isSingular_0 rfl (lv_at hl 0 rfl) ?_
  obtain ⟨ds1, fi1, nx1, ef1, hv1⟩ := hO.seg hsg
  refine vq_get (D := (dC, dI)) (ci := 6) (v := .int ds1) (C := R_Segment) (T := F_Segment) (N := 3) hx hb hts in_Segment hown hK hP (hO.inL (a := sg) (by rw [hsg]; decide)) ef1 rfl 0 (by decide) (hts _ z_574) (fun _ h9 => h9) rfl d_Segment_isSingular_1 ?_
  refine lv_if_ne (tgt := 42) hx hb d_Segment_isSingular_4 (by decide) (fun c4 => ?_) (fun c4 => ?_)
  · refine lv_iconst (v := 0) hx hb d_Segment_isSingular_42 (by decide) ?_
    have hr9 : (0 : Int32) = bI (sgG f sg) := by unfold sgG; rw [show intE 0 (f sg) = ds1 by rw [ef1]; rfl, decide_eq_false c4]; rfl
    exact W.zret (v := 0) hx hb hr rfl (fun t ht hW => ⟨0, rfl, hr9, ht⟩) (fun _ h => nomatch h) d_Segment_isSingular_43
  · refine lv_aload_n hx hb d_Segment_isSingular_7 rfl (lv_at hl 0 rfl) ?_
    rcases fi1 with _ | b2
    · obtain ⟨_, e9, _⟩ := hv1.1
      cases e9
    · obtain ⟨_, e9, hEb2, hLb2⟩ := hv1.1
      cases e9
      refine vq_get (D := (dC, dI)) (ci := 6) (v := .ref b2) (C := R_Segment) (T := F_Segment) (N := 3) hx hb hts in_Segment hown hK hP (hO.inL (a := sg) (by rw [hsg]; decide)) ef1 rfl 1 (by decide) (hts _ z_577) (fun _ h9 => h9) rfl d_Segment_isSingular_8 ?_
      obtain ⟨kd3, nm3, hs3, ht3, st3, sp3, se3, fl3, nx3, ef3, hv3⟩ := hO.sel hEb2
      rcases nx3 with _ | b4
      · refine vq_get (D := (dC, dI)) (ci := 7) (v := .null) (C := R_Selector) (T := F_Selector) (N := 9) hx hb hts in_Selector hown hK hP (hO.inL (a := b2) (by rw [hEb2]; decide)) ef3 rfl 8 (by decide) (hts _ z_628) (fun _ h9 => h9) rfl d_Segment_isSingular_11 ?_
        refine lv_ifnonnullN hx hb d_Segment_isSingular_14 ?_
        refine lv_aload_n hx hb d_Segment_isSingular_17 rfl (lv_at hl 0 rfl) ?_
        refine vq_get (D := (dC, dI)) (ci := 6) (v := .ref b2) (C := R_Segment) (T := F_Segment) (N := 3) hx hb hts in_Segment hown hK hP (hO.inL (a := sg) (by rw [hsg]; decide)) ef1 rfl 1 (by decide) (hts _ z_577) (fun _ h9 => h9) rfl d_Segment_isSingular_18 ?_
        refine vq_get (D := (dC, dI)) (ci := 7) (v := .int kd3) (C := R_Selector) (T := F_Selector) (N := 9) hx hb hts in_Selector hown hK hP (hO.inL (a := b2) (by rw [hEb2]; decide)) ef3 rfl 0 (by decide) (hts _ z_610) (fun _ h9 => h9) rfl d_Segment_isSingular_21 ?_
        refine lv_if_eq (tgt := 38) hx hb d_Segment_isSingular_24 (by decide) (fun c24 => ?_) (fun c24 => ?_)
        · refine lv_iconst (v := 1) hx hb d_Segment_isSingular_38 (by decide) ?_
          refine lv_goto (tgt := 43) hx hb d_Segment_isSingular_39 (by decide) ?_
          have hr9 : (1 : Int32) = bI (sgG f sg) := by rw [sgG_e ef1, ef3, sgL_e, decide_eq_true c4, decide_eq_true c24]; cases decide (kd3 = 2) <;> rfl
          exact W.zret (v := 1) hx hb hr rfl (fun t ht hW => ⟨1, rfl, hr9, ht⟩) (fun _ h => nomatch h) d_Segment_isSingular_43
        · refine lv_aload_n hx hb d_Segment_isSingular_27 rfl (lv_at hl 0 rfl) ?_
          refine vq_get (D := (dC, dI)) (ci := 6) (v := .ref b2) (C := R_Segment) (T := F_Segment) (N := 3) hx hb hts in_Segment hown hK hP (hO.inL (a := sg) (by rw [hsg]; decide)) ef1 rfl 1 (by decide) (hts _ z_577) (fun _ h9 => h9) rfl d_Segment_isSingular_28 ?_
          refine vq_get (D := (dC, dI)) (ci := 7) (v := .int kd3) (C := R_Selector) (T := F_Selector) (N := 9) hx hb hts in_Selector hown hK hP (hO.inL (a := b2) (by rw [hEb2]; decide)) ef3 rfl 0 (by decide) (hts _ z_610) (fun _ h9 => h9) rfl d_Segment_isSingular_31 ?_
          refine lv_iconst (v := 2) hx hb d_Segment_isSingular_34 (by decide) ?_
          refine lv_icmp_ne (tgt := 42) hx hb d_Segment_isSingular_35 (by decide) (fun c35 => ?_) (fun c35 => ?_)
          · refine lv_iconst (v := 0) hx hb d_Segment_isSingular_42 (by decide) ?_
            have hr9 : (0 : Int32) = bI (sgG f sg) := by rw [sgG_e ef1, ef3, sgL_e, decide_eq_true c4, decide_eq_false c24, decide_eq_false c35]; rfl
            exact W.zret (v := 0) hx hb hr rfl (fun t ht hW => ⟨0, rfl, hr9, ht⟩) (fun _ h => nomatch h) d_Segment_isSingular_43
          · refine lv_iconst (v := 1) hx hb d_Segment_isSingular_38 (by decide) ?_
            refine lv_goto (tgt := 43) hx hb d_Segment_isSingular_39 (by decide) ?_
            have hr9 : (1 : Int32) = bI (sgG f sg) := by rw [sgG_e ef1, ef3, sgL_e, decide_eq_true c4, decide_eq_false c24, decide_eq_true c35]; rfl
            exact W.zret (v := 1) hx hb hr rfl (fun t ht hW => ⟨1, rfl, hr9, ht⟩) (fun _ h => nomatch h) d_Segment_isSingular_43
      · refine vq_get (D := (dC, dI)) (ci := 7) (v := .ref b4) (C := R_Selector) (T := F_Selector) (N := 9) hx hb hts in_Selector hown hK hP (hO.inL (a := b2) (by rw [hEb2]; decide)) ef3 rfl 8 (by decide) (hts _ z_628) (fun _ h9 => h9) rfl d_Segment_isSingular_11 ?_
        refine lv_ifnonnull (tgt := 42) hx hb d_Segment_isSingular_14 (by decide) ?_
        refine lv_iconst (v := 0) hx hb d_Segment_isSingular_42 (by decide) ?_
        have hr9 : (0 : Int32) = bI (sgG f sg) := by rw [sgG_e ef1, ef3, sgL_n]; cases decide (ds1 = 0) <;> rfl
        exact W.zret (v := 0) hx hb hr rfl (fun t ht hW => ⟨0, rfl, hr9, ht⟩) (fun _ h => nomatch h) d_Segment_isSingular_43
