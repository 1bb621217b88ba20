theorem z_53 : (.fieldLink "QueryBench$QueryReader" 25 "QueryBench$Tape" "at" "I" : Cond) ∈ gtbl := gt_in 53 (by decide +kernel) (by decide +kernel)
theorem z_101 : (.fieldLink "QueryBench$QueryReader" 15 "QueryBench$QueryReader" "open" "I" : Cond) ∈ gtbl := gt_in 101 (by decide +kernel) (by decide +kernel)
theorem z_534 : (.methodLink "QueryBench$QueryReader" 19 ⟨"QueryBench$Tape", "here", "()I"⟩ : Cond) ∈ gtbl := gt_in 534 (by decide +kernel) (by decide +kernel)
theorem z_535 : (.methodLink "QueryBench$QueryReader" 28 ⟨"QueryBench$Tape", "fail", "(I)V"⟩ : Cond) ∈ gtbl := gt_in 535 (by decide +kernel) (by decide +kernel)
theorem z_573 : (.methodLink "QueryBench$Segment" 1 ⟨"java/lang/Object", "<init>", "()V"⟩ : Cond) ∈ gtbl := gt_in 573 (by decide +kernel) (by decide +kernel)
theorem z_589 : (.methodLink "QueryBench$QueryReader" 58 ⟨"QueryBench$Tape", "takeIf", "(I)Z"⟩ : Cond) ∈ gtbl := gt_in 589 (by decide +kernel) (by decide +kernel)
theorem z_598 : (.methodLink "QueryBench$QueryReader" 164 ⟨"QueryBench$Tape", "take", "(I)V"⟩ : Cond) ∈ gtbl := gt_in 598 (by decide +kernel) (by decide +kernel)
theorem z_608 : (.methodLink "QueryBench$Selector" 1 ⟨"java/lang/Object", "<init>", "()V"⟩ : Cond) ∈ gtbl := gt_in 608 (by decide +kernel) (by decide +kernel)
theorem z_609 : (.fieldLink "QueryBench$Selector" 13 "QueryBench$Selector" "kind" "I" : Cond) ∈ gtbl := gt_in 609 (by decide +kernel) (by decide +kernel)
theorem z_623 : (.fieldLink "QueryBench$Selector" 7 "QueryBench$Selector" "step" "J" : Cond) ∈ gtbl := gt_in 623 (by decide +kernel) (by decide +kernel)
theorem z_675 : (.methodLink "QueryBench$Condition" 1 ⟨"java/lang/Object", "<init>", "()V"⟩ : Cond) ∈ gtbl := gt_in 675 (by decide +kernel) (by decide +kernel)
theorem z_676 : (.fieldLink "QueryBench$Condition" 7 "QueryBench$Condition" "kind" "I" : Cond) ∈ gtbl := gt_in 676 (by decide +kernel) (by decide +kernel)
theorem z_781 : (.methodLink "QueryBench$QueryReader" 152 ⟨"QueryBench$Tape", "digits", "(I)J"⟩ : Cond) ∈ gtbl := gt_in 781 (by decide +kernel) (by decide +kernel)
theorem nz_780 : (.methodLinkNest "QueryBench$QueryReader" 84 ⟨"QueryBench", "isDigit", "(I)Z"⟩ "QueryBench" : Cond) ∈ nwl := List.mem_filter.mpr ⟨List.mem_append_right _ (List.mem_of_getElem? (i := 780) (by decide +kernel)), rfl⟩
abbrev wi53 (r : Int64) : Prop := -9007199254740992 ≤ r.toInt ∧ r.toInt ≤ 9007199254740992
theorem wi53_pos {r : Int64} (h0 : 0 ≤ r.toInt) (h : r ≤ 9007199254740991) : wi53 r := by
  have h1 := Int64.le_iff_toInt_le.mp h
  rw [show (9007199254740991 : Int64).toInt = 9007199254740991 from rfl] at h1
  constructor <;> omega
theorem wi53_neg {r : Int64} (h0 : 0 ≤ r.toInt) (h : r ≤ 9007199254740991) : wi53 (-r) := by
  have h1 := Int64.le_iff_toInt_le.mp h
  rw [show (9007199254740991 : Int64).toInt = 9007199254740991 from rfl] at h1
  have e : (-r).toInt = -r.toInt := by
    rw [Int64.toInt_neg]
    apply Int.bmod_eq_of_le <;> omega
  unfold wi53
  rw [e]
  constructor <;> omega
abbrev b_Condition_init : ByteArray := prog_2_method_1_code
def y_Condition_init : MethodName := ⟨"QueryBench$Condition", "<init>", "(I)V"⟩
abbrev k_Condition_init : Cond := .code y_Condition_init b_Condition_init 2 none
theorem i_Condition_init : k_Condition_init ∈ gtbl := gt_in 674 (by decide +kernel) (by decide +kernel)
theorem d_Condition_init_0 : decode b_Condition_init 0 = .ok (.aload_n 0, 1) := by decide +kernel
theorem d_Condition_init_1 : decode b_Condition_init 1 = .ok (.invokespecial 1, 3) := by decide +kernel
theorem d_Condition_init_4 : decode b_Condition_init 4 = .ok (.aload_n 0, 1) := by decide +kernel
theorem d_Condition_init_5 : decode b_Condition_init 5 = .ok (.iload_n 1, 1) := by decide +kernel
theorem d_Condition_init_6 : decode b_Condition_init 6 = .ok (.putfield 7, 3) := by decide +kernel
theorem d_Condition_init_9 : decode b_Condition_init 9 = .ok (.return_, 1) := by decide +kernel
set_option maxHeartbeats 4000000 in
set_option maxRecDepth 100000 in
/-- Condition() -/
theorem c_Condition_init (l : Launch) (dC : Nat → ClassId) (dI : Nat → Nat → Nat) (sz : Heap) (q : Nat) (k : Int32) : Met l y_Condition_init (k_Condition_init :: gtbl) ({ frames := 1, cells := 0, slots := 0, locals := 20 }) (va_Pc [.ref q, .int k] (mp dC dI ([(q, .inr (0, [.int 0, .null, .null, .null, .null, .null]))]) [] sz)) (va_Qv (fun (u : Unit) => True) (fun u t9 => mz dC dI ([(q, .inr (0, [.int k, .null, .null, .null, .null, .null]))]) [] (va_A ([(q, .inr (0, [.int 0, .null, .null, .null, .null, .null]))]) sz.size) t9 ∧ szk sz t9.heap (0) (0)) (va_A ([(q, .inr (0, [.int 0, .null, .null, .null, .null, .null]))]) sz.size)) (0) (0) (va_A ([(q, .inr (0, [.int 0, .null, .null, .null, .null, .null]))]) sz.size) := by
  refine Met.ofW (cc := b_Condition_init) (maxL := 2) (ret := none) (by decide) rfl ?_
  intro p e s m args below meth c s₁ B hml hv
  obtain ⟨rfl, hsz, hP, hK, hD0⟩ := hv
  have hx := B.exec
  have hb := B.bytes
  have hr := B.returns
  have hts0 := atoms_spec (ws := k_Condition_init :: gtbl) B.pre
  have hts := fun w h => hts0 w (List.mem_cons_of_mem _ h)
  have hown : s.vm.findClass R_Condition = some m.cls := findClass_of_methodNamed B.named
  have hlocks := B.notSynchronized
  have hin : meth.name = "<init>" := (name_of_methodNamed B.named B.method).1
  subst hsz
  have hD := hD0.self (sz := s.heap.size)
  generalize hAe : va_A ([(q, .inr (0, [.int 0, .null, .null, .null, .null, .null]))]) s.heap.size = A at hD ⊢
  have hA : ∀ q : Nat, s.heap.size ≤ q → A q := fun q h => by rw [← hAe]; exact Or.inr h
  have hS : va_S A s.heap s.heap [] := va_S.rf
  have hP : va_P (dC, dI) classes ([(q, .inr (0, [.int 0, .null, .null, .null, .null, .null]))]) s.heap := hP
  have hl := lv_entry ([.ref q, .int k]) (n := 2) (Nat.le_of_ble_eq_true rfl)
  rw [lg_entry_eq]
  generalize (lg_sl ([.ref q, .int k]) ++ List.replicate (2 - (lg_sl ([.ref q, .int k])).length) Slot.unset).toArray = ls at hl ⊢
  have hl : lv_has ls 2 [(0, .ref q), (1, .int k)] := hl
  refine lv_aload_n hx hb d_Condition_init_0 rfl (lv_at hl 0 rfl) ?_
  refine W.objInit hx hb hown (hts _ z_675) (hts _ w_35) (hts _ w_obj) rfl (by rw [hml]; exact hl.1) rfl d_Condition_init_1 (Nat.le_of_ble_eq_true rfl) (Nat.le_of_ble_eq_true rfl) ?_
  refine W.eq (g2 := F0 m 4 ls []) rfl ?_
  refine lv_aload_n hx hb d_Condition_init_4 rfl (lv_at hl 0 rfl) ?_
  refine lv_iload_n hx hb d_Condition_init_5 rfl (lv_at hl 1 rfl) ?_
  refine va_putF (D := (dC, dI)) (ci := 0) (v := .int k) (ty := .int) (C := R_Condition) (T := F_Condition) (N := 6) hx hb hts in_Condition t_Condition t_Condition_ok n_Condition hown hK hP hD hS 0 rfl rfl 0 (by decide) (hts _ z_676) (fun _ h9 => h9) rfl hin rfl (by decide +kernel) rfl rfl (Nat.le_of_ble_eq_true rfl) d_Condition_init_6 (fun H locs hP hD hS => ?_)
  have hP : va_P (dC, dI) classes ([(q, .inr (0, [.int k, .null, .null, .null, .null, .null]))]) H := hP
  have hD : va_D A ([(q, .inr (0, [.int k, .null, .null, .null, .null, .null]))]) := hD
  refine w_same (fun hq => ?_)
  refine W.widen (k := 0) (n := 0) (Nat.zero_le _) (Nat.zero_le _) ?_
  exact W.vret hx hb hr (fun t9 ht hW => ⟨⟨(), rfl, trivial, ⟨by rw [ht]; exact hP, va_K.moved hW.alike hK, hD⟩, by rw [ht]; exact hq⟩, hS.F ht⟩) hS.2.2 d_Condition_init_9
abbrev b_Selector_init : ByteArray := prog_9_method_1_code
def y_Selector_init : MethodName := ⟨"QueryBench$Selector", "<init>", "(I)V"⟩
abbrev k_Selector_init : Cond := .code y_Selector_init b_Selector_init 2 none
theorem i_Selector_init : k_Selector_init ∈ gtbl := gt_in 607 (by decide +kernel) (by decide +kernel)
theorem d_Selector_init_0 : decode b_Selector_init 0 = .ok (.aload_n 0, 1) := by decide +kernel
theorem d_Selector_init_1 : decode b_Selector_init 1 = .ok (.invokespecial 1, 3) := by decide +kernel
theorem d_Selector_init_4 : decode b_Selector_init 4 = .ok (.aload_n 0, 1) := by decide +kernel
theorem d_Selector_init_5 : decode b_Selector_init 5 = .ok (.lconst 1, 1) := by decide +kernel
theorem d_Selector_init_6 : decode b_Selector_init 6 = .ok (.putfield 7, 3) := by decide +kernel
theorem d_Selector_init_9 : decode b_Selector_init 9 = .ok (.aload_n 0, 1) := by decide +kernel
theorem d_Selector_init_10 : decode b_Selector_init 10 = .ok (.iload_n 1, 1) := by decide +kernel
theorem d_Selector_init_11 : decode b_Selector_init 11 = .ok (.putfield 13, 3) := by decide +kernel
theorem d_Selector_init_14 : decode b_Selector_init 14 = .ok (.return_, 1) := by decide +kernel
set_option maxHeartbeats 4000000 in
set_option maxRecDepth 100000 in
/-- Selector() -/
theorem c_Selector_init (l : Launch) (dC : Nat → ClassId) (dI : Nat → Nat → Nat) (sz : Heap) (q : Nat) (k : Int32) : Met l y_Selector_init (k_Selector_init :: gtbl) ({ frames := 1, cells := 0, slots := 0, locals := 20 }) (va_Pc [.ref q, .int k] (mp dC dI ([(q, .inr (7, [.int 0, .null, .int 0, .int 0, .long 0, .long 0, .long 0, .null, .null]))]) [] sz)) (va_Qv (fun (u : Unit) => True) (fun u t9 => mz dC dI ([(q, .inr (7, [.int k, .null, .int 0, .int 0, .long 0, .long 0, .long 1, .null, .null]))]) [] (va_A ([(q, .inr (7, [.int 0, .null, .int 0, .int 0, .long 0, .long 0, .long 0, .null, .null]))]) sz.size) t9 ∧ szk sz t9.heap (0) (0)) (va_A ([(q, .inr (7, [.int 0, .null, .int 0, .int 0, .long 0, .long 0, .long 0, .null, .null]))]) sz.size)) (0) (0) (va_A ([(q, .inr (7, [.int 0, .null, .int 0, .int 0, .long 0, .long 0, .long 0, .null, .null]))]) sz.size) := by
  refine Met.ofW (cc := b_Selector_init) (maxL := 2) (ret := none) (by decide) rfl ?_
  intro p e s m args below meth c s₁ B hml hv
  obtain ⟨rfl, hsz, hP, hK, hD0⟩ := hv
  have hx := B.exec
  have hb := B.bytes
  have hr := B.returns
  have hts0 := atoms_spec (ws := k_Selector_init :: gtbl) B.pre
  have hts := fun w h => hts0 w (List.mem_cons_of_mem _ h)
  have hown : s.vm.findClass R_Selector = some m.cls := findClass_of_methodNamed B.named
  have hlocks := B.notSynchronized
  have hin : meth.name = "<init>" := (name_of_methodNamed B.named B.method).1
  subst hsz
  have hD := hD0.self (sz := s.heap.size)
  generalize hAe : va_A ([(q, .inr (7, [.int 0, .null, .int 0, .int 0, .long 0, .long 0, .long 0, .null, .null]))]) s.heap.size = A at hD ⊢
  have hA : ∀ q : Nat, s.heap.size ≤ q → A q := fun q h => by rw [← hAe]; exact Or.inr h
  have hS : va_S A s.heap s.heap [] := va_S.rf
  have hP : va_P (dC, dI) classes ([(q, .inr (7, [.int 0, .null, .int 0, .int 0, .long 0, .long 0, .long 0, .null, .null]))]) s.heap := hP
  have hl := lv_entry ([.ref q, .int k]) (n := 2) (Nat.le_of_ble_eq_true rfl)
  rw [lg_entry_eq]
  generalize (lg_sl ([.ref q, .int k]) ++ List.replicate (2 - (lg_sl ([.ref q, .int k])).length) Slot.unset).toArray = ls at hl ⊢
  have hl : lv_has ls 2 [(0, .ref q), (1, .int k)] := hl
  refine lv_aload_n hx hb d_Selector_init_0 rfl (lv_at hl 0 rfl) ?_
  refine W.objInit hx hb hown (hts _ z_608) (hts _ w_35) (hts _ w_obj) rfl (by rw [hml]; exact hl.1) rfl d_Selector_init_1 (Nat.le_of_ble_eq_true rfl) (Nat.le_of_ble_eq_true rfl) ?_
  refine W.eq (g2 := F0 m 4 ls []) rfl ?_
  refine lv_aload_n hx hb d_Selector_init_4 rfl (lv_at hl 0 rfl) ?_
  refine lv_lconst (v := 1) hx hb d_Selector_init_5 (by decide) ?_
  refine va_put (D := (dC, dI)) (ci := 7) (v := .long 1) (ty := .long) (C := R_Selector) (T := F_Selector) (N := 9) hx hb hts in_Selector t_Selector t_Selector_ok n_Selector hown hK hP hD hS 0 rfl rfl 6 (by decide) (hts _ z_623) (fun _ h9 => h9) rfl (by decide +kernel) rfl rfl (Nat.le_of_ble_eq_true rfl) d_Selector_init_6 (fun H locs hP hD hS => ?_)
  have hP : va_P (dC, dI) classes ([(q, .inr (7, [.int 0, .null, .int 0, .int 0, .long 0, .long 0, .long 1, .null, .null]))]) H := hP
  have hD : va_D A ([(q, .inr (7, [.int 0, .null, .int 0, .int 0, .long 0, .long 0, .long 1, .null, .null]))]) := hD
  refine lv_aload_n hx hb d_Selector_init_9 rfl (lv_at hl 0 rfl) ?_
  refine lv_iload_n hx hb d_Selector_init_10 rfl (lv_at hl 1 rfl) ?_
  refine va_put (D := (dC, dI)) (ci := 7) (v := .int k) (ty := .int) (C := R_Selector) (T := F_Selector) (N := 9) hx hb hts in_Selector t_Selector t_Selector_ok n_Selector hown hK hP hD hS 0 rfl rfl 0 (by decide) (hts _ z_609) (fun _ h9 => h9) rfl (by decide +kernel) rfl rfl (Nat.le_of_ble_eq_true rfl) d_Selector_init_11 (fun H locs hP hD hS => ?_)
  have hP : va_P (dC, dI) classes ([(q, .inr (7, [.int k, .null, .int 0, .int 0, .long 0, .long 0, .long 1, .null, .null]))]) H := hP
  have hD : va_D A ([(q, .inr (7, [.int k, .null, .int 0, .int 0, .long 0, .long 0, .long 1, .null, .null]))]) := hD
  refine w_same (fun hq => ?_)
  refine W.widen (k := 0) (n := 0) (Nat.zero_le _) (Nat.zero_le _) ?_
  exact W.vret hx hb hr (fun t9 ht hW => ⟨⟨(), rfl, trivial, ⟨by rw [ht]; exact hP, va_K.moved hW.alike hK, hD⟩, by rw [ht]; exact hq⟩, hS.F ht⟩) hS.2.2 d_Selector_init_14
abbrev b_Segment_init : ByteArray := prog_8_method_1_code
def y_Segment_init : MethodName := ⟨"QueryBench$Segment", "<init>", "()V"⟩
abbrev k_Segment_init : Cond := .code y_Segment_init b_Segment_init 1 none
theorem i_Segment_init : k_Segment_init ∈ gtbl := gt_in 572 (by decide +kernel) (by decide +kernel)
theorem d_Segment_init_0 : decode b_Segment_init 0 = .ok (.aload_n 0, 1) := by decide +kernel
theorem d_Segment_init_1 : decode b_Segment_init 1 = .ok (.invokespecial 1, 3) := by decide +kernel
theorem d_Segment_init_4 : decode b_Segment_init 4 = .ok (.return_, 1) := by decide +kernel
set_option maxHeartbeats 4000000 in
set_option maxRecDepth 100000 in
/-- Segment() -/
theorem c_Segment_init (l : Launch) (dC : Nat → ClassId) (dI : Nat → Nat → Nat) (sz : Heap) (q : Nat)  : Met l y_Segment_init (k_Segment_init :: gtbl) ({ frames := 1, cells := 0, slots := 0, locals := 20 }) (va_Pc [.ref q] (mp dC dI ([(q, .inr (6, [.int 0, .null, .null]))]) [] sz)) (va_Qv (fun (u : Unit) => True) (fun u t9 => mz dC dI ([(q, .inr (6, [.int 0, .null, .null]))]) [] (va_A ([(q, .inr (6, [.int 0, .null, .null]))]) sz.size) t9 ∧ szk sz t9.heap (0) (0)) (va_A ([(q, .inr (6, [.int 0, .null, .null]))]) sz.size)) (0) (0) (va_A ([(q, .inr (6, [.int 0, .null, .null]))]) sz.size) := by
  refine Met.ofW (cc := b_Segment_init) (maxL := 1) (ret := none) (by decide) rfl ?_
  intro p e s m args below meth c s₁ B hml hv
  obtain ⟨rfl, hsz, hP, hK, hD0⟩ := hv
  have hx := B.exec
  have hb := B.bytes
  have hr := B.returns
  have hts0 := atoms_spec (ws := k_Segment_init :: gtbl) B.pre
  have hts := fun w h => hts0 w (List.mem_cons_of_mem _ h)
  have hown : s.vm.findClass R_Segment = some m.cls := findClass_of_methodNamed B.named
  have hlocks := B.notSynchronized
  have hin : meth.name = "<init>" := (name_of_methodNamed B.named B.method).1
  subst hsz
  have hD := hD0.self (sz := s.heap.size)
  generalize hAe : va_A ([(q, .inr (6, [.int 0, .null, .null]))]) s.heap.size = A at hD ⊢
  have hA : ∀ q : Nat, s.heap.size ≤ q → A q := fun q h => by rw [← hAe]; exact Or.inr h
  have hS : va_S A s.heap s.heap [] := va_S.rf
  have hP : va_P (dC, dI) classes ([(q, .inr (6, [.int 0, .null, .null]))]) s.heap := hP
  have hl := lv_entry ([.ref q]) (n := 1) (Nat.le_of_ble_eq_true rfl)
  rw [lg_entry_eq]
  generalize (lg_sl ([.ref q]) ++ List.replicate (1 - (lg_sl ([.ref q])).length) Slot.unset).toArray = ls at hl ⊢
  have hl : lv_has ls 1 [(0, .ref q)] := hl
  refine lv_aload_n hx hb d_Segment_init_0 rfl (lv_at hl 0 rfl) ?_
  refine W.objInit hx hb hown (hts _ z_573) (hts _ w_35) (hts _ w_obj) rfl (by rw [hml]; exact hl.1) rfl d_Segment_init_1 (Nat.le_of_ble_eq_true rfl) (Nat.le_of_ble_eq_true rfl) ?_
  refine W.eq (g2 := F0 m 4 ls []) rfl ?_
  refine w_same (fun hq => ?_)
  refine W.widen (k := 0) (n := 0) (Nat.zero_le _) (Nat.zero_le _) ?_
  exact W.vret hx hb hr (fun t9 ht hW => ⟨⟨(), rfl, trivial, ⟨by rw [ht]; exact hP, va_K.moved hW.alike hK, hD⟩, by rw [ht]; exact hq⟩, hS.F ht⟩) hS.2.2 d_Segment_init_4
abbrev b_QueryReader_isQuote : ByteArray := prog_7_method_26_code
def y_QueryReader_isQuote : MethodName := ⟨"QueryBench$QueryReader", "isQuote", "(I)Z"⟩
abbrev k_QueryReader_isQuote : Cond := .code y_QueryReader_isQuote b_QueryReader_isQuote 1 (some .boolean)
theorem i_QueryReader_isQuote : k_QueryReader_isQuote ∈ gtbl := gt_in 652 (by decide +kernel) (by decide +kernel)
theorem d_QueryReader_isQuote_0 : decode b_QueryReader_isQuote 0 = .ok (.iload_n 0, 1) := by decide +kernel
theorem d_QueryReader_isQuote_1 : decode b_QueryReader_isQuote 1 = .ok (.bipush 39, 2) := by decide +kernel
theorem d_QueryReader_isQuote_3 : decode b_QueryReader_isQuote 3 = .ok (.if_icmp .eq 9, 3) := by decide +kernel
theorem d_QueryReader_isQuote_6 : decode b_QueryReader_isQuote 6 = .ok (.iload_n 0, 1) := by decide +kernel
theorem d_QueryReader_isQuote_7 : decode b_QueryReader_isQuote 7 = .ok (.bipush 34, 2) := by decide +kernel
theorem d_QueryReader_isQuote_9 : decode b_QueryReader_isQuote 9 = .ok (.if_icmp .ne 7, 3) := by decide +kernel
theorem d_QueryReader_isQuote_12 : decode b_QueryReader_isQuote 12 = .ok (.iconst 1, 1) := by decide +kernel
theorem d_QueryReader_isQuote_13 : decode b_QueryReader_isQuote 13 = .ok (.goto 4, 3) := by decide +kernel
theorem d_QueryReader_isQuote_16 : decode b_QueryReader_isQuote 16 = .ok (.iconst 0, 1) := by decide +kernel
theorem d_QueryReader_isQuote_17 : decode b_QueryReader_isQuote 17 = .ok (.ireturn, 1) := by decide +kernel
set_option maxHeartbeats 4000000 in
set_option maxRecDepth 100000 in
/-- QueryReader.isQuote -/
theorem c_QueryReader_isQuote (l : Launch) (dC : Nat → ClassId) (dI : Nat → Nat → Nat) (sz : Heap) (x : Int32) : Met l y_QueryReader_isQuote (k_QueryReader_isQuote :: gtbl) ({ frames := 0, cells := 0, slots := 0, locals := 0 }) (va_Pc [.int x] mT) (vp_Si (fun (r : Int32) => Bo r ∧ ((¬ r = 0 → (x = 39 ∨ x = 34)) ∧ (r = 0 → ¬ (x = 39 ∨ x = 34))))) 0 0 (fun _ => False) := by
  refine Met.ofW (cc := b_QueryReader_isQuote) (maxL := 1) (ret := (some .boolean)) (by decide) rfl ?_
  intro p e s m args below meth c s₁ B hml hv
  obtain ⟨rfl, hN⟩ := hv
  have hx := B.exec
  have hb := B.bytes
  have hr := B.returns
  have hts0 := atoms_spec (ws := k_QueryReader_isQuote :: gtbl) B.pre
  have hts := fun w h => hts0 w (List.mem_cons_of_mem _ h)
  have hown : s.vm.findClass R_QueryReader = some m.cls := findClass_of_methodNamed B.named
  have hlocks := B.notSynchronized
  have hl := lv_entry ([.int x]) (n := 1) (Nat.le_of_ble_eq_true rfl)
  rw [lg_entry_eq]
  generalize (lg_sl ([.int x]) ++ List.replicate (1 - (lg_sl ([.int x])).length) Slot.unset).toArray = ls at hl ⊢
  have hl : lv_has ls 1 [(0, .int x)] := hl
  refine lv_iload_n hx hb d_QueryReader_isQuote_0 rfl (lv_at hl 0 rfl) ?_
  refine lv_bipush (v := 39) hx hb d_QueryReader_isQuote_1 (by decide) ?_
  refine lv_icmp_eq (tgt := 12) hx hb d_QueryReader_isQuote_3 (by decide) (fun c3 => ?_) (fun c3 => ?_)
  · refine lv_iconst (v := 1) hx hb d_QueryReader_isQuote_12 (by decide) ?_
    refine lv_goto (tgt := 17) hx hb d_QueryReader_isQuote_13 (by decide) ?_
    exact W.zret (v := 1) hx hb hr rfl (fun t ht hW => ⟨1, rfl, ⟨Or.inr rfl, fun _ => Or.inl c3, fun h => absurd h (by decide)⟩, ht⟩) (fun _ h => nomatch h) d_QueryReader_isQuote_17
  · refine lv_iload_n hx hb d_QueryReader_isQuote_6 rfl (lv_at hl 0 rfl) ?_
    refine lv_bipush (v := 34) hx hb d_QueryReader_isQuote_7 (by decide) ?_
    refine lv_icmp_ne (tgt := 16) hx hb d_QueryReader_isQuote_9 (by decide) (fun c9 => ?_) (fun c9 => ?_)
    · refine lv_iconst (v := 0) hx hb d_QueryReader_isQuote_16 (by decide) ?_
      exact W.zret (v := 0) hx hb hr rfl (fun t ht hW => ⟨0, rfl, ⟨Or.inl rfl, fun h => absurd rfl h, fun _ q => q.elim c3 c9⟩, ht⟩) (fun _ h => nomatch h) d_QueryReader_isQuote_17
    · refine lv_iconst (v := 1) hx hb d_QueryReader_isQuote_12 (by decide) ?_
      refine lv_goto (tgt := 17) hx hb d_QueryReader_isQuote_13 (by decide) ?_
      exact W.zret (v := 1) hx hb hr rfl (fun t ht hW => ⟨1, rfl, ⟨Or.inr rfl, fun _ => Or.inr c9, fun h => absurd h (by decide)⟩, ht⟩) (fun _ h => nomatch h) d_QueryReader_isQuote_17
abbrev b_QueryReader_beginsQuery : ByteArray := prog_7_method_27_code
def y_QueryReader_beginsQuery : MethodName := ⟨"QueryBench$QueryReader", "beginsQuery", "(I)Z"⟩
abbrev k_QueryReader_beginsQuery : Cond := .code y_QueryReader_beginsQuery b_QueryReader_beginsQuery 1 (some .boolean)
theorem i_QueryReader_beginsQuery : k_QueryReader_beginsQuery ∈ gtbl := gt_in 715 (by decide +kernel) (by decide +kernel)
theorem d_QueryReader_beginsQuery_0 : decode b_QueryReader_beginsQuery 0 = .ok (.iload_n 0, 1) := by decide +kernel
theorem d_QueryReader_beginsQuery_1 : decode b_QueryReader_beginsQuery 1 = .ok (.bipush 64, 2) := by decide +kernel
theorem d_QueryReader_beginsQuery_3 : decode b_QueryReader_beginsQuery 3 = .ok (.if_icmp .eq 9, 3) := by decide +kernel
theorem d_QueryReader_beginsQuery_6 : decode b_QueryReader_beginsQuery 6 = .ok (.iload_n 0, 1) := by decide +kernel
theorem d_QueryReader_beginsQuery_7 : decode b_QueryReader_beginsQuery 7 = .ok (.bipush 36, 2) := by decide +kernel
theorem d_QueryReader_beginsQuery_9 : decode b_QueryReader_beginsQuery 9 = .ok (.if_icmp .ne 7, 3) := by decide +kernel
theorem d_QueryReader_beginsQuery_12 : decode b_QueryReader_beginsQuery 12 = .ok (.iconst 1, 1) := by decide +kernel
theorem d_QueryReader_beginsQuery_13 : decode b_QueryReader_beginsQuery 13 = .ok (.goto 4, 3) := by decide +kernel
theorem d_QueryReader_beginsQuery_16 : decode b_QueryReader_beginsQuery 16 = .ok (.iconst 0, 1) := by decide +kernel
theorem d_QueryReader_beginsQuery_17 : decode b_QueryReader_beginsQuery 17 = .ok (.ireturn, 1) := by decide +kernel
set_option maxHeartbeats 4000000 in
set_option maxRecDepth 100000 in
/-- QueryReader.beginsQuery -/
theorem c_QueryReader_beginsQuery (l : Launch) (dC : Nat → ClassId) (dI : Nat → Nat → Nat) (sz : Heap) (x : Int32) : Met l y_QueryReader_beginsQuery (k_QueryReader_beginsQuery :: gtbl) ({ frames := 0, cells := 0, slots := 0, locals := 0 }) (va_Pc [.int x] mT) (vp_Si (fun (r : Int32) => Bo r ∧ ((¬ r = 0 → (x = 64 ∨ x = 36)) ∧ (r = 0 → ¬ (x = 64 ∨ x = 36))))) 0 0 (fun _ => False) := by
  refine Met.ofW (cc := b_QueryReader_beginsQuery) (maxL := 1) (ret := (some .boolean)) (by decide) rfl ?_
  intro p e s m args below meth c s₁ B hml hv
  obtain ⟨rfl, hN⟩ := hv
  have hx := B.exec
  have hb := B.bytes
  have hr := B.returns
  have hts0 := atoms_spec (ws := k_QueryReader_beginsQuery :: gtbl) B.pre
  have hts := fun w h => hts0 w (List.mem_cons_of_mem _ h)
  have hown : s.vm.findClass R_QueryReader = some m.cls := findClass_of_methodNamed B.named
  have hlocks := B.notSynchronized
  have hl := lv_entry ([.int x]) (n := 1) (Nat.le_of_ble_eq_true rfl)
  rw [lg_entry_eq]
  generalize (lg_sl ([.int x]) ++ List.replicate (1 - (lg_sl ([.int x])).length) Slot.unset).toArray = ls at hl ⊢
  have hl : lv_has ls 1 [(0, .int x)] := hl
  refine lv_iload_n hx hb d_QueryReader_beginsQuery_0 rfl (lv_at hl 0 rfl) ?_
  refine lv_bipush (v := 64) hx hb d_QueryReader_beginsQuery_1 (by decide) ?_
  refine lv_icmp_eq (tgt := 12) hx hb d_QueryReader_beginsQuery_3 (by decide) (fun c3 => ?_) (fun c3 => ?_)
  · refine lv_iconst (v := 1) hx hb d_QueryReader_beginsQuery_12 (by decide) ?_
    refine lv_goto (tgt := 17) hx hb d_QueryReader_beginsQuery_13 (by decide) ?_
    exact W.zret (v := 1) hx hb hr rfl (fun t ht hW => ⟨1, rfl, ⟨Or.inr rfl, fun _ => Or.inl c3, fun h => absurd h (by decide)⟩, ht⟩) (fun _ h => nomatch h) d_QueryReader_beginsQuery_17
  · refine lv_iload_n hx hb d_QueryReader_beginsQuery_6 rfl (lv_at hl 0 rfl) ?_
    refine lv_bipush (v := 36) hx hb d_QueryReader_beginsQuery_7 (by decide) ?_
    refine lv_icmp_ne (tgt := 16) hx hb d_QueryReader_beginsQuery_9 (by decide) (fun c9 => ?_) (fun c9 => ?_)
    · refine lv_iconst (v := 0) hx hb d_QueryReader_beginsQuery_16 (by decide) ?_
      exact W.zret (v := 0) hx hb hr rfl (fun t ht hW => ⟨0, rfl, ⟨Or.inl rfl, fun h => absurd rfl h, fun _ q => q.elim c3 c9⟩, ht⟩) (fun _ h => nomatch h) d_QueryReader_beginsQuery_17
    · refine lv_iconst (v := 1) hx hb d_QueryReader_beginsQuery_12 (by decide) ?_
      refine lv_goto (tgt := 17) hx hb d_QueryReader_beginsQuery_13 (by decide) ?_
      exact W.zret (v := 1) hx hb hr rfl (fun t ht hW => ⟨1, rfl, ⟨Or.inr rfl, fun _ => Or.inr c9, fun h => absurd h (by decide)⟩, ht⟩) (fun _ h => nomatch h) d_QueryReader_beginsQuery_17
set_option maxHeartbeats 4000000 in
set_option maxRecDepth 100000 in
/-- QueryBench.isDigit: what it says -/
theorem g_QB_isDigit (l : Launch) (dC : Nat → ClassId) (dI : Nat → Nat → Nat) (sz : Heap) (x : Int32) : Met l y_QB_isDigit (k_QB_isDigit :: gtbl) ({ frames := 0, cells := 0, slots := 0, locals := 0 }) (va_Pc [.int x] mT) (vp_Si (fun (r : Int32) => Bo r ∧ ((¬ r = 0 → digH x) ∧ (r = 0 → ¬ digH x)))) 0 0 (fun _ => False) := by
  refine Met.ofW (cc := b_QB_isDigit) (maxL := 1) (ret := (some .boolean)) (by decide) rfl ?_
  intro p e s m args below meth c s₁ B hml hv
  obtain ⟨rfl, hN⟩ := hv
  have hx := B.exec
  have hb := B.bytes
  have hr := B.returns
  have hts0 := atoms_spec (ws := k_QB_isDigit :: gtbl) B.pre
  have hts := fun w h => hts0 w (List.mem_cons_of_mem _ h)
  have hown : s.vm.findClass R_QB = some m.cls := findClass_of_methodNamed B.named
  have hlocks := B.notSynchronized
  have hl := lv_entry ([.int x]) (n := 1) (Nat.le_of_ble_eq_true rfl)
  rw [lg_entry_eq]
  generalize (lg_sl ([.int x]) ++ List.replicate (1 - (lg_sl ([.int x])).length) Slot.unset).toArray = ls at hl ⊢
  have hl : lv_has ls 1 [(0, .int x)] := hl
  refine lv_iload_n hx hb d_QB_isDigit_0 rfl (lv_at hl 0 rfl) ?_
  refine lv_bipush (v := 48) hx hb d_QB_isDigit_1 (by decide) ?_
  refine lv_icmp_lt (tgt := 16) hx hb d_QB_isDigit_3 (by decide) (fun c3 => ?_) (fun c3 => ?_)
  · refine lv_iconst (v := 0) hx hb d_QB_isDigit_16 (by decide) ?_
    exact W.zret (v := 0) hx hb hr rfl (fun t ht hW => ⟨0, rfl, ⟨Or.inl rfl, fun h => absurd rfl h, fun _ q => absurd c3 (Int32.not_lt.mpr q.1)⟩, ht⟩) (fun _ h => nomatch h) d_QB_isDigit_17
  · refine lv_iload_n hx hb d_QB_isDigit_6 rfl (lv_at hl 0 rfl) ?_
    refine lv_bipush (v := 57) hx hb d_QB_isDigit_7 (by decide) ?_
    refine lv_icmp_gt (tgt := 16) hx hb d_QB_isDigit_9 (by decide) (fun c9 => ?_) (fun c9 => ?_)
    · refine lv_iconst (v := 0) hx hb d_QB_isDigit_16 (by decide) ?_
      exact W.zret (v := 0) hx hb hr rfl (fun t ht hW => ⟨0, rfl, ⟨Or.inl rfl, fun h => absurd rfl h, fun _ q => absurd c9 (Int32.not_lt.mpr q.2)⟩, ht⟩) (fun _ h => nomatch h) d_QB_isDigit_17
    · refine lv_iconst (v := 1) hx hb d_QB_isDigit_12 (by decide) ?_
      refine lv_goto (tgt := 17) hx hb d_QB_isDigit_13 (by decide) ?_
      exact W.zret (v := 1) hx hb hr rfl (fun t ht hW => ⟨1, rfl, ⟨Or.inr rfl, fun _ => ⟨Int32.not_lt.mp c3, Int32.not_lt.mp c9⟩, fun h => absurd h (by decide)⟩, ht⟩) (fun _ h => nomatch h) d_QB_isDigit_17
abbrev b_QueryReader_isNameByte : ByteArray := prog_7_method_6_code
def y_QueryReader_isNameByte : MethodName := ⟨"QueryBench$QueryReader", "isNameByte", "(I)Z"⟩
abbrev k_QueryReader_isNameByte : Cond := .code y_QueryReader_isNameByte b_QueryReader_isNameByte 1 (some .boolean)
theorem i_QueryReader_isNameByte : k_QueryReader_isNameByte ∈ gtbl := gt_in 795 (by decide +kernel) (by decide +kernel)
theorem d_QueryReader_isNameByte_0 : decode b_QueryReader_isNameByte 0 = .ok (.iload_n 0, 1) := by decide +kernel
theorem d_QueryReader_isNameByte_1 : decode b_QueryReader_isNameByte 1 = .ok (.bipush 97, 2) := by decide +kernel
theorem d_QueryReader_isNameByte_3 : decode b_QueryReader_isNameByte 3 = .ok (.if_icmp .lt 9, 3) := by decide +kernel
theorem d_QueryReader_isNameByte_6 : decode b_QueryReader_isNameByte 6 = .ok (.iload_n 0, 1) := by decide +kernel
theorem d_QueryReader_isNameByte_7 : decode b_QueryReader_isNameByte 7 = .ok (.bipush 122, 2) := by decide +kernel
theorem d_QueryReader_isNameByte_9 : decode b_QueryReader_isNameByte 9 = .ok (.if_icmp .le 28, 3) := by decide +kernel
theorem d_QueryReader_isNameByte_12 : decode b_QueryReader_isNameByte 12 = .ok (.iload_n 0, 1) := by decide +kernel
theorem d_QueryReader_isNameByte_13 : decode b_QueryReader_isNameByte 13 = .ok (.bipush 65, 2) := by decide +kernel
theorem d_QueryReader_isNameByte_15 : decode b_QueryReader_isNameByte 15 = .ok (.if_icmp .lt 9, 3) := by decide +kernel
theorem d_QueryReader_isNameByte_18 : decode b_QueryReader_isNameByte 18 = .ok (.iload_n 0, 1) := by decide +kernel
theorem d_QueryReader_isNameByte_19 : decode b_QueryReader_isNameByte 19 = .ok (.bipush 90, 2) := by decide +kernel
theorem d_QueryReader_isNameByte_21 : decode b_QueryReader_isNameByte 21 = .ok (.if_icmp .le 16, 3) := by decide +kernel
theorem d_QueryReader_isNameByte_24 : decode b_QueryReader_isNameByte 24 = .ok (.iload_n 0, 1) := by decide +kernel
theorem d_QueryReader_isNameByte_25 : decode b_QueryReader_isNameByte 25 = .ok (.bipush 95, 2) := by decide +kernel
theorem d_QueryReader_isNameByte_27 : decode b_QueryReader_isNameByte 27 = .ok (.if_icmp .eq 10, 3) := by decide +kernel
theorem d_QueryReader_isNameByte_30 : decode b_QueryReader_isNameByte 30 = .ok (.iload_n 0, 1) := by decide +kernel
theorem d_QueryReader_isNameByte_31 : decode b_QueryReader_isNameByte 31 = .ok (.invokestatic 84, 3) := by decide +kernel
theorem d_QueryReader_isNameByte_34 : decode b_QueryReader_isNameByte 34 = .ok (.ifCond .eq 7, 3) := by decide +kernel
theorem d_QueryReader_isNameByte_37 : decode b_QueryReader_isNameByte 37 = .ok (.iconst 1, 1) := by decide +kernel
theorem d_QueryReader_isNameByte_38 : decode b_QueryReader_isNameByte 38 = .ok (.goto 4, 3) := by decide +kernel
theorem d_QueryReader_isNameByte_41 : decode b_QueryReader_isNameByte 41 = .ok (.iconst 0, 1) := by decide +kernel
theorem d_QueryReader_isNameByte_42 : decode b_QueryReader_isNameByte 42 = .ok (.ireturn, 1) := by decide +kernel
set_option maxHeartbeats 4000000 in
set_option maxRecDepth 100000 in
/-- QueryReader.isNameByte -/
theorem c_QueryReader_isNameByte (l : Launch) (dC : Nat → ClassId) (dI : Nat → Nat → Nat) (sz : Heap) (x : Int32) : Met l y_QueryReader_isNameByte (k_QueryReader_isNameByte :: gtbl) ({ frames := 1, cells := 0, slots := 0, locals := 40 }) (va_Pc [.int x] mT) (vp_Si (fun (r : Int32) => Bo r ∧ ((¬ r = 0 → letH x ∨ digH x) ∧ (r = 0 → ¬ (letH x ∨ digH x))))) 0 0 (fun _ => False) := by
  refine Met.ofW (cc := b_QueryReader_isNameByte) (maxL := 1) (ret := (some .boolean)) (by decide) rfl ?_
  intro p e s m args below meth c s₁ B hml hv
  obtain ⟨rfl, hN⟩ := hv
  have hx := B.exec
  have hb := B.bytes
  have hr := B.returns
  have hts0 := atoms_spec (ws := k_QueryReader_isNameByte :: gtbl) B.pre
  have hts := fun w h => hts0 w (List.mem_cons_of_mem _ h)
  have hown : s.vm.findClass R_QueryReader = some m.cls := findClass_of_methodNamed B.named
  have hlocks := B.notSynchronized
  have hl := lv_entry ([.int x]) (n := 1) (Nat.le_of_ble_eq_true rfl)
  rw [lg_entry_eq]
  generalize (lg_sl ([.int x]) ++ List.replicate (1 - (lg_sl ([.int x])).length) Slot.unset).toArray = ls at hl ⊢
  have hl : lv_has ls 1 [(0, .int x)] := hl
  refine lv_iload_n hx hb d_QueryReader_isNameByte_0 rfl (lv_at hl 0 rfl) ?_
  refine lv_bipush (v := 97) hx hb d_QueryReader_isNameByte_1 (by decide) ?_
  refine lv_icmp_lt (tgt := 12) hx hb d_QueryReader_isNameByte_3 (by decide) (fun c3 => ?_) (fun c3 => ?_)
  · refine lv_iload_n hx hb d_QueryReader_isNameByte_12 rfl (lv_at hl 0 rfl) ?_
    refine lv_bipush (v := 65) hx hb d_QueryReader_isNameByte_13 (by decide) ?_
    refine lv_icmp_lt (tgt := 24) hx hb d_QueryReader_isNameByte_15 (by decide) (fun c15 => ?_) (fun c15 => ?_)
    · refine lv_iload_n hx hb d_QueryReader_isNameByte_24 rfl (lv_at hl 0 rfl) ?_
      refine lv_bipush (v := 95) hx hb d_QueryReader_isNameByte_25 (by decide) ?_
      refine lv_icmp_eq (tgt := 37) hx hb d_QueryReader_isNameByte_27 (by decide) (fun c27 => ?_) (fun c27 => ?_)
      · refine lv_iconst (v := 1) hx hb d_QueryReader_isNameByte_37 (by decide) ?_
        refine lv_goto (tgt := 42) hx hb d_QueryReader_isNameByte_38 (by decide) ?_
        exact W.zret (v := 1) hx hb hr rfl (fun t ht hW => ⟨1, rfl, ⟨Or.inr rfl, fun _ => Or.inl (Or.inr (Or.inr c27)), fun h => absurd h (by decide)⟩, ht⟩) (fun _ h => nomatch h) d_QueryReader_isNameByte_42
      · refine lv_iload_n hx hb d_QueryReader_isNameByte_30 rfl (lv_at hl 0 rfl) ?_
        refine vp_callSi (va_Run.run (va_runSN (As := [.int x]) (rest := []) ⟨hx, hb, hml, hown, hts⟩ (g_QB_isDigit l dC dI s.heap x) (⟨va_cnB (host := "QueryBench") 1 hts (gt_code i_QB_isDigit) rfl rfl rfl (hN _ nz_780) (hts _ w_1) (by decide +kernel) ⟨Nat.le_of_ble_eq_true rfl, Nat.le_of_ble_eq_true rfl⟩, hts _ w_510, trivial⟩) ⟨mT_blind, fun U hU hW => ⟨rfl, hN.warm hW⟩⟩ rfl rfl hl.1 rfl (lv_room (Nat.le_of_ble_eq_true rfl)) d_QueryReader_isNameByte_31 ⟨Nat.le_of_ble_eq_true rfl, Nat.le_of_ble_eq_true rfl⟩)) (fun r1 h_r1 => ?_)
        refine lv_if_eq (tgt := 41) hx hb d_QueryReader_isNameByte_34 (by decide) (fun c34 => ?_) (fun c34 => ?_)
        · refine lv_iconst (v := 0) hx hb d_QueryReader_isNameByte_41 (by decide) ?_
          exact W.zret (v := 0) hx hb hr rfl (fun t ht hW => ⟨0, rfl, ⟨Or.inl rfl, fun h => absurd rfl h, fun _ q => by rcases q with (q | q | q) | q; (· exact q.1 c3); (· exact q.1 c15); (· exact c27 q); (· exact h_r1.2.2 c34 q)⟩, ht⟩) (fun _ h => nomatch h) d_QueryReader_isNameByte_42
        · refine lv_iconst (v := 1) hx hb d_QueryReader_isNameByte_37 (by decide) ?_
          refine lv_goto (tgt := 42) hx hb d_QueryReader_isNameByte_38 (by decide) ?_
          exact W.zret (v := 1) hx hb hr rfl (fun t ht hW => ⟨1, rfl, ⟨Or.inr rfl, fun _ => Or.inr (h_r1.2.1 c34), fun h => absurd h (by decide)⟩, ht⟩) (fun _ h => nomatch h) d_QueryReader_isNameByte_42
    · refine lv_iload_n hx hb d_QueryReader_isNameByte_18 rfl (lv_at hl 0 rfl) ?_
      refine lv_bipush (v := 90) hx hb d_QueryReader_isNameByte_19 (by decide) ?_
      refine lv_icmp_le (tgt := 37) hx hb d_QueryReader_isNameByte_21 (by decide) (fun c21 => ?_) (fun c21 => ?_)
      · refine lv_iconst (v := 1) hx hb d_QueryReader_isNameByte_37 (by decide) ?_
        refine lv_goto (tgt := 42) hx hb d_QueryReader_isNameByte_38 (by decide) ?_
        exact W.zret (v := 1) hx hb hr rfl (fun t ht hW => ⟨1, rfl, ⟨Or.inr rfl, fun _ => Or.inl (Or.inr (Or.inl ⟨c15, c21⟩)), fun h => absurd h (by decide)⟩, ht⟩) (fun _ h => nomatch h) d_QueryReader_isNameByte_42
      · refine lv_iload_n hx hb d_QueryReader_isNameByte_24 rfl (lv_at hl 0 rfl) ?_
        refine lv_bipush (v := 95) hx hb d_QueryReader_isNameByte_25 (by decide) ?_
        refine lv_icmp_eq (tgt := 37) hx hb d_QueryReader_isNameByte_27 (by decide) (fun c27 => ?_) (fun c27 => ?_)
        · refine lv_iconst (v := 1) hx hb d_QueryReader_isNameByte_37 (by decide) ?_
          refine lv_goto (tgt := 42) hx hb d_QueryReader_isNameByte_38 (by decide) ?_
          exact W.zret (v := 1) hx hb hr rfl (fun t ht hW => ⟨1, rfl, ⟨Or.inr rfl, fun _ => Or.inl (Or.inr (Or.inr c27)), fun h => absurd h (by decide)⟩, ht⟩) (fun _ h => nomatch h) d_QueryReader_isNameByte_42
        · refine lv_iload_n hx hb d_QueryReader_isNameByte_30 rfl (lv_at hl 0 rfl) ?_
          refine vp_callSi (va_Run.run (va_runSN (As := [.int x]) (rest := []) ⟨hx, hb, hml, hown, hts⟩ (g_QB_isDigit l dC dI s.heap x) (⟨va_cnB (host := "QueryBench") 1 hts (gt_code i_QB_isDigit) rfl rfl rfl (hN _ nz_780) (hts _ w_1) (by decide +kernel) ⟨Nat.le_of_ble_eq_true rfl, Nat.le_of_ble_eq_true rfl⟩, hts _ w_510, trivial⟩) ⟨mT_blind, fun U hU hW => ⟨rfl, hN.warm hW⟩⟩ rfl rfl hl.1 rfl (lv_room (Nat.le_of_ble_eq_true rfl)) d_QueryReader_isNameByte_31 ⟨Nat.le_of_ble_eq_true rfl, Nat.le_of_ble_eq_true rfl⟩)) (fun r2 h_r2 => ?_)
          refine lv_if_eq (tgt := 41) hx hb d_QueryReader_isNameByte_34 (by decide) (fun c34 => ?_) (fun c34 => ?_)
          · refine lv_iconst (v := 0) hx hb d_QueryReader_isNameByte_41 (by decide) ?_
            exact W.zret (v := 0) hx hb hr rfl (fun t ht hW => ⟨0, rfl, ⟨Or.inl rfl, fun h => absurd rfl h, fun _ q => by rcases q with (q | q | q) | q; (· exact q.1 c3); (· exact c21 q.2); (· exact c27 q); (· exact h_r2.2.2 c34 q)⟩, ht⟩) (fun _ h => nomatch h) d_QueryReader_isNameByte_42
          · refine lv_iconst (v := 1) hx hb d_QueryReader_isNameByte_37 (by decide) ?_
            refine lv_goto (tgt := 42) hx hb d_QueryReader_isNameByte_38 (by decide) ?_
            exact W.zret (v := 1) hx hb hr rfl (fun t ht hW => ⟨1, rfl, ⟨Or.inr rfl, fun _ => Or.inr (h_r2.2.1 c34), fun h => absurd h (by decide)⟩, ht⟩) (fun _ h => nomatch h) d_QueryReader_isNameByte_42
  · refine lv_iload_n hx hb d_QueryReader_isNameByte_6 rfl (lv_at hl 0 rfl) ?_
    refine lv_bipush (v := 122) hx hb d_QueryReader_isNameByte_7 (by decide) ?_
    refine lv_icmp_le (tgt := 37) hx hb d_QueryReader_isNameByte_9 (by decide) (fun c9 => ?_) (fun c9 => ?_)
    · refine lv_iconst (v := 1) hx hb d_QueryReader_isNameByte_37 (by decide) ?_
      refine lv_goto (tgt := 42) hx hb d_QueryReader_isNameByte_38 (by decide) ?_
      exact W.zret (v := 1) hx hb hr rfl (fun t ht hW => ⟨1, rfl, ⟨Or.inr rfl, fun _ => Or.inl (Or.inl ⟨c3, c9⟩), fun h => absurd h (by decide)⟩, ht⟩) (fun _ h => nomatch h) d_QueryReader_isNameByte_42
    · refine lv_iload_n hx hb d_QueryReader_isNameByte_12 rfl (lv_at hl 0 rfl) ?_
      refine lv_bipush (v := 65) hx hb d_QueryReader_isNameByte_13 (by decide) ?_
      refine lv_icmp_lt (tgt := 24) hx hb d_QueryReader_isNameByte_15 (by decide) (fun c15 => ?_) (fun c15 => ?_)
      · refine lv_iload_n hx hb d_QueryReader_isNameByte_24 rfl (lv_at hl 0 rfl) ?_
        refine lv_bipush (v := 95) hx hb d_QueryReader_isNameByte_25 (by decide) ?_
        refine lv_icmp_eq (tgt := 37) hx hb d_QueryReader_isNameByte_27 (by decide) (fun c27 => ?_) (fun c27 => ?_)
        · refine lv_iconst (v := 1) hx hb d_QueryReader_isNameByte_37 (by decide) ?_
          refine lv_goto (tgt := 42) hx hb d_QueryReader_isNameByte_38 (by decide) ?_
          exact W.zret (v := 1) hx hb hr rfl (fun t ht hW => ⟨1, rfl, ⟨Or.inr rfl, fun _ => Or.inl (Or.inr (Or.inr c27)), fun h => absurd h (by decide)⟩, ht⟩) (fun _ h => nomatch h) d_QueryReader_isNameByte_42
        · refine lv_iload_n hx hb d_QueryReader_isNameByte_30 rfl (lv_at hl 0 rfl) ?_
          refine vp_callSi (va_Run.run (va_runSN (As := [.int x]) (rest := []) ⟨hx, hb, hml, hown, hts⟩ (g_QB_isDigit l dC dI s.heap x) (⟨va_cnB (host := "QueryBench") 1 hts (gt_code i_QB_isDigit) rfl rfl rfl (hN _ nz_780) (hts _ w_1) (by decide +kernel) ⟨Nat.le_of_ble_eq_true rfl, Nat.le_of_ble_eq_true rfl⟩, hts _ w_510, trivial⟩) ⟨mT_blind, fun U hU hW => ⟨rfl, hN.warm hW⟩⟩ rfl rfl hl.1 rfl (lv_room (Nat.le_of_ble_eq_true rfl)) d_QueryReader_isNameByte_31 ⟨Nat.le_of_ble_eq_true rfl, Nat.le_of_ble_eq_true rfl⟩)) (fun r3 h_r3 => ?_)
          refine lv_if_eq (tgt := 41) hx hb d_QueryReader_isNameByte_34 (by decide) (fun c34 => ?_) (fun c34 => ?_)
          · refine lv_iconst (v := 0) hx hb d_QueryReader_isNameByte_41 (by decide) ?_
            exact W.zret (v := 0) hx hb hr rfl (fun t ht hW => ⟨0, rfl, ⟨Or.inl rfl, fun h => absurd rfl h, fun _ q => by rcases q with (q | q | q) | q; (· exact c9 q.2); (· exact q.1 c15); (· exact c27 q); (· exact h_r3.2.2 c34 q)⟩, ht⟩) (fun _ h => nomatch h) d_QueryReader_isNameByte_42
          · refine lv_iconst (v := 1) hx hb d_QueryReader_isNameByte_37 (by decide) ?_
            refine lv_goto (tgt := 42) hx hb d_QueryReader_isNameByte_38 (by decide) ?_
            exact W.zret (v := 1) hx hb hr rfl (fun t ht hW => ⟨1, rfl, ⟨Or.inr rfl, fun _ => Or.inr (h_r3.2.1 c34), fun h => absurd h (by decide)⟩, ht⟩) (fun _ h => nomatch h) d_QueryReader_isNameByte_42
      · refine lv_iload_n hx hb d_QueryReader_isNameByte_18 rfl (lv_at hl 0 rfl) ?_
        refine lv_bipush (v := 90) hx hb d_QueryReader_isNameByte_19 (by decide) ?_
        refine lv_icmp_le (tgt := 37) hx hb d_QueryReader_isNameByte_21 (by decide) (fun c21 => ?_) (fun c21 => ?_)
        · refine lv_iconst (v := 1) hx hb d_QueryReader_isNameByte_37 (by decide) ?_
          refine lv_goto (tgt := 42) hx hb d_QueryReader_isNameByte_38 (by decide) ?_
          exact W.zret (v := 1) hx hb hr rfl (fun t ht hW => ⟨1, rfl, ⟨Or.inr rfl, fun _ => Or.inl (Or.inr (Or.inl ⟨c15, c21⟩)), fun h => absurd h (by decide)⟩, ht⟩) (fun _ h => nomatch h) d_QueryReader_isNameByte_42
        · refine lv_iload_n hx hb d_QueryReader_isNameByte_24 rfl (lv_at hl 0 rfl) ?_
          refine lv_bipush (v := 95) hx hb d_QueryReader_isNameByte_25 (by decide) ?_
          refine lv_icmp_eq (tgt := 37) hx hb d_QueryReader_isNameByte_27 (by decide) (fun c27 => ?_) (fun c27 => ?_)
          · refine lv_iconst (v := 1) hx hb d_QueryReader_isNameByte_37 (by decide) ?_
            refine lv_goto (tgt := 42) hx hb d_QueryReader_isNameByte_38 (by decide) ?_
            exact W.zret (v := 1) hx hb hr rfl (fun t ht hW => ⟨1, rfl, ⟨Or.inr rfl, fun _ => Or.inl (Or.inr (Or.inr c27)), fun h => absurd h (by decide)⟩, ht⟩) (fun _ h => nomatch h) d_QueryReader_isNameByte_42
          · refine lv_iload_n hx hb d_QueryReader_isNameByte_30 rfl (lv_at hl 0 rfl) ?_
            refine vp_callSi (va_Run.run (va_runSN (As := [.int x]) (rest := []) ⟨hx, hb, hml, hown, hts⟩ (g_QB_isDigit l dC dI s.heap x) (⟨va_cnB (host := "QueryBench") 1 hts (gt_code i_QB_isDigit) rfl rfl rfl (hN _ nz_780) (hts _ w_1) (by decide +kernel) ⟨Nat.le_of_ble_eq_true rfl, Nat.le_of_ble_eq_true rfl⟩, hts _ w_510, trivial⟩) ⟨mT_blind, fun U hU hW => ⟨rfl, hN.warm hW⟩⟩ rfl rfl hl.1 rfl (lv_room (Nat.le_of_ble_eq_true rfl)) d_QueryReader_isNameByte_31 ⟨Nat.le_of_ble_eq_true rfl, Nat.le_of_ble_eq_true rfl⟩)) (fun r4 h_r4 => ?_)
            refine lv_if_eq (tgt := 41) hx hb d_QueryReader_isNameByte_34 (by decide) (fun c34 => ?_) (fun c34 => ?_)
            · refine lv_iconst (v := 0) hx hb d_QueryReader_isNameByte_41 (by decide) ?_
              exact W.zret (v := 0) hx hb hr rfl (fun t ht hW => ⟨0, rfl, ⟨Or.inl rfl, fun h => absurd rfl h, fun _ q => by rcases q with (q | q | q) | q; (· exact c9 q.2); (· exact c21 q.2); (· exact c27 q); (· exact h_r4.2.2 c34 q)⟩, ht⟩) (fun _ h => nomatch h) d_QueryReader_isNameByte_42
            · refine lv_iconst (v := 1) hx hb d_QueryReader_isNameByte_37 (by decide) ?_
              refine lv_goto (tgt := 42) hx hb d_QueryReader_isNameByte_38 (by decide) ?_
              exact W.zret (v := 1) hx hb hr rfl (fun t ht hW => ⟨1, rfl, ⟨Or.inr rfl, fun _ => Or.inr (h_r4.2.1 c34), fun h => absurd h (by decide)⟩, ht⟩) (fun _ h => nomatch h) d_QueryReader_isNameByte_42
abbrev b_QueryReader_beginsInteger : ByteArray := prog_7_method_28_code
def y_QueryReader_beginsInteger : MethodName := ⟨"QueryBench$QueryReader", "beginsInteger", "(I)Z"⟩
abbrev k_QueryReader_beginsInteger : Cond := .code y_QueryReader_beginsInteger b_QueryReader_beginsInteger 1 (some .boolean)
theorem i_QueryReader_beginsInteger : k_QueryReader_beginsInteger ∈ gtbl := gt_in 788 (by decide +kernel) (by decide +kernel)
theorem d_QueryReader_beginsInteger_0 : decode b_QueryReader_beginsInteger 0 = .ok (.iload_n 0, 1) := by decide +kernel
theorem d_QueryReader_beginsInteger_1 : decode b_QueryReader_beginsInteger 1 = .ok (.bipush 45, 2) := by decide +kernel
theorem d_QueryReader_beginsInteger_3 : decode b_QueryReader_beginsInteger 3 = .ok (.if_icmp .eq 10, 3) := by decide +kernel
theorem d_QueryReader_beginsInteger_6 : decode b_QueryReader_beginsInteger 6 = .ok (.iload_n 0, 1) := by decide +kernel
theorem d_QueryReader_beginsInteger_7 : decode b_QueryReader_beginsInteger 7 = .ok (.invokestatic 84, 3) := by decide +kernel
theorem d_QueryReader_beginsInteger_10 : decode b_QueryReader_beginsInteger 10 = .ok (.ifCond .eq 7, 3) := by decide +kernel
theorem d_QueryReader_beginsInteger_13 : decode b_QueryReader_beginsInteger 13 = .ok (.iconst 1, 1) := by decide +kernel
theorem d_QueryReader_beginsInteger_14 : decode b_QueryReader_beginsInteger 14 = .ok (.goto 4, 3) := by decide +kernel
theorem d_QueryReader_beginsInteger_17 : decode b_QueryReader_beginsInteger 17 = .ok (.iconst 0, 1) := by decide +kernel
theorem d_QueryReader_beginsInteger_18 : decode b_QueryReader_beginsInteger 18 = .ok (.ireturn, 1) := by decide +kernel
set_option maxHeartbeats 4000000 in
set_option maxRecDepth 100000 in
/-- QueryReader.beginsInteger -/
theorem c_QueryReader_beginsInteger (l : Launch) (dC : Nat → ClassId) (dI : Nat → Nat → Nat) (sz : Heap) (x : Int32) : Met l y_QueryReader_beginsInteger (k_QueryReader_beginsInteger :: gtbl) ({ frames := 1, cells := 0, slots := 0, locals := 40 }) (va_Pc [.int x] mT) (vp_Si (fun (r : Int32) => Bo r ∧ ((¬ r = 0 → numC x) ∧ (r = 0 → ¬ numC x)))) 0 0 (fun _ => False) := by
  refine Met.ofW (cc := b_QueryReader_beginsInteger) (maxL := 1) (ret := (some .boolean)) (by decide) rfl ?_
  intro p e s m args below meth c s₁ B hml hv
  obtain ⟨rfl, hN⟩ := hv
  have hx := B.exec
  have hb := B.bytes
  have hr := B.returns
  have hts0 := atoms_spec (ws := k_QueryReader_beginsInteger :: gtbl) B.pre
  have hts := fun w h => hts0 w (List.mem_cons_of_mem _ h)
  have hown : s.vm.findClass R_QueryReader = some m.cls := findClass_of_methodNamed B.named
  have hlocks := B.notSynchronized
  have hl := lv_entry ([.int x]) (n := 1) (Nat.le_of_ble_eq_true rfl)
  rw [lg_entry_eq]
  generalize (lg_sl ([.int x]) ++ List.replicate (1 - (lg_sl ([.int x])).length) Slot.unset).toArray = ls at hl ⊢
  have hl : lv_has ls 1 [(0, .int x)] := hl
  refine lv_iload_n hx hb d_QueryReader_beginsInteger_0 rfl (lv_at hl 0 rfl) ?_
  refine lv_bipush (v := 45) hx hb d_QueryReader_beginsInteger_1 (by decide) ?_
  refine lv_icmp_eq (tgt := 13) hx hb d_QueryReader_beginsInteger_3 (by decide) (fun c3 => ?_) (fun c3 => ?_)
  · refine lv_iconst (v := 1) hx hb d_QueryReader_beginsInteger_13 (by decide) ?_
    refine lv_goto (tgt := 18) hx hb d_QueryReader_beginsInteger_14 (by decide) ?_
    exact W.zret (v := 1) hx hb hr rfl (fun t ht hW => ⟨1, rfl, ⟨Or.inr rfl, fun _ => Or.inl c3, fun h => absurd h (by decide)⟩, ht⟩) (fun _ h => nomatch h) d_QueryReader_beginsInteger_18
  · refine lv_iload_n hx hb d_QueryReader_beginsInteger_6 rfl (lv_at hl 0 rfl) ?_
    refine vp_callSi (va_Run.run (va_runSN (As := [.int x]) (rest := []) ⟨hx, hb, hml, hown, hts⟩ (g_QB_isDigit l dC dI s.heap x) (⟨va_cnB (host := "QueryBench") 1 hts (gt_code i_QB_isDigit) rfl rfl rfl (hN _ nz_780) (hts _ w_1) (by decide +kernel) ⟨Nat.le_of_ble_eq_true rfl, Nat.le_of_ble_eq_true rfl⟩, hts _ w_510, trivial⟩) ⟨mT_blind, fun U hU hW => ⟨rfl, hN.warm hW⟩⟩ rfl rfl hl.1 rfl (lv_room (Nat.le_of_ble_eq_true rfl)) d_QueryReader_beginsInteger_7 ⟨Nat.le_of_ble_eq_true rfl, Nat.le_of_ble_eq_true rfl⟩)) (fun r1 h_r1 => ?_)
    refine lv_if_eq (tgt := 17) hx hb d_QueryReader_beginsInteger_10 (by decide) (fun c10 => ?_) (fun c10 => ?_)
    · refine lv_iconst (v := 0) hx hb d_QueryReader_beginsInteger_17 (by decide) ?_
      exact W.zret (v := 0) hx hb hr rfl (fun t ht hW => ⟨0, rfl, ⟨Or.inl rfl, fun h => absurd rfl h, fun _ q => q.elim c3 (h_r1.2.2 c10)⟩, ht⟩) (fun _ h => nomatch h) d_QueryReader_beginsInteger_18
    · refine lv_iconst (v := 1) hx hb d_QueryReader_beginsInteger_13 (by decide) ?_
      refine lv_goto (tgt := 18) hx hb d_QueryReader_beginsInteger_14 (by decide) ?_
      exact W.zret (v := 1) hx hb hr rfl (fun t ht hW => ⟨1, rfl, ⟨Or.inr rfl, fun _ => Or.inr (h_r1.2.1 c10), fun h => absurd h (by decide)⟩, ht⟩) (fun _ h => nomatch h) d_QueryReader_beginsInteger_18
abbrev b_QueryReader_integer : ByteArray := prog_7_method_10_code
def y_QueryReader_integer : MethodName := ⟨"QueryBench$QueryReader", "integer", "()J"⟩
abbrev k_QueryReader_integer : Cond := .code y_QueryReader_integer b_QueryReader_integer 5 (some .long)
theorem i_QueryReader_integer : k_QueryReader_integer ∈ gtbl := gt_in 779 (by decide +kernel) (by decide +kernel)
theorem d_QueryReader_integer_0 : decode b_QueryReader_integer 0 = .ok (.aload_n 0, 1) := by decide +kernel
theorem d_QueryReader_integer_1 : decode b_QueryReader_integer 1 = .ok (.getfield 9, 3) := by decide +kernel
theorem d_QueryReader_integer_4 : decode b_QueryReader_integer 4 = .ok (.getfield 25, 3) := by decide +kernel
theorem d_QueryReader_integer_7 : decode b_QueryReader_integer 7 = .ok (.istore_n 1, 1) := by decide +kernel
theorem d_QueryReader_integer_8 : decode b_QueryReader_integer 8 = .ok (.aload_n 0, 1) := by decide +kernel
theorem d_QueryReader_integer_9 : decode b_QueryReader_integer 9 = .ok (.getfield 9, 3) := by decide +kernel
theorem d_QueryReader_integer_12 : decode b_QueryReader_integer 12 = .ok (.bipush 45, 2) := by decide +kernel
theorem d_QueryReader_integer_14 : decode b_QueryReader_integer 14 = .ok (.invokevirtual 58, 3) := by decide +kernel
theorem d_QueryReader_integer_17 : decode b_QueryReader_integer 17 = .ok (.istore_n 2, 1) := by decide +kernel
theorem d_QueryReader_integer_18 : decode b_QueryReader_integer 18 = .ok (.iload_n 2, 1) := by decide +kernel
theorem d_QueryReader_integer_19 : decode b_QueryReader_integer 19 = .ok (.ifCond .ne 17, 3) := by decide +kernel
theorem d_QueryReader_integer_22 : decode b_QueryReader_integer 22 = .ok (.aload_n 0, 1) := by decide +kernel
theorem d_QueryReader_integer_23 : decode b_QueryReader_integer 23 = .ok (.getfield 9, 3) := by decide +kernel
theorem d_QueryReader_integer_26 : decode b_QueryReader_integer 26 = .ok (.bipush 48, 2) := by decide +kernel
theorem d_QueryReader_integer_28 : decode b_QueryReader_integer 28 = .ok (.invokevirtual 58, 3) := by decide +kernel
theorem d_QueryReader_integer_31 : decode b_QueryReader_integer 31 = .ok (.ifCond .eq 5, 3) := by decide +kernel
theorem d_QueryReader_integer_34 : decode b_QueryReader_integer 34 = .ok (.lconst 0, 1) := by decide +kernel
theorem d_QueryReader_integer_35 : decode b_QueryReader_integer 35 = .ok (.lreturn, 1) := by decide +kernel
theorem d_QueryReader_integer_36 : decode b_QueryReader_integer 36 = .ok (.aload_n 0, 1) := by decide +kernel
theorem d_QueryReader_integer_37 : decode b_QueryReader_integer 37 = .ok (.getfield 9, 3) := by decide +kernel
theorem d_QueryReader_integer_40 : decode b_QueryReader_integer 40 = .ok (.invokevirtual 19, 3) := by decide +kernel
theorem d_QueryReader_integer_43 : decode b_QueryReader_integer 43 = .ok (.invokestatic 84, 3) := by decide +kernel
theorem d_QueryReader_integer_46 : decode b_QueryReader_integer 46 = .ok (.ifCond .eq 15, 3) := by decide +kernel
theorem d_QueryReader_integer_49 : decode b_QueryReader_integer 49 = .ok (.aload_n 0, 1) := by decide +kernel
theorem d_QueryReader_integer_50 : decode b_QueryReader_integer 50 = .ok (.getfield 9, 3) := by decide +kernel
theorem d_QueryReader_integer_53 : decode b_QueryReader_integer 53 = .ok (.invokevirtual 19, 3) := by decide +kernel
theorem d_QueryReader_integer_56 : decode b_QueryReader_integer 56 = .ok (.bipush 48, 2) := by decide +kernel
theorem d_QueryReader_integer_58 : decode b_QueryReader_integer 58 = .ok (.if_icmp .ne 17, 3) := by decide +kernel
theorem d_QueryReader_integer_61 : decode b_QueryReader_integer 61 = .ok (.aload_n 0, 1) := by decide +kernel
theorem d_QueryReader_integer_62 : decode b_QueryReader_integer 62 = .ok (.getfield 9, 3) := by decide +kernel
theorem d_QueryReader_integer_65 : decode b_QueryReader_integer 65 = .ok (.aload_n 0, 1) := by decide +kernel
theorem d_QueryReader_integer_66 : decode b_QueryReader_integer 66 = .ok (.getfield 9, 3) := by decide +kernel
theorem d_QueryReader_integer_69 : decode b_QueryReader_integer 69 = .ok (.getfield 25, 3) := by decide +kernel
theorem d_QueryReader_integer_72 : decode b_QueryReader_integer 72 = .ok (.invokevirtual 28, 3) := by decide +kernel
theorem d_QueryReader_integer_75 : decode b_QueryReader_integer 75 = .ok (.aload_n 0, 1) := by decide +kernel
theorem d_QueryReader_integer_76 : decode b_QueryReader_integer 76 = .ok (.getfield 9, 3) := by decide +kernel
theorem d_QueryReader_integer_79 : decode b_QueryReader_integer 79 = .ok (.iload_n 1, 1) := by decide +kernel
theorem d_QueryReader_integer_80 : decode b_QueryReader_integer 80 = .ok (.invokevirtual 152, 3) := by decide +kernel
theorem d_QueryReader_integer_83 : decode b_QueryReader_integer 83 = .ok (.lstore_n 3, 1) := by decide +kernel
theorem d_QueryReader_integer_84 : decode b_QueryReader_integer 84 = .ok (.iload_n 2, 1) := by decide +kernel
theorem d_QueryReader_integer_85 : decode b_QueryReader_integer 85 = .ok (.ifCond .eq 8, 3) := by decide +kernel
theorem d_QueryReader_integer_88 : decode b_QueryReader_integer 88 = .ok (.lload_n 3, 1) := by decide +kernel
theorem d_QueryReader_integer_89 : decode b_QueryReader_integer 89 = .ok (.lneg, 1) := by decide +kernel
theorem d_QueryReader_integer_90 : decode b_QueryReader_integer 90 = .ok (.goto 4, 3) := by decide +kernel
theorem d_QueryReader_integer_93 : decode b_QueryReader_integer 93 = .ok (.lload_n 3, 1) := by decide +kernel
theorem d_QueryReader_integer_94 : decode b_QueryReader_integer 94 = .ok (.lreturn, 1) := by decide +kernel
set_option maxHeartbeats 4000000 in
set_option maxRecDepth 100000 in
/-- QueryReader.integer -/
theorem c_QueryReader_integer (l : Launch) (hl9 : l.stackTraces = false) (dC : Nat → ClassId) (dI : Nat → Nat → Nat) (sz : Heap) (cB cI : ClassId) (h0 qb qu : Nat) (uc ln pl : Int32) (bf ug : Nat → Int32) (n i : Nat) (hn0 : n ≤ 4096) (hin : i ≤ n) (qr o : Nat)  : vx_Met l y_QueryReader_integer (k_QueryReader_integer :: gtbl) ({ frames := 10, cells := 1, slots := 6, locals := 170 }) (va_Pc [.ref qr] (mx dC dI ([(qr, .inr (5, [.ref h0, .int (nI o)])), (h0, .inr (8, [.ref qb, .ref qu, .int uc, .int ln, .int (nI n), .int (nI i), .int pl])), (qb, .inl (cB, 4096, .inl bf)), (qu, .inl (cI, 4096, .inl ug))]) [(cB, .byte), (cI, .int)] sz)) (va_Ql (fun (r : Int64) (u : Nat) => i ≤ u ∧ u ≤ n ∧ wi53 r ∧ iCv bf n i = some (u, r)) (fun u t9 => mz dC dI ([(qr, .inr (5, [.ref h0, .int (nI o)])), (h0, .inr (8, [.ref qb, .ref qu, .int uc, .int ln, .int (nI n), .int (nI u), .int pl])), (qb, .inl (cB, 4096, .inl bf)), (qu, .inl (cI, 4096, .inl ug))]) [(cB, .byte), (cI, .int)] (va_A ([(qr, .inr (5, [.ref h0, .int (nI o)])), (h0, .inr (8, [.ref qb, .ref qu, .int uc, .int ln, .int (nI n), .int (nI i), .int pl])), (qb, .inl (cB, 4096, .inl bf)), (qu, .inl (cI, 4096, .inl ug))]) sz.size) t9 ∧ szk sz t9.heap (0) (0)) (va_A ([(qr, .inr (5, [.ref h0, .int (nI o)])), (h0, .inr (8, [.ref qb, .ref qu, .int uc, .int ln, .int (nI n), .int (nI i), .int pl])), (qb, .inl (cB, 4096, .inl bf)), (qu, .inl (cI, 4096, .inl ug))]) sz.size)) (vx_X (fun (u : Int32 × Int32 × Int32 × (Nat → Int32) × Int32) => iCv bf n i = none) (fun En u t9 => En = UOX ∧ mz dC dI ([(qr, .inr (5, [.ref h0, .int u.2.2.2.2])), (h0, .inr (8, [.ref qb, .ref qu, .int u.2.1, .int ln, .int (nI n), .int u.1, .int u.2.2.1])), (qb, .inl (cB, 4096, .inl bf)), (qu, .inl (cI, 4096, .inl u.2.2.2.1))]) [(cB, .byte), (cI, .int)] (va_A ([(qr, .inr (5, [.ref h0, .int (nI o)])), (h0, .inr (8, [.ref qb, .ref qu, .int uc, .int ln, .int (nI n), .int (nI i), .int pl])), (qb, .inl (cB, 4096, .inl bf)), (qu, .inl (cI, 4096, .inl ug))]) sz.size) t9) (va_A ([(qr, .inr (5, [.ref h0, .int (nI o)])), (h0, .inr (8, [.ref qb, .ref qu, .int uc, .int ln, .int (nI n), .int (nI i), .int pl])), (qb, .inl (cB, 4096, .inl bf)), (qu, .inl (cI, 4096, .inl ug))]) sz.size)) (1) (6) (va_A ([(qr, .inr (5, [.ref h0, .int (nI o)])), (h0, .inr (8, [.ref qb, .ref qu, .int uc, .int ln, .int (nI n), .int (nI i), .int pl])), (qb, .inl (cB, 4096, .inl bf)), (qu, .inl (cI, 4096, .inl ug))]) sz.size) := by
  refine vx_ofW (cc := b_QueryReader_integer) (maxL := 5) (ret := (some .long)) (by decide) rfl ?_
  intro p e s m args below meth c s₁ B hml hex hv
  obtain ⟨rfl, ⟨hsz, hP, hK, hD0⟩, hN, hZ⟩ := hv
  have hx := B.exec
  have hb := B.bytes
  have hr := B.returns
  have hts0 := atoms_spec (ws := k_QueryReader_integer :: gtbl) B.pre
  have hts := fun w h => hts0 w (List.mem_cons_of_mem _ h)
  have hown : s.vm.findClass R_QueryReader = some m.cls := findClass_of_methodNamed B.named
  have hlocks := B.notSynchronized
  subst hsz
  have hD := hD0.self (sz := s.heap.size)
  generalize hAe : va_A ([(qr, .inr (5, [.ref h0, .int (nI o)])), (h0, .inr (8, [.ref qb, .ref qu, .int uc, .int ln, .int (nI n), .int (nI i), .int pl])), (qb, .inl (cB, 4096, .inl bf)), (qu, .inl (cI, 4096, .inl ug))]) s.heap.size = A at hD hZ ⊢
  have hA : ∀ q : Nat, s.heap.size ≤ q → A q := fun q h => by rw [← hAe]; exact Or.inr h
  have hS : va_S A s.heap s.heap [] := va_S.rf
  have hP : va_P (dC, dI) classes ([(qr, .inr (5, [.ref h0, .int (nI o)])), (h0, .inr (8, [.ref qb, .ref qu, .int uc, .int ln, .int (nI n), .int (nI i), .int pl])), (qb, .inl (cB, 4096, .inl bf)), (qu, .inl (cI, 4096, .inl ug))]) s.heap := hP
  have hl := lv_entry ([.ref qr]) (n := 5) (Nat.le_of_ble_eq_true rfl)
  rw [lg_entry_eq]
  generalize (lg_sl ([.ref qr]) ++ List.replicate (5 - (lg_sl ([.ref qr])).length) Slot.unset).toArray = ls at hl ⊢
  have hl : lv_has ls 5 [(0, .ref qr)] := hl
  refine lv_aload_n hx hb d_QueryReader_integer_0 rfl (lv_at hl 0 rfl) ?_
  refine va_get (D := (dC, dI)) (ci := 5) (v := .ref h0) (C := R_QueryReader) (T := F_QueryReader) (N := 2) hx hb hts in_QueryReader hown hK hP 0 rfl rfl 0 (by decide) (hts _ w_100) (fun _ h9 => h9) rfl d_QueryReader_integer_1 ?_
  refine va_get (D := (dC, dI)) (ci := 8) (v := .int (nI i)) (C := R_Tape) (T := F_Tape) (N := 7) hx hb hts in_Tape hown hK hP 1 rfl rfl 5 (by decide) (hts _ z_53) (fun _ h9 => h9) rfl d_QueryReader_integer_4 ?_
  refine lv_istore_n (lv' := [(1, .int (nI i)), (0, .ref qr)]) hx hb d_QueryReader_integer_7 rfl hl (by decide) rfl (fun ls hl => ?_)
  refine lv_aload_n hx hb d_QueryReader_integer_8 rfl (lv_at hl 1 rfl) ?_
  refine va_get (D := (dC, dI)) (ci := 5) (v := .ref h0) (C := R_QueryReader) (T := F_QueryReader) (N := 2) hx hb hts in_QueryReader hown hK hP 0 rfl rfl 0 (by decide) (hts _ w_100) (fun _ h9 => h9) rfl d_QueryReader_integer_9 ?_
  refine lv_bipush (v := 45) hx hb d_QueryReader_integer_12 (by decide) ?_
  have hPc := hP.sub (ws' := [(h0, .inr (8, [.ref qb, .ref qu, .int uc, .int ln, .int (nI n), .int (nI i), .int pl])), (qb, .inl (cB, 4096, .inl bf))]) [1, 2] rfl
  have hDc := hD.sub (ws' := [(h0, .inr (8, [.ref qb, .ref qu, .int uc, .int ln, .int (nI n), .int (nI i), .int pl])), (qb, .inl (cB, 4096, .inl bf))]) [1, 2] (by decide) rfl
  have hFc := va_free (wc := [(h0, .inr (8, [.ref qb, .ref qu, .int uc, .int ln, .int (nI n), .int (nI i), .int pl])), (qb, .inl (cB, 4096, .inl bf))]) hD hS hA [1, 2] rfl
  have hKc := hK.sub (tys' := [(cB, .byte)]) [0] rfl
  refine va_calli (va_runV (As := [.int 45]) (rest := []) ⟨hx, hb, hml, hown, hts⟩ (c_Tape_takeIf l dC dI cB h0 qb s.heap (.ref qu) uc ln pl bf n i 45 hn0 (by omega)) (cwV 1 hts (gt_V (own := R_QueryReader) (C := R_Tape) (i := 58) (y := y_Tape_takeIf) i_Tape_takeIf z_589 z_393 z_394 w_2) rfl rfl rfl (by decide +kernel) ⟨Nat.le_of_ble_eq_true rfl, Nat.le_of_ble_eq_true rfl⟩) ⟨mp_blind, va_recv hK hP (ci := 8) (q0 := 1) rfl rfl, fun U hU hW => ⟨rfl, hU, by rw [hU]; exact hPc, va_K.moved hW.alike hKc, hDc.weaken (fun _ _ _ _ => trivial)⟩⟩ rfl rfl hl.1 rfl (lv_room (Nat.le_of_ble_eq_true rfl)) d_QueryReader_integer_14 ⟨Nat.le_of_ble_eq_true rfl, Nat.le_of_ble_eq_true rfl⟩) hS (fun q _ h => hFc q h) hFc (fun r21 u21 t9 H1 locs ht hvm hw hB hz1 hk1 hS => ?_)
  obtain ⟨hP1, hK1, hD1⟩ := hB
  rw [ht] at hP1
  obtain ⟨hP, hD⟩ := va_join (wr := [(qr, .inr (5, [.ref h0, .int (nI o)])), (qu, .inl (cI, 4096, .inl ug))]) (w1 := [(h0, .inr (8, [.ref qb, .ref qu, .int uc, .int ln, .int (nI n), .int (nI u21), .int pl])), (qb, .inl (cB, 4096, .inl bf))]) hP hD [1, 2] [0, 3] rfl rfl (by decide) (by decide) hk1 hFc hP1 hD1
  generalize H1 = H at hP hS ⊢
  have hP : va_P (dC, dI) classes ([(qr, .inr (5, [.ref h0, .int (nI o)])), (qu, .inl (cI, 4096, .inl ug)), (h0, .inr (8, [.ref qb, .ref qu, .int uc, .int ln, .int (nI n), .int (nI u21), .int pl])), (qb, .inl (cB, 4096, .inl bf))]) H := hP
  have hD : va_D A ([(qr, .inr (5, [.ref h0, .int (nI o)])), (qu, .inl (cI, 4096, .inl ug)), (h0, .inr (8, [.ref qb, .ref qu, .int uc, .int ln, .int (nI n), .int (nI u21), .int pl])), (qb, .inl (cB, 4096, .inl bf))]) := hD
  have hP := hP.sub (ws' := [(qr, .inr (5, [.ref h0, .int (nI o)])), (h0, .inr (8, [.ref qb, .ref qu, .int uc, .int ln, .int (nI n), .int (nI u21), .int pl])), (qb, .inl (cB, 4096, .inl bf)), (qu, .inl (cI, 4096, .inl ug))]) [0, 2, 3, 1] rfl
  have hD := hD.sub (ws' := [(qr, .inr (5, [.ref h0, .int (nI o)])), (h0, .inr (8, [.ref qb, .ref qu, .int uc, .int ln, .int (nI n), .int (nI u21), .int pl])), (qb, .inl (cB, 4096, .inl bf)), (qu, .inl (cI, 4096, .inl ug))]) [0, 2, 3, 1] (by decide) rfl
  rcases hw with ⟨ht21, hr21, hu21⟩ | ⟨ht21, hr21, hu21⟩
  · have hu21 : u21 = i + 1 := hu21
    subst hr21
    rw [hu21] at hP hD
    have hl21 := here_lc ht21 (by decide)
    have hP : va_P (dC, dI) classes ([(qr, .inr (5, [.ref h0, .int (nI o)])), (h0, .inr (8, [.ref qb, .ref qu, .int uc, .int ln, .int (nI n), .int (nI (i + 1)), .int pl])), (qb, .inl (cB, 4096, .inl bf)), (qu, .inl (cI, 4096, .inl ug))]) H := hP
    have hD : va_D A ([(qr, .inr (5, [.ref h0, .int (nI o)])), (h0, .inr (8, [.ref qb, .ref qu, .int uc, .int ln, .int (nI n), .int (nI (i + 1)), .int pl])), (qb, .inl (cB, 4096, .inl bf)), (qu, .inl (cI, 4096, .inl ug))]) := hD
    refine lv_istore_n (lv' := [(2, .int 1), (1, .int (nI i)), (0, .ref qr)]) hx hb d_QueryReader_integer_17 rfl hl (by decide) rfl (fun ls hl => ?_)
    refine lv_iload_n hx hb d_QueryReader_integer_18 rfl (lv_at hl 0 rfl) ?_
    refine lv_if_ne (tgt := 36) hx hb d_QueryReader_integer_19 (by decide) (fun _ => ?_) (fun h => absurd h (by decide))
    refine lv_aload_n hx hb d_QueryReader_integer_36 rfl (lv_at hl 2 rfl) ?_
    refine va_get (D := (dC, dI)) (ci := 5) (v := .ref h0) (C := R_QueryReader) (T := F_QueryReader) (N := 2) hx hb hts in_QueryReader hown hK hP 0 rfl rfl 0 (by decide) (hts _ w_100) (fun _ h9 => h9) rfl d_QueryReader_integer_37 ?_
    have hPc := hP.sub (ws' := [(h0, .inr (8, [.ref qb, .ref qu, .int uc, .int ln, .int (nI n), .int (nI (i + 1)), .int pl])), (qb, .inl (cB, 4096, .inl bf))]) [1, 2] rfl
    have hDc := hD.sub (ws' := [(h0, .inr (8, [.ref qb, .ref qu, .int uc, .int ln, .int (nI n), .int (nI (i + 1)), .int pl])), (qb, .inl (cB, 4096, .inl bf))]) [1, 2] (by decide) rfl
    have hFc := va_free (wc := [(h0, .inr (8, [.ref qb, .ref qu, .int uc, .int ln, .int (nI n), .int (nI (i + 1)), .int pl])), (qb, .inl (cB, 4096, .inl bf))]) hD hS hA [1, 2] rfl
    have hKc := hK.sub (tys' := [(cB, .byte)]) [0] rfl
    refine va_calli (va_runV (As := []) (rest := []) ⟨hx, hb, hml, hown, hts⟩ (c_Tape_here l dC dI cB h0 qb H (.ref qu) uc ln pl bf n ((i + 1)) hn0 (by omega)) (cwV 0 hts (gt_V (own := R_QueryReader) (C := R_Tape) (i := 19) (y := y_Tape_here) i_Tape_here z_534 w_363 w_364 w_2) rfl rfl rfl (by decide +kernel) ⟨Nat.le_of_ble_eq_true rfl, Nat.le_of_ble_eq_true rfl⟩) ⟨mp_blind, va_recv hK hP (ci := 8) (q0 := 1) rfl rfl, fun U hU hW => ⟨rfl, hU, by rw [hU]; exact hPc, va_K.moved hW.alike hKc, hDc.weaken (fun _ _ _ _ => trivial)⟩⟩ rfl rfl hl.1 rfl (lv_room (Nat.le_of_ble_eq_true rfl)) d_QueryReader_integer_40 ⟨Nat.le_of_ble_eq_true rfl, Nat.le_of_ble_eq_true rfl⟩) hS (fun q _ h => hFc q h) hFc (fun h22 _u t9 H1 locs ht hvm hw hB hz1 hk1 hS => ?_)
    obtain ⟨hP1, hK1, hD1⟩ := hB
    rw [ht] at hP1
    obtain ⟨hP, hD⟩ := va_join (wr := [(qr, .inr (5, [.ref h0, .int (nI o)])), (qu, .inl (cI, 4096, .inl ug))]) (w1 := [(h0, .inr (8, [.ref qb, .ref qu, .int uc, .int ln, .int (nI n), .int (nI (i + 1)), .int pl])), (qb, .inl (cB, 4096, .inl bf))]) hP hD [1, 2] [0, 3] rfl rfl (by decide) (by decide) hk1 hFc hP1 hD1
    generalize H1 = H at hP hS ⊢
    have hP : va_P (dC, dI) classes ([(qr, .inr (5, [.ref h0, .int (nI o)])), (qu, .inl (cI, 4096, .inl ug)), (h0, .inr (8, [.ref qb, .ref qu, .int uc, .int ln, .int (nI n), .int (nI (i + 1)), .int pl])), (qb, .inl (cB, 4096, .inl bf))]) H := hP
    have hD : va_D A ([(qr, .inr (5, [.ref h0, .int (nI o)])), (qu, .inl (cI, 4096, .inl ug)), (h0, .inr (8, [.ref qb, .ref qu, .int uc, .int ln, .int (nI n), .int (nI (i + 1)), .int pl])), (qb, .inl (cB, 4096, .inl bf))]) := hD
    have hP := hP.sub (ws' := [(qr, .inr (5, [.ref h0, .int (nI o)])), (h0, .inr (8, [.ref qb, .ref qu, .int uc, .int ln, .int (nI n), .int (nI (i + 1)), .int pl])), (qb, .inl (cB, 4096, .inl bf)), (qu, .inl (cI, 4096, .inl ug))]) [0, 2, 3, 1] rfl
    have hD := hD.sub (ws' := [(qr, .inr (5, [.ref h0, .int (nI o)])), (h0, .inr (8, [.ref qb, .ref qu, .int uc, .int ln, .int (nI n), .int (nI (i + 1)), .int pl])), (qb, .inl (cB, 4096, .inl bf)), (qu, .inl (cI, 4096, .inl ug))]) [0, 2, 3, 1] (by decide) rfl
    have h_h22 : h22 = hereV bf n ((i + 1)) := hw
    refine vp_callSi (va_Run.run (va_runSN (As := [.int h22]) (rest := []) ⟨hx, hb, hml, hown, hts⟩ (g_QB_isDigit l dC dI H h22) (⟨va_cnB (host := "QueryBench") 1 hts (gt_code i_QB_isDigit) rfl rfl rfl (hN _ nz_780) (hts _ w_1) (by decide +kernel) ⟨Nat.le_of_ble_eq_true rfl, Nat.le_of_ble_eq_true rfl⟩, hts _ w_510, trivial⟩) ⟨mT_blind, fun U hU hW => ⟨rfl, hN.warm hW⟩⟩ rfl rfl hl.1 rfl (lv_room (Nat.le_of_ble_eq_true rfl)) d_QueryReader_integer_43 ⟨Nat.le_of_ble_eq_true rfl, Nat.le_of_ble_eq_true rfl⟩)) (fun r23 h_r23 => ?_)
    refine lv_if_eq (tgt := 61) hx hb d_QueryReader_integer_46 (by decide) (fun c46 => ?_) (fun c46 => ?_)
    · refine lv_aload_n hx hb d_QueryReader_integer_61 rfl (lv_at hl 2 rfl) ?_
      refine va_get (D := (dC, dI)) (ci := 5) (v := .ref h0) (C := R_QueryReader) (T := F_QueryReader) (N := 2) hx hb hts in_QueryReader hown hK hP 0 rfl rfl 0 (by decide) (hts _ w_100) (fun _ h9 => h9) rfl d_QueryReader_integer_62 ?_
      refine lv_aload_n hx hb d_QueryReader_integer_65 rfl (lv_at hl 2 rfl) ?_
      refine va_get (D := (dC, dI)) (ci := 5) (v := .ref h0) (C := R_QueryReader) (T := F_QueryReader) (N := 2) hx hb hts in_QueryReader hown hK hP 0 rfl rfl 0 (by decide) (hts _ w_100) (fun _ h9 => h9) rfl d_QueryReader_integer_66 ?_
      refine va_get (D := (dC, dI)) (ci := 8) (v := .int (nI (i + 1))) (C := R_Tape) (T := F_Tape) (N := 7) hx hb hts in_Tape hown hK hP 1 rfl rfl 5 (by decide) (hts _ z_53) (fun _ h9 => h9) rfl d_QueryReader_integer_69 ?_
      have hPc := hP.sub (ws' := [(h0, .inr (8, [.ref qb, .ref qu, .int uc, .int ln, .int (nI n), .int (nI (i + 1)), .int pl])), (qb, .inl (cB, 4096, .inl bf))]) [1, 2] rfl
      have hDc := hD.sub (ws' := [(h0, .inr (8, [.ref qb, .ref qu, .int uc, .int ln, .int (nI n), .int (nI (i + 1)), .int pl])), (qb, .inl (cB, 4096, .inl bf))]) [1, 2] (by decide) rfl
      have hFc := va_free (wc := [(h0, .inr (8, [.ref qb, .ref qu, .int uc, .int ln, .int (nI n), .int (nI (i + 1)), .int pl])), (qb, .inl (cB, 4096, .inl bf))]) hD hS hA [1, 2] rfl
      have hKc := hK.sub (tys' := [(cB, .byte)]) [0] rfl
      refine w_same (fun hq0 => ?_)
      refine vx_callv (vx_runV (As := [.int (nI (i + 1))]) (rest := []) ⟨hx, hb, hml, hown, hts⟩ (c_Tape_fail l hl9 dC dI cB h0 qb H (.ref qu) uc ln (nI n) (nI ((i + 1))) pl bf ((nI (i + 1)))) (cwV 1 hts (gt_V (own := R_QueryReader) (C := R_Tape) (i := 28) (y := y_Tape_fail) i_Tape_fail z_535 w_371 w_372 w_2) rfl rfl rfl (by decide +kernel) ⟨Nat.le_of_ble_eq_true rfl, Nat.le_of_ble_eq_true rfl⟩) ⟨mx_blind, va_recv hK hP (ci := 8) (q0 := 1) rfl rfl, fun U hU hW => ⟨rfl, ⟨hU, by rw [hU]; exact hPc, va_K.moved hW.alike hKc, hDc.weaken (fun _ _ _ _ => trivial)⟩, hN.warm hW, by rw [hU]; exact ZX.moved' hW.alike (ZX.narrow' (ZX.kept' hZ hS.2.1) hFc)⟩⟩ rfl rfl hl.1 rfl (lv_room (Nat.le_of_ble_eq_true rfl)) d_QueryReader_integer_72 ⟨Nat.le_of_ble_eq_true rfl, Nat.le_of_ble_eq_true rfl⟩) hS (fun q _ h => hFc q h) hFc (fun q _ h => hFc q h) (fun En ce q9 _u t9 H1 locs ht hvm hw hB hz1 hk1 hS hce hcv hcl => ?_) (fun _u t9 H1 locs ht hvm hw hB hz1 hk1 hS => ?_)
      · obtain ⟨hEn, hP1, hK1, hD1⟩ := hB
        rw [ht] at hP1
        obtain ⟨hP, hD⟩ := va_join (wr := [(qr, .inr (5, [.ref h0, .int (nI o)])), (qu, .inl (cI, 4096, .inl ug))]) (w1 := [(h0, .inr (8, [.ref qb, .ref qu, .int uc, .int ln, .int (nI n), .int (nI (i + 1)), .int (nI (i + 1))])), (qb, .inl (cB, 4096, .inl bf))]) hP hD [1, 2] [0, 3] rfl rfl (by decide) (by decide) hk1 hFc hP1 hD1
        generalize H1 = H at hP hS hce ⊢
        have hP : va_P (dC, dI) classes ([(qr, .inr (5, [.ref h0, .int (nI o)])), (qu, .inl (cI, 4096, .inl ug)), (h0, .inr (8, [.ref qb, .ref qu, .int uc, .int ln, .int (nI n), .int (nI (i + 1)), .int (nI (i + 1))])), (qb, .inl (cB, 4096, .inl bf))]) H := hP
        have hD : va_D A ([(qr, .inr (5, [.ref h0, .int (nI o)])), (qu, .inl (cI, 4096, .inl ug)), (h0, .inr (8, [.ref qb, .ref qu, .int uc, .int ln, .int (nI n), .int (nI (i + 1)), .int (nI (i + 1))])), (qb, .inl (cB, 4096, .inl bf))]) := hD
        have hP := hP.sub (ws' := [(qr, .inr (5, [.ref h0, .int (nI o)])), (h0, .inr (8, [.ref qb, .ref qu, .int uc, .int ln, .int (nI n), .int (nI (i + 1)), .int (nI (i + 1))])), (qb, .inl (cB, 4096, .inl bf)), (qu, .inl (cI, 4096, .inl ug))]) [0, 2, 3, 1] rfl
        have hD := hD.sub (ws' := [(qr, .inr (5, [.ref h0, .int (nI o)])), (h0, .inr (8, [.ref qb, .ref qu, .int uc, .int ln, .int (nI n), .int (nI (i + 1)), .int (nI (i + 1))])), (qb, .inl (cB, 4096, .inl bf)), (qu, .inl (cI, 4096, .inl ug))]) [0, 2, 3, 1] (by decide) rfl
        have hno : iCv bf n i = none := (iCv_m ht21).trans (iBv_no (Or.inl (by rw [← h_h22]; exact h_r23.2.2 c46)))
        exact vx_out (fun x hx => (hex x hx).elim) hlocks hce hcv hcl (fun t9 ht2 ha => ⟨(nI (i + 1), uc, (nI (i + 1)), ug, (nI o)), hno, ⟨hEn, by rw [ht2]; exact hP, va_K.moved ha hK, hD⟩, hS.F ht2⟩) hS.2.2 (Nat.le_of_ble_eq_true rfl) (Nat.le_of_ble_eq_true rfl)
      · obtain ⟨⟨hP1, hK1, hD1⟩, hz9⟩ := hB
        rw [ht] at hP1
        rw [ht] at hz9
        refine w_tight (hq0.trans hz9) ?_
        have hq0 := hq0.trans hz9
        obtain ⟨hP, hD⟩ := va_join (wr := [(qr, .inr (5, [.ref h0, .int (nI o)])), (qu, .inl (cI, 4096, .inl ug))]) (w1 := [(h0, .inr (8, [.ref qb, .ref qu, .int uc, .int ln, .int (nI n), .int (nI (i + 1)), .int pl])), (qb, .inl (cB, 4096, .inl bf))]) hP hD [1, 2] [0, 3] rfl rfl (by decide) (by decide) hk1 hFc hP1 hD1
        generalize H1 = H at hP hS hq0 ⊢
        have hP : va_P (dC, dI) classes ([(qr, .inr (5, [.ref h0, .int (nI o)])), (qu, .inl (cI, 4096, .inl ug)), (h0, .inr (8, [.ref qb, .ref qu, .int uc, .int ln, .int (nI n), .int (nI (i + 1)), .int pl])), (qb, .inl (cB, 4096, .inl bf))]) H := hP
        have hD : va_D A ([(qr, .inr (5, [.ref h0, .int (nI o)])), (qu, .inl (cI, 4096, .inl ug)), (h0, .inr (8, [.ref qb, .ref qu, .int uc, .int ln, .int (nI n), .int (nI (i + 1)), .int pl])), (qb, .inl (cB, 4096, .inl bf))]) := hD
        have hP := hP.sub (ws' := [(qr, .inr (5, [.ref h0, .int (nI o)])), (h0, .inr (8, [.ref qb, .ref qu, .int uc, .int ln, .int (nI n), .int (nI (i + 1)), .int pl])), (qb, .inl (cB, 4096, .inl bf)), (qu, .inl (cI, 4096, .inl ug))]) [0, 2, 3, 1] rfl
        have hD := hD.sub (ws' := [(qr, .inr (5, [.ref h0, .int (nI o)])), (h0, .inr (8, [.ref qb, .ref qu, .int uc, .int ln, .int (nI n), .int (nI (i + 1)), .int pl])), (qb, .inl (cB, 4096, .inl bf)), (qu, .inl (cI, 4096, .inl ug))]) [0, 2, 3, 1] (by decide) rfl
        exact hw.elim
    · have hdg9 : digH (hereV bf n ((i + 1))) := by rw [← h_h22]; exact h_r23.2.1 c46
      refine lv_aload_n hx hb d_QueryReader_integer_49 rfl (lv_at hl 2 rfl) ?_
      refine va_get (D := (dC, dI)) (ci := 5) (v := .ref h0) (C := R_QueryReader) (T := F_QueryReader) (N := 2) hx hb hts in_QueryReader hown hK hP 0 rfl rfl 0 (by decide) (hts _ w_100) (fun _ h9 => h9) rfl d_QueryReader_integer_50 ?_
      have hPc := hP.sub (ws' := [(h0, .inr (8, [.ref qb, .ref qu, .int uc, .int ln, .int (nI n), .int (nI (i + 1)), .int pl])), (qb, .inl (cB, 4096, .inl bf))]) [1, 2] rfl
      have hDc := hD.sub (ws' := [(h0, .inr (8, [.ref qb, .ref qu, .int uc, .int ln, .int (nI n), .int (nI (i + 1)), .int pl])), (qb, .inl (cB, 4096, .inl bf))]) [1, 2] (by decide) rfl
      have hFc := va_free (wc := [(h0, .inr (8, [.ref qb, .ref qu, .int uc, .int ln, .int (nI n), .int (nI (i + 1)), .int pl])), (qb, .inl (cB, 4096, .inl bf))]) hD hS hA [1, 2] rfl
      have hKc := hK.sub (tys' := [(cB, .byte)]) [0] rfl
      refine va_calli (va_runV (As := []) (rest := []) ⟨hx, hb, hml, hown, hts⟩ (c_Tape_here l dC dI cB h0 qb H (.ref qu) uc ln pl bf n ((i + 1)) hn0 (by omega)) (cwV 0 hts (gt_V (own := R_QueryReader) (C := R_Tape) (i := 19) (y := y_Tape_here) i_Tape_here z_534 w_363 w_364 w_2) rfl rfl rfl (by decide +kernel) ⟨Nat.le_of_ble_eq_true rfl, Nat.le_of_ble_eq_true rfl⟩) ⟨mp_blind, va_recv hK hP (ci := 8) (q0 := 1) rfl rfl, fun U hU hW => ⟨rfl, hU, by rw [hU]; exact hPc, va_K.moved hW.alike hKc, hDc.weaken (fun _ _ _ _ => trivial)⟩⟩ rfl rfl hl.1 rfl (lv_room (Nat.le_of_ble_eq_true rfl)) d_QueryReader_integer_53 ⟨Nat.le_of_ble_eq_true rfl, Nat.le_of_ble_eq_true rfl⟩) hS (fun q _ h => hFc q h) hFc (fun h24 _u t9 H1 locs ht hvm hw hB hz1 hk1 hS => ?_)
      obtain ⟨hP1, hK1, hD1⟩ := hB
      rw [ht] at hP1
      obtain ⟨hP, hD⟩ := va_join (wr := [(qr, .inr (5, [.ref h0, .int (nI o)])), (qu, .inl (cI, 4096, .inl ug))]) (w1 := [(h0, .inr (8, [.ref qb, .ref qu, .int uc, .int ln, .int (nI n), .int (nI (i + 1)), .int pl])), (qb, .inl (cB, 4096, .inl bf))]) hP hD [1, 2] [0, 3] rfl rfl (by decide) (by decide) hk1 hFc hP1 hD1
      generalize H1 = H at hP hS ⊢
      have hP : va_P (dC, dI) classes ([(qr, .inr (5, [.ref h0, .int (nI o)])), (qu, .inl (cI, 4096, .inl ug)), (h0, .inr (8, [.ref qb, .ref qu, .int uc, .int ln, .int (nI n), .int (nI (i + 1)), .int pl])), (qb, .inl (cB, 4096, .inl bf))]) H := hP
      have hD : va_D A ([(qr, .inr (5, [.ref h0, .int (nI o)])), (qu, .inl (cI, 4096, .inl ug)), (h0, .inr (8, [.ref qb, .ref qu, .int uc, .int ln, .int (nI n), .int (nI (i + 1)), .int pl])), (qb, .inl (cB, 4096, .inl bf))]) := hD
      have hP := hP.sub (ws' := [(qr, .inr (5, [.ref h0, .int (nI o)])), (h0, .inr (8, [.ref qb, .ref qu, .int uc, .int ln, .int (nI n), .int (nI (i + 1)), .int pl])), (qb, .inl (cB, 4096, .inl bf)), (qu, .inl (cI, 4096, .inl ug))]) [0, 2, 3, 1] rfl
      have hD := hD.sub (ws' := [(qr, .inr (5, [.ref h0, .int (nI o)])), (h0, .inr (8, [.ref qb, .ref qu, .int uc, .int ln, .int (nI n), .int (nI (i + 1)), .int pl])), (qb, .inl (cB, 4096, .inl bf)), (qu, .inl (cI, 4096, .inl ug))]) [0, 2, 3, 1] (by decide) rfl
      have h_h24 : h24 = hereV bf n ((i + 1)) := hw
      refine lv_bipush (v := 48) hx hb d_QueryReader_integer_56 (by decide) ?_
      refine lv_icmp_ne (tgt := 75) hx hb d_QueryReader_integer_58 (by decide) (fun c58 => ?_) (fun c58 => ?_)
      · have hn48 : ¬ hereV bf n ((i + 1)) = 48 := by rw [← h_h24]; exact c58
        refine lv_aload_n hx hb d_QueryReader_integer_75 rfl (lv_at hl 2 rfl) ?_
        refine va_get (D := (dC, dI)) (ci := 5) (v := .ref h0) (C := R_QueryReader) (T := F_QueryReader) (N := 2) hx hb hts in_QueryReader hown hK hP 0 rfl rfl 0 (by decide) (hts _ w_100) (fun _ h9 => h9) rfl d_QueryReader_integer_76 ?_
        refine lv_iload_n hx hb d_QueryReader_integer_79 rfl (lv_at hl 1 rfl) ?_
        have hPc := hP.sub (ws' := [(h0, .inr (8, [.ref qb, .ref qu, .int uc, .int ln, .int (nI n), .int (nI (i + 1)), .int pl])), (qb, .inl (cB, 4096, .inl bf))]) [1, 2] rfl
        have hDc := hD.sub (ws' := [(h0, .inr (8, [.ref qb, .ref qu, .int uc, .int ln, .int (nI n), .int (nI (i + 1)), .int pl])), (qb, .inl (cB, 4096, .inl bf))]) [1, 2] (by decide) rfl
        have hFc := va_free (wc := [(h0, .inr (8, [.ref qb, .ref qu, .int uc, .int ln, .int (nI n), .int (nI (i + 1)), .int pl])), (qb, .inl (cB, 4096, .inl bf))]) hD hS hA [1, 2] rfl
        have hKc := hK.sub (tys' := [(cB, .byte)]) [0] rfl
        refine w_same (fun hq0 => ?_)
        refine vx_calll (vx_runV (As := [.int (nI i)]) (rest := []) ⟨hx, hb, hml, hown, hts⟩ (c_Tape_digits l hl9 dC dI cB h0 qb H (.ref qu) uc ln pl bf n ((i + 1)) ((nI i)) hn0 (by omega)) (cwV 1 hts (gt_V (own := R_QueryReader) (C := R_Tape) (i := 152) (y := y_Tape_digits) i_Tape_digits z_781 z_513 z_514 w_2) rfl rfl rfl (by decide +kernel) ⟨Nat.le_of_ble_eq_true rfl, Nat.le_of_ble_eq_true rfl⟩) ⟨mx_blind, va_recv hK hP (ci := 8) (q0 := 1) rfl rfl, fun U hU hW => ⟨rfl, ⟨hU, by rw [hU]; exact hPc, va_K.moved hW.alike hKc, hDc.weaken (fun _ _ _ _ => trivial)⟩, hN.warm hW, by rw [hU]; exact ZX.moved' hW.alike (ZX.narrow' (ZX.kept' hZ hS.2.1) hFc)⟩⟩ rfl rfl hl.1 rfl (lv_room (Nat.le_of_ble_eq_true rfl)) d_QueryReader_integer_80 ⟨Nat.le_of_ble_eq_true rfl, Nat.le_of_ble_eq_true rfl⟩) hS (fun q _ h => hFc q h) hFc (fun q _ h => hFc q h) (fun En ce q9 u25 t9 H1 locs ht hvm hw hB hz1 hk1 hS hce hcv hcl => ?_) (fun r25 u25 t9 H1 locs ht hvm hw hB hz1 hk1 hS => ?_)
        · obtain ⟨hEn, hP1, hK1, hD1⟩ := hB
          rw [ht] at hP1
          obtain ⟨hP, hD⟩ := va_join (wr := [(qr, .inr (5, [.ref h0, .int (nI o)])), (qu, .inl (cI, 4096, .inl ug))]) (w1 := [(h0, .inr (8, [.ref qb, .ref qu, .int uc, .int ln, .int (nI n), .int (nI u25), .int (nI i)])), (qb, .inl (cB, 4096, .inl bf))]) hP hD [1, 2] [0, 3] rfl rfl (by decide) (by decide) hk1 hFc hP1 hD1
          generalize H1 = H at hP hS hce ⊢
          have hP : va_P (dC, dI) classes ([(qr, .inr (5, [.ref h0, .int (nI o)])), (qu, .inl (cI, 4096, .inl ug)), (h0, .inr (8, [.ref qb, .ref qu, .int uc, .int ln, .int (nI n), .int (nI u25), .int (nI i)])), (qb, .inl (cB, 4096, .inl bf))]) H := hP
          have hD : va_D A ([(qr, .inr (5, [.ref h0, .int (nI o)])), (qu, .inl (cI, 4096, .inl ug)), (h0, .inr (8, [.ref qb, .ref qu, .int uc, .int ln, .int (nI n), .int (nI u25), .int (nI i)])), (qb, .inl (cB, 4096, .inl bf))]) := hD
          have hP := hP.sub (ws' := [(qr, .inr (5, [.ref h0, .int (nI o)])), (h0, .inr (8, [.ref qb, .ref qu, .int uc, .int ln, .int (nI n), .int (nI u25), .int (nI i)])), (qb, .inl (cB, 4096, .inl bf)), (qu, .inl (cI, 4096, .inl ug))]) [0, 2, 3, 1] rfl
          have hD := hD.sub (ws' := [(qr, .inr (5, [.ref h0, .int (nI o)])), (h0, .inr (8, [.ref qb, .ref qu, .int uc, .int ln, .int (nI n), .int (nI u25), .int (nI i)])), (qb, .inl (cB, 4096, .inl bf)), (qu, .inl (cI, 4096, .inl ug))]) [0, 2, 3, 1] (by decide) rfl
          have hno : iCv bf n i = none := (iCv_m ht21).trans (by obtain ⟨r9, hd9, hm9⟩ := hw; exact iBv_big hd9 hm9)
          exact vx_out (fun x hx => (hex x hx).elim) hlocks hce hcv hcl (fun t9 ht2 ha => ⟨(nI u25, uc, (nI i), ug, (nI o)), hno, ⟨hEn, by rw [ht2]; exact hP, va_K.moved ha hK, hD⟩, hS.F ht2⟩) hS.2.2 (Nat.le_of_ble_eq_true rfl) (Nat.le_of_ble_eq_true rfl)
        · obtain ⟨⟨hP1, hK1, hD1⟩, hz9⟩ := hB
          rw [ht] at hP1
          rw [ht] at hz9
          refine w_tight (hq0.trans hz9) ?_
          have hq0 := hq0.trans hz9
          obtain ⟨hP, hD⟩ := va_join (wr := [(qr, .inr (5, [.ref h0, .int (nI o)])), (qu, .inl (cI, 4096, .inl ug))]) (w1 := [(h0, .inr (8, [.ref qb, .ref qu, .int uc, .int ln, .int (nI n), .int (nI u25), .int pl])), (qb, .inl (cB, 4096, .inl bf))]) hP hD [1, 2] [0, 3] rfl rfl (by decide) (by decide) hk1 hFc hP1 hD1
          generalize H1 = H at hP hS hq0 ⊢
          have hP : va_P (dC, dI) classes ([(qr, .inr (5, [.ref h0, .int (nI o)])), (qu, .inl (cI, 4096, .inl ug)), (h0, .inr (8, [.ref qb, .ref qu, .int uc, .int ln, .int (nI n), .int (nI u25), .int pl])), (qb, .inl (cB, 4096, .inl bf))]) H := hP
          have hD : va_D A ([(qr, .inr (5, [.ref h0, .int (nI o)])), (qu, .inl (cI, 4096, .inl ug)), (h0, .inr (8, [.ref qb, .ref qu, .int uc, .int ln, .int (nI n), .int (nI u25), .int pl])), (qb, .inl (cB, 4096, .inl bf))]) := hD
          have hP := hP.sub (ws' := [(qr, .inr (5, [.ref h0, .int (nI o)])), (h0, .inr (8, [.ref qb, .ref qu, .int uc, .int ln, .int (nI n), .int (nI u25), .int pl])), (qb, .inl (cB, 4096, .inl bf)), (qu, .inl (cI, 4096, .inl ug))]) [0, 2, 3, 1] rfl
          have hD := hD.sub (ws' := [(qr, .inr (5, [.ref h0, .int (nI o)])), (h0, .inr (8, [.ref qb, .ref qu, .int uc, .int ln, .int (nI n), .int (nI u25), .int pl])), (qb, .inl (cB, 4096, .inl bf)), (qu, .inl (cI, 4096, .inl ug))]) [0, 2, 3, 1] (by decide) rfl
          obtain ⟨hd25, hm25⟩ := hw
          have hb25 := digR_b hd25 (by omega)
          obtain ⟨ha25, he25, hz25⟩ := hb25
          have ha25 : (i + 1) ≤ u25 := ha25
          have he25 : u25 ≤ n := he25
          refine lv_lstore_n (lv' := [(3, .long r25), (2, .int 1), (1, .int (nI i)), (0, .ref qr)]) hx hb d_QueryReader_integer_83 rfl hl (by decide) rfl (fun ls hl => ?_)
          refine lv_iload_n hx hb d_QueryReader_integer_84 rfl (lv_at hl 1 rfl) ?_
          refine lv_if_eq (tgt := 93) hx hb d_QueryReader_integer_85 (by decide) (fun h => absurd h (by decide)) (fun _ => ?_)
          refine lv_lload_n hx hb d_QueryReader_integer_88 rfl (lv_at hl 0 rfl) ?_
          refine lv_lneg hx hb d_QueryReader_integer_89 ?_
          refine lv_goto (tgt := 94) hx hb d_QueryReader_integer_90 (by decide) ?_
          have hok : iCv bf n i = some (u25, (-r25)) := (iCv_m ht21).trans (iBv_ok hdg9 hn48 hd25 hm25)
          refine w_same (fun hq => ?_)
          refine W.widen (k := 1) (n := 6) (Nat.le_of_ble_eq_true rfl) (Nat.le_of_ble_eq_true rfl) ?_
          refine vx_ret ?_
          exact W.lret (v := (-r25)) hx hb hr (fun t9 ht hW => ⟨⟨(-r25), u25, rfl, ⟨by show i ≤ u25; omega, by show u25 ≤ n; omega, wi53_neg hz25 hm25, hok⟩, ⟨by rw [ht]; exact hP, va_K.moved hW.alike hK, hD⟩, by rw [ht]; exact hq⟩, hS.F ht⟩) hS.2.2 d_QueryReader_integer_94
      · refine lv_aload_n hx hb d_QueryReader_integer_61 rfl (lv_at hl 2 rfl) ?_
        refine va_get (D := (dC, dI)) (ci := 5) (v := .ref h0) (C := R_QueryReader) (T := F_QueryReader) (N := 2) hx hb hts in_QueryReader hown hK hP 0 rfl rfl 0 (by decide) (hts _ w_100) (fun _ h9 => h9) rfl d_QueryReader_integer_62 ?_
        refine lv_aload_n hx hb d_QueryReader_integer_65 rfl (lv_at hl 2 rfl) ?_
        refine va_get (D := (dC, dI)) (ci := 5) (v := .ref h0) (C := R_QueryReader) (T := F_QueryReader) (N := 2) hx hb hts in_QueryReader hown hK hP 0 rfl rfl 0 (by decide) (hts _ w_100) (fun _ h9 => h9) rfl d_QueryReader_integer_66 ?_
        refine va_get (D := (dC, dI)) (ci := 8) (v := .int (nI (i + 1))) (C := R_Tape) (T := F_Tape) (N := 7) hx hb hts in_Tape hown hK hP 1 rfl rfl 5 (by decide) (hts _ z_53) (fun _ h9 => h9) rfl d_QueryReader_integer_69 ?_
        have hPc := hP.sub (ws' := [(h0, .inr (8, [.ref qb, .ref qu, .int uc, .int ln, .int (nI n), .int (nI (i + 1)), .int pl])), (qb, .inl (cB, 4096, .inl bf))]) [1, 2] rfl
        have hDc := hD.sub (ws' := [(h0, .inr (8, [.ref qb, .ref qu, .int uc, .int ln, .int (nI n), .int (nI (i + 1)), .int pl])), (qb, .inl (cB, 4096, .inl bf))]) [1, 2] (by decide) rfl
        have hFc := va_free (wc := [(h0, .inr (8, [.ref qb, .ref qu, .int uc, .int ln, .int (nI n), .int (nI (i + 1)), .int pl])), (qb, .inl (cB, 4096, .inl bf))]) hD hS hA [1, 2] rfl
        have hKc := hK.sub (tys' := [(cB, .byte)]) [0] rfl
        refine w_same (fun hq0 => ?_)
        refine vx_callv (vx_runV (As := [.int (nI (i + 1))]) (rest := []) ⟨hx, hb, hml, hown, hts⟩ (c_Tape_fail l hl9 dC dI cB h0 qb H (.ref qu) uc ln (nI n) (nI ((i + 1))) pl bf ((nI (i + 1)))) (cwV 1 hts (gt_V (own := R_QueryReader) (C := R_Tape) (i := 28) (y := y_Tape_fail) i_Tape_fail z_535 w_371 w_372 w_2) rfl rfl rfl (by decide +kernel) ⟨Nat.le_of_ble_eq_true rfl, Nat.le_of_ble_eq_true rfl⟩) ⟨mx_blind, va_recv hK hP (ci := 8) (q0 := 1) rfl rfl, fun U hU hW => ⟨rfl, ⟨hU, by rw [hU]; exact hPc, va_K.moved hW.alike hKc, hDc.weaken (fun _ _ _ _ => trivial)⟩, hN.warm hW, by rw [hU]; exact ZX.moved' hW.alike (ZX.narrow' (ZX.kept' hZ hS.2.1) hFc)⟩⟩ rfl rfl hl.1 rfl (lv_room (Nat.le_of_ble_eq_true rfl)) d_QueryReader_integer_72 ⟨Nat.le_of_ble_eq_true rfl, Nat.le_of_ble_eq_true rfl⟩) hS (fun q _ h => hFc q h) hFc (fun q _ h => hFc q h) (fun En ce q9 _u t9 H1 locs ht hvm hw hB hz1 hk1 hS hce hcv hcl => ?_) (fun _u t9 H1 locs ht hvm hw hB hz1 hk1 hS => ?_)
        · obtain ⟨hEn, hP1, hK1, hD1⟩ := hB
          rw [ht] at hP1
          obtain ⟨hP, hD⟩ := va_join (wr := [(qr, .inr (5, [.ref h0, .int (nI o)])), (qu, .inl (cI, 4096, .inl ug))]) (w1 := [(h0, .inr (8, [.ref qb, .ref qu, .int uc, .int ln, .int (nI n), .int (nI (i + 1)), .int (nI (i + 1))])), (qb, .inl (cB, 4096, .inl bf))]) hP hD [1, 2] [0, 3] rfl rfl (by decide) (by decide) hk1 hFc hP1 hD1
          generalize H1 = H at hP hS hce ⊢
          have hP : va_P (dC, dI) classes ([(qr, .inr (5, [.ref h0, .int (nI o)])), (qu, .inl (cI, 4096, .inl ug)), (h0, .inr (8, [.ref qb, .ref qu, .int uc, .int ln, .int (nI n), .int (nI (i + 1)), .int (nI (i + 1))])), (qb, .inl (cB, 4096, .inl bf))]) H := hP
          have hD : va_D A ([(qr, .inr (5, [.ref h0, .int (nI o)])), (qu, .inl (cI, 4096, .inl ug)), (h0, .inr (8, [.ref qb, .ref qu, .int uc, .int ln, .int (nI n), .int (nI (i + 1)), .int (nI (i + 1))])), (qb, .inl (cB, 4096, .inl bf))]) := hD
          have hP := hP.sub (ws' := [(qr, .inr (5, [.ref h0, .int (nI o)])), (h0, .inr (8, [.ref qb, .ref qu, .int uc, .int ln, .int (nI n), .int (nI (i + 1)), .int (nI (i + 1))])), (qb, .inl (cB, 4096, .inl bf)), (qu, .inl (cI, 4096, .inl ug))]) [0, 2, 3, 1] rfl
          have hD := hD.sub (ws' := [(qr, .inr (5, [.ref h0, .int (nI o)])), (h0, .inr (8, [.ref qb, .ref qu, .int uc, .int ln, .int (nI n), .int (nI (i + 1)), .int (nI (i + 1))])), (qb, .inl (cB, 4096, .inl bf)), (qu, .inl (cI, 4096, .inl ug))]) [0, 2, 3, 1] (by decide) rfl
          have hno : iCv bf n i = none := (iCv_m ht21).trans (iBv_no (Or.inr (by rw [← h_h24]; exact c58)))
          exact vx_out (fun x hx => (hex x hx).elim) hlocks hce hcv hcl (fun t9 ht2 ha => ⟨(nI (i + 1), uc, (nI (i + 1)), ug, (nI o)), hno, ⟨hEn, by rw [ht2]; exact hP, va_K.moved ha hK, hD⟩, hS.F ht2⟩) hS.2.2 (Nat.le_of_ble_eq_true rfl) (Nat.le_of_ble_eq_true rfl)
        · obtain ⟨⟨hP1, hK1, hD1⟩, hz9⟩ := hB
          rw [ht] at hP1
          rw [ht] at hz9
          refine w_tight (hq0.trans hz9) ?_
          have hq0 := hq0.trans hz9
          obtain ⟨hP, hD⟩ := va_join (wr := [(qr, .inr (5, [.ref h0, .int (nI o)])), (qu, .inl (cI, 4096, .inl ug))]) (w1 := [(h0, .inr (8, [.ref qb, .ref qu, .int uc, .int ln, .int (nI n), .int (nI (i + 1)), .int pl])), (qb, .inl (cB, 4096, .inl bf))]) hP hD [1, 2] [0, 3] rfl rfl (by decide) (by decide) hk1 hFc hP1 hD1
          generalize H1 = H at hP hS hq0 ⊢
          have hP : va_P (dC, dI) classes ([(qr, .inr (5, [.ref h0, .int (nI o)])), (qu, .inl (cI, 4096, .inl ug)), (h0, .inr (8, [.ref qb, .ref qu, .int uc, .int ln, .int (nI n), .int (nI (i + 1)), .int pl])), (qb, .inl (cB, 4096, .inl bf))]) H := hP
          have hD : va_D A ([(qr, .inr (5, [.ref h0, .int (nI o)])), (qu, .inl (cI, 4096, .inl ug)), (h0, .inr (8, [.ref qb, .ref qu, .int uc, .int ln, .int (nI n), .int (nI (i + 1)), .int pl])), (qb, .inl (cB, 4096, .inl bf))]) := hD
          have hP := hP.sub (ws' := [(qr, .inr (5, [.ref h0, .int (nI o)])), (h0, .inr (8, [.ref qb, .ref qu, .int uc, .int ln, .int (nI n), .int (nI (i + 1)), .int pl])), (qb, .inl (cB, 4096, .inl bf)), (qu, .inl (cI, 4096, .inl ug))]) [0, 2, 3, 1] rfl
          have hD := hD.sub (ws' := [(qr, .inr (5, [.ref h0, .int (nI o)])), (h0, .inr (8, [.ref qb, .ref qu, .int uc, .int ln, .int (nI n), .int (nI (i + 1)), .int pl])), (qb, .inl (cB, 4096, .inl bf)), (qu, .inl (cI, 4096, .inl ug))]) [0, 2, 3, 1] (by decide) rfl
          exact hw.elim
  · have hu21 : u21 = i := hu21
    subst hr21
    rw [hu21] at hP hD
    have hP : va_P (dC, dI) classes ([(qr, .inr (5, [.ref h0, .int (nI o)])), (h0, .inr (8, [.ref qb, .ref qu, .int uc, .int ln, .int (nI n), .int (nI i), .int pl])), (qb, .inl (cB, 4096, .inl bf)), (qu, .inl (cI, 4096, .inl ug))]) H := hP
    have hD : va_D A ([(qr, .inr (5, [.ref h0, .int (nI o)])), (h0, .inr (8, [.ref qb, .ref qu, .int uc, .int ln, .int (nI n), .int (nI i), .int pl])), (qb, .inl (cB, 4096, .inl bf)), (qu, .inl (cI, 4096, .inl ug))]) := hD
    refine lv_istore_n (lv' := [(2, .int 0), (1, .int (nI i)), (0, .ref qr)]) hx hb d_QueryReader_integer_17 rfl hl (by decide) rfl (fun ls hl => ?_)
    refine lv_iload_n hx hb d_QueryReader_integer_18 rfl (lv_at hl 0 rfl) ?_
    refine lv_if_ne (tgt := 36) hx hb d_QueryReader_integer_19 (by decide) (fun h => absurd h (by decide)) (fun _ => ?_)
    refine lv_aload_n hx hb d_QueryReader_integer_22 rfl (lv_at hl 2 rfl) ?_
    refine va_get (D := (dC, dI)) (ci := 5) (v := .ref h0) (C := R_QueryReader) (T := F_QueryReader) (N := 2) hx hb hts in_QueryReader hown hK hP 0 rfl rfl 0 (by decide) (hts _ w_100) (fun _ h9 => h9) rfl d_QueryReader_integer_23 ?_
    refine lv_bipush (v := 48) hx hb d_QueryReader_integer_26 (by decide) ?_
    have hPc := hP.sub (ws' := [(h0, .inr (8, [.ref qb, .ref qu, .int uc, .int ln, .int (nI n), .int (nI i), .int pl])), (qb, .inl (cB, 4096, .inl bf))]) [1, 2] rfl
    have hDc := hD.sub (ws' := [(h0, .inr (8, [.ref qb, .ref qu, .int uc, .int ln, .int (nI n), .int (nI i), .int pl])), (qb, .inl (cB, 4096, .inl bf))]) [1, 2] (by decide) rfl
    have hFc := va_free (wc := [(h0, .inr (8, [.ref qb, .ref qu, .int uc, .int ln, .int (nI n), .int (nI i), .int pl])), (qb, .inl (cB, 4096, .inl bf))]) hD hS hA [1, 2] rfl
    have hKc := hK.sub (tys' := [(cB, .byte)]) [0] rfl
    refine va_calli (va_runV (As := [.int 48]) (rest := []) ⟨hx, hb, hml, hown, hts⟩ (c_Tape_takeIf l dC dI cB h0 qb H (.ref qu) uc ln pl bf n i 48 hn0 (by omega)) (cwV 1 hts (gt_V (own := R_QueryReader) (C := R_Tape) (i := 58) (y := y_Tape_takeIf) i_Tape_takeIf z_589 z_393 z_394 w_2) rfl rfl rfl (by decide +kernel) ⟨Nat.le_of_ble_eq_true rfl, Nat.le_of_ble_eq_true rfl⟩) ⟨mp_blind, va_recv hK hP (ci := 8) (q0 := 1) rfl rfl, fun U hU hW => ⟨rfl, hU, by rw [hU]; exact hPc, va_K.moved hW.alike hKc, hDc.weaken (fun _ _ _ _ => trivial)⟩⟩ rfl rfl hl.1 rfl (lv_room (Nat.le_of_ble_eq_true rfl)) d_QueryReader_integer_28 ⟨Nat.le_of_ble_eq_true rfl, Nat.le_of_ble_eq_true rfl⟩) hS (fun q _ h => hFc q h) hFc (fun r26 u26 t9 H1 locs ht hvm hw hB hz1 hk1 hS => ?_)
    obtain ⟨hP1, hK1, hD1⟩ := hB
    rw [ht] at hP1
    obtain ⟨hP, hD⟩ := va_join (wr := [(qr, .inr (5, [.ref h0, .int (nI o)])), (qu, .inl (cI, 4096, .inl ug))]) (w1 := [(h0, .inr (8, [.ref qb, .ref qu, .int uc, .int ln, .int (nI n), .int (nI u26), .int pl])), (qb, .inl (cB, 4096, .inl bf))]) hP hD [1, 2] [0, 3] rfl rfl (by decide) (by decide) hk1 hFc hP1 hD1
    generalize H1 = H at hP hS ⊢
    have hP : va_P (dC, dI) classes ([(qr, .inr (5, [.ref h0, .int (nI o)])), (qu, .inl (cI, 4096, .inl ug)), (h0, .inr (8, [.ref qb, .ref qu, .int uc, .int ln, .int (nI n), .int (nI u26), .int pl])), (qb, .inl (cB, 4096, .inl bf))]) H := hP
    have hD : va_D A ([(qr, .inr (5, [.ref h0, .int (nI o)])), (qu, .inl (cI, 4096, .inl ug)), (h0, .inr (8, [.ref qb, .ref qu, .int uc, .int ln, .int (nI n), .int (nI u26), .int pl])), (qb, .inl (cB, 4096, .inl bf))]) := hD
    have hP := hP.sub (ws' := [(qr, .inr (5, [.ref h0, .int (nI o)])), (h0, .inr (8, [.ref qb, .ref qu, .int uc, .int ln, .int (nI n), .int (nI u26), .int pl])), (qb, .inl (cB, 4096, .inl bf)), (qu, .inl (cI, 4096, .inl ug))]) [0, 2, 3, 1] rfl
    have hD := hD.sub (ws' := [(qr, .inr (5, [.ref h0, .int (nI o)])), (h0, .inr (8, [.ref qb, .ref qu, .int uc, .int ln, .int (nI n), .int (nI u26), .int pl])), (qb, .inl (cB, 4096, .inl bf)), (qu, .inl (cI, 4096, .inl ug))]) [0, 2, 3, 1] (by decide) rfl
    rcases hw with ⟨ht26, hr26, hu26⟩ | ⟨ht26, hr26, hu26⟩
    · have hu26 : u26 = i + 1 := hu26
      subst hr26
      rw [hu26] at hP hD
      have hl26 := here_lc ht26 (by decide)
      have hP : va_P (dC, dI) classes ([(qr, .inr (5, [.ref h0, .int (nI o)])), (h0, .inr (8, [.ref qb, .ref qu, .int uc, .int ln, .int (nI n), .int (nI (i + 1)), .int pl])), (qb, .inl (cB, 4096, .inl bf)), (qu, .inl (cI, 4096, .inl ug))]) H := hP
      have hD : va_D A ([(qr, .inr (5, [.ref h0, .int (nI o)])), (h0, .inr (8, [.ref qb, .ref qu, .int uc, .int ln, .int (nI n), .int (nI (i + 1)), .int pl])), (qb, .inl (cB, 4096, .inl bf)), (qu, .inl (cI, 4096, .inl ug))]) := hD
      refine lv_if_eq (tgt := 36) hx hb d_QueryReader_integer_31 (by decide) (fun h => absurd h (by decide)) (fun _ => ?_)
      refine lv_lconst (v := 0) hx hb d_QueryReader_integer_34 (by decide) ?_
      have hok : iCv bf n i = some ((i + 1), 0) := iCv_0 ht21 ht26
      refine w_same (fun hq => ?_)
      refine W.widen (k := 1) (n := 6) (Nat.le_of_ble_eq_true rfl) (Nat.le_of_ble_eq_true rfl) ?_
      refine vx_ret ?_
      exact W.lret (v := 0) hx hb hr (fun t9 ht hW => ⟨⟨0, (i + 1), rfl, ⟨by show i ≤ (i + 1); omega, by show (i + 1) ≤ n; omega, ⟨by decide, by decide⟩, hok⟩, ⟨by rw [ht]; exact hP, va_K.moved hW.alike hK, hD⟩, by rw [ht]; exact hq⟩, hS.F ht⟩) hS.2.2 d_QueryReader_integer_35
    · have hu26 : u26 = i := hu26
      subst hr26
      rw [hu26] at hP hD
      have hP : va_P (dC, dI) classes ([(qr, .inr (5, [.ref h0, .int (nI o)])), (h0, .inr (8, [.ref qb, .ref qu, .int uc, .int ln, .int (nI n), .int (nI i), .int pl])), (qb, .inl (cB, 4096, .inl bf)), (qu, .inl (cI, 4096, .inl ug))]) H := hP
      have hD : va_D A ([(qr, .inr (5, [.ref h0, .int (nI o)])), (h0, .inr (8, [.ref qb, .ref qu, .int uc, .int ln, .int (nI n), .int (nI i), .int pl])), (qb, .inl (cB, 4096, .inl bf)), (qu, .inl (cI, 4096, .inl ug))]) := hD
      refine lv_if_eq (tgt := 36) hx hb d_QueryReader_integer_31 (by decide) (fun _ => ?_) (fun h => absurd (by decide) h)
      refine lv_aload_n hx hb d_QueryReader_integer_36 rfl (lv_at hl 2 rfl) ?_
      refine va_get (D := (dC, dI)) (ci := 5) (v := .ref h0) (C := R_QueryReader) (T := F_QueryReader) (N := 2) hx hb hts in_QueryReader hown hK hP 0 rfl rfl 0 (by decide) (hts _ w_100) (fun _ h9 => h9) rfl d_QueryReader_integer_37 ?_
      have hPc := hP.sub (ws' := [(h0, .inr (8, [.ref qb, .ref qu, .int uc, .int ln, .int (nI n), .int (nI i), .int pl])), (qb, .inl (cB, 4096, .inl bf))]) [1, 2] rfl
      have hDc := hD.sub (ws' := [(h0, .inr (8, [.ref qb, .ref qu, .int uc, .int ln, .int (nI n), .int (nI i), .int pl])), (qb, .inl (cB, 4096, .inl bf))]) [1, 2] (by decide) rfl
      have hFc := va_free (wc := [(h0, .inr (8, [.ref qb, .ref qu, .int uc, .int ln, .int (nI n), .int (nI i), .int pl])), (qb, .inl (cB, 4096, .inl bf))]) hD hS hA [1, 2] rfl
      have hKc := hK.sub (tys' := [(cB, .byte)]) [0] rfl
      refine va_calli (va_runV (As := []) (rest := []) ⟨hx, hb, hml, hown, hts⟩ (c_Tape_here l dC dI cB h0 qb H (.ref qu) uc ln pl bf n i hn0 (by omega)) (cwV 0 hts (gt_V (own := R_QueryReader) (C := R_Tape) (i := 19) (y := y_Tape_here) i_Tape_here z_534 w_363 w_364 w_2) rfl rfl rfl (by decide +kernel) ⟨Nat.le_of_ble_eq_true rfl, Nat.le_of_ble_eq_true rfl⟩) ⟨mp_blind, va_recv hK hP (ci := 8) (q0 := 1) rfl rfl, fun U hU hW => ⟨rfl, hU, by rw [hU]; exact hPc, va_K.moved hW.alike hKc, hDc.weaken (fun _ _ _ _ => trivial)⟩⟩ rfl rfl hl.1 rfl (lv_room (Nat.le_of_ble_eq_true rfl)) d_QueryReader_integer_40 ⟨Nat.le_of_ble_eq_true rfl, Nat.le_of_ble_eq_true rfl⟩) hS (fun q _ h => hFc q h) hFc (fun h27 _u t9 H1 locs ht hvm hw hB hz1 hk1 hS => ?_)
      obtain ⟨hP1, hK1, hD1⟩ := hB
      rw [ht] at hP1
      obtain ⟨hP, hD⟩ := va_join (wr := [(qr, .inr (5, [.ref h0, .int (nI o)])), (qu, .inl (cI, 4096, .inl ug))]) (w1 := [(h0, .inr (8, [.ref qb, .ref qu, .int uc, .int ln, .int (nI n), .int (nI i), .int pl])), (qb, .inl (cB, 4096, .inl bf))]) hP hD [1, 2] [0, 3] rfl rfl (by decide) (by decide) hk1 hFc hP1 hD1
      generalize H1 = H at hP hS ⊢
      have hP : va_P (dC, dI) classes ([(qr, .inr (5, [.ref h0, .int (nI o)])), (qu, .inl (cI, 4096, .inl ug)), (h0, .inr (8, [.ref qb, .ref qu, .int uc, .int ln, .int (nI n), .int (nI i), .int pl])), (qb, .inl (cB, 4096, .inl bf))]) H := hP
      have hD : va_D A ([(qr, .inr (5, [.ref h0, .int (nI o)])), (qu, .inl (cI, 4096, .inl ug)), (h0, .inr (8, [.ref qb, .ref qu, .int uc, .int ln, .int (nI n), .int (nI i), .int pl])), (qb, .inl (cB, 4096, .inl bf))]) := hD
      have hP := hP.sub (ws' := [(qr, .inr (5, [.ref h0, .int (nI o)])), (h0, .inr (8, [.ref qb, .ref qu, .int uc, .int ln, .int (nI n), .int (nI i), .int pl])), (qb, .inl (cB, 4096, .inl bf)), (qu, .inl (cI, 4096, .inl ug))]) [0, 2, 3, 1] rfl
      have hD := hD.sub (ws' := [(qr, .inr (5, [.ref h0, .int (nI o)])), (h0, .inr (8, [.ref qb, .ref qu, .int uc, .int ln, .int (nI n), .int (nI i), .int pl])), (qb, .inl (cB, 4096, .inl bf)), (qu, .inl (cI, 4096, .inl ug))]) [0, 2, 3, 1] (by decide) rfl
      have h_h27 : h27 = hereV bf n i := hw
      refine vp_callSi (va_Run.run (va_runSN (As := [.int h27]) (rest := []) ⟨hx, hb, hml, hown, hts⟩ (g_QB_isDigit l dC dI H h27) (⟨va_cnB (host := "QueryBench") 1 hts (gt_code i_QB_isDigit) rfl rfl rfl (hN _ nz_780) (hts _ w_1) (by decide +kernel) ⟨Nat.le_of_ble_eq_true rfl, Nat.le_of_ble_eq_true rfl⟩, hts _ w_510, trivial⟩) ⟨mT_blind, fun U hU hW => ⟨rfl, hN.warm hW⟩⟩ rfl rfl hl.1 rfl (lv_room (Nat.le_of_ble_eq_true rfl)) d_QueryReader_integer_43 ⟨Nat.le_of_ble_eq_true rfl, Nat.le_of_ble_eq_true rfl⟩)) (fun r28 h_r28 => ?_)
      refine lv_if_eq (tgt := 61) hx hb d_QueryReader_integer_46 (by decide) (fun c46 => ?_) (fun c46 => ?_)
      · refine lv_aload_n hx hb d_QueryReader_integer_61 rfl (lv_at hl 2 rfl) ?_
        refine va_get (D := (dC, dI)) (ci := 5) (v := .ref h0) (C := R_QueryReader) (T := F_QueryReader) (N := 2) hx hb hts in_QueryReader hown hK hP 0 rfl rfl 0 (by decide) (hts _ w_100) (fun _ h9 => h9) rfl d_QueryReader_integer_62 ?_
        refine lv_aload_n hx hb d_QueryReader_integer_65 rfl (lv_at hl 2 rfl) ?_
        refine va_get (D := (dC, dI)) (ci := 5) (v := .ref h0) (C := R_QueryReader) (T := F_QueryReader) (N := 2) hx hb hts in_QueryReader hown hK hP 0 rfl rfl 0 (by decide) (hts _ w_100) (fun _ h9 => h9) rfl d_QueryReader_integer_66 ?_
        refine va_get (D := (dC, dI)) (ci := 8) (v := .int (nI i)) (C := R_Tape) (T := F_Tape) (N := 7) hx hb hts in_Tape hown hK hP 1 rfl rfl 5 (by decide) (hts _ z_53) (fun _ h9 => h9) rfl d_QueryReader_integer_69 ?_
        have hPc := hP.sub (ws' := [(h0, .inr (8, [.ref qb, .ref qu, .int uc, .int ln, .int (nI n), .int (nI i), .int pl])), (qb, .inl (cB, 4096, .inl bf))]) [1, 2] rfl
        have hDc := hD.sub (ws' := [(h0, .inr (8, [.ref qb, .ref qu, .int uc, .int ln, .int (nI n), .int (nI i), .int pl])), (qb, .inl (cB, 4096, .inl bf))]) [1, 2] (by decide) rfl
        have hFc := va_free (wc := [(h0, .inr (8, [.ref qb, .ref qu, .int uc, .int ln, .int (nI n), .int (nI i), .int pl])), (qb, .inl (cB, 4096, .inl bf))]) hD hS hA [1, 2] rfl
        have hKc := hK.sub (tys' := [(cB, .byte)]) [0] rfl
        refine w_same (fun hq0 => ?_)
        refine vx_callv (vx_runV (As := [.int (nI i)]) (rest := []) ⟨hx, hb, hml, hown, hts⟩ (c_Tape_fail l hl9 dC dI cB h0 qb H (.ref qu) uc ln (nI n) (nI i) pl bf ((nI i))) (cwV 1 hts (gt_V (own := R_QueryReader) (C := R_Tape) (i := 28) (y := y_Tape_fail) i_Tape_fail z_535 w_371 w_372 w_2) rfl rfl rfl (by decide +kernel) ⟨Nat.le_of_ble_eq_true rfl, Nat.le_of_ble_eq_true rfl⟩) ⟨mx_blind, va_recv hK hP (ci := 8) (q0 := 1) rfl rfl, fun U hU hW => ⟨rfl, ⟨hU, by rw [hU]; exact hPc, va_K.moved hW.alike hKc, hDc.weaken (fun _ _ _ _ => trivial)⟩, hN.warm hW, by rw [hU]; exact ZX.moved' hW.alike (ZX.narrow' (ZX.kept' hZ hS.2.1) hFc)⟩⟩ rfl rfl hl.1 rfl (lv_room (Nat.le_of_ble_eq_true rfl)) d_QueryReader_integer_72 ⟨Nat.le_of_ble_eq_true rfl, Nat.le_of_ble_eq_true rfl⟩) hS (fun q _ h => hFc q h) hFc (fun q _ h => hFc q h) (fun En ce q9 _u t9 H1 locs ht hvm hw hB hz1 hk1 hS hce hcv hcl => ?_) (fun _u t9 H1 locs ht hvm hw hB hz1 hk1 hS => ?_)
        · obtain ⟨hEn, hP1, hK1, hD1⟩ := hB
          rw [ht] at hP1
          obtain ⟨hP, hD⟩ := va_join (wr := [(qr, .inr (5, [.ref h0, .int (nI o)])), (qu, .inl (cI, 4096, .inl ug))]) (w1 := [(h0, .inr (8, [.ref qb, .ref qu, .int uc, .int ln, .int (nI n), .int (nI i), .int (nI i)])), (qb, .inl (cB, 4096, .inl bf))]) hP hD [1, 2] [0, 3] rfl rfl (by decide) (by decide) hk1 hFc hP1 hD1
          generalize H1 = H at hP hS hce ⊢
          have hP : va_P (dC, dI) classes ([(qr, .inr (5, [.ref h0, .int (nI o)])), (qu, .inl (cI, 4096, .inl ug)), (h0, .inr (8, [.ref qb, .ref qu, .int uc, .int ln, .int (nI n), .int (nI i), .int (nI i)])), (qb, .inl (cB, 4096, .inl bf))]) H := hP
          have hD : va_D A ([(qr, .inr (5, [.ref h0, .int (nI o)])), (qu, .inl (cI, 4096, .inl ug)), (h0, .inr (8, [.ref qb, .ref qu, .int uc, .int ln, .int (nI n), .int (nI i), .int (nI i)])), (qb, .inl (cB, 4096, .inl bf))]) := hD
          have hP := hP.sub (ws' := [(qr, .inr (5, [.ref h0, .int (nI o)])), (h0, .inr (8, [.ref qb, .ref qu, .int uc, .int ln, .int (nI n), .int (nI i), .int (nI i)])), (qb, .inl (cB, 4096, .inl bf)), (qu, .inl (cI, 4096, .inl ug))]) [0, 2, 3, 1] rfl
          have hD := hD.sub (ws' := [(qr, .inr (5, [.ref h0, .int (nI o)])), (h0, .inr (8, [.ref qb, .ref qu, .int uc, .int ln, .int (nI n), .int (nI i), .int (nI i)])), (qb, .inl (cB, 4096, .inl bf)), (qu, .inl (cI, 4096, .inl ug))]) [0, 2, 3, 1] (by decide) rfl
          have hno : iCv bf n i = none := (iCv_p ht21 ht26).trans (iBv_no (Or.inl (by rw [← h_h27]; exact h_r28.2.2 c46)))
          exact vx_out (fun x hx => (hex x hx).elim) hlocks hce hcv hcl (fun t9 ht2 ha => ⟨(nI i, uc, (nI i), ug, (nI o)), hno, ⟨hEn, by rw [ht2]; exact hP, va_K.moved ha hK, hD⟩, hS.F ht2⟩) hS.2.2 (Nat.le_of_ble_eq_true rfl) (Nat.le_of_ble_eq_true rfl)
        · obtain ⟨⟨hP1, hK1, hD1⟩, hz9⟩ := hB
          rw [ht] at hP1
          rw [ht] at hz9
          refine w_tight (hq0.trans hz9) ?_
          have hq0 := hq0.trans hz9
          obtain ⟨hP, hD⟩ := va_join (wr := [(qr, .inr (5, [.ref h0, .int (nI o)])), (qu, .inl (cI, 4096, .inl ug))]) (w1 := [(h0, .inr (8, [.ref qb, .ref qu, .int uc, .int ln, .int (nI n), .int (nI i), .int pl])), (qb, .inl (cB, 4096, .inl bf))]) hP hD [1, 2] [0, 3] rfl rfl (by decide) (by decide) hk1 hFc hP1 hD1
          generalize H1 = H at hP hS hq0 ⊢
          have hP : va_P (dC, dI) classes ([(qr, .inr (5, [.ref h0, .int (nI o)])), (qu, .inl (cI, 4096, .inl ug)), (h0, .inr (8, [.ref qb, .ref qu, .int uc, .int ln, .int (nI n), .int (nI i), .int pl])), (qb, .inl (cB, 4096, .inl bf))]) H := hP
          have hD : va_D A ([(qr, .inr (5, [.ref h0, .int (nI o)])), (qu, .inl (cI, 4096, .inl ug)), (h0, .inr (8, [.ref qb, .ref qu, .int uc, .int ln, .int (nI n), .int (nI i), .int pl])), (qb, .inl (cB, 4096, .inl bf))]) := hD
          have hP := hP.sub (ws' := [(qr, .inr (5, [.ref h0, .int (nI o)])), (h0, .inr (8, [.ref qb, .ref qu, .int uc, .int ln, .int (nI n), .int (nI i), .int pl])), (qb, .inl (cB, 4096, .inl bf)), (qu, .inl (cI, 4096, .inl ug))]) [0, 2, 3, 1] rfl
          have hD := hD.sub (ws' := [(qr, .inr (5, [.ref h0, .int (nI o)])), (h0, .inr (8, [.ref qb, .ref qu, .int uc, .int ln, .int (nI n), .int (nI i), .int pl])), (qb, .inl (cB, 4096, .inl bf)), (qu, .inl (cI, 4096, .inl ug))]) [0, 2, 3, 1] (by decide) rfl
          exact hw.elim
      · have hdg9 : digH (hereV bf n i) := by rw [← h_h27]; exact h_r28.2.1 c46
        refine lv_aload_n hx hb d_QueryReader_integer_49 rfl (lv_at hl 2 rfl) ?_
        refine va_get (D := (dC, dI)) (ci := 5) (v := .ref h0) (C := R_QueryReader) (T := F_QueryReader) (N := 2) hx hb hts in_QueryReader hown hK hP 0 rfl rfl 0 (by decide) (hts _ w_100) (fun _ h9 => h9) rfl d_QueryReader_integer_50 ?_
        have hPc := hP.sub (ws' := [(h0, .inr (8, [.ref qb, .ref qu, .int uc, .int ln, .int (nI n), .int (nI i), .int pl])), (qb, .inl (cB, 4096, .inl bf))]) [1, 2] rfl
        have hDc := hD.sub (ws' := [(h0, .inr (8, [.ref qb, .ref qu, .int uc, .int ln, .int (nI n), .int (nI i), .int pl])), (qb, .inl (cB, 4096, .inl bf))]) [1, 2] (by decide) rfl
        have hFc := va_free (wc := [(h0, .inr (8, [.ref qb, .ref qu, .int uc, .int ln, .int (nI n), .int (nI i), .int pl])), (qb, .inl (cB, 4096, .inl bf))]) hD hS hA [1, 2] rfl
        have hKc := hK.sub (tys' := [(cB, .byte)]) [0] rfl
        refine va_calli (va_runV (As := []) (rest := []) ⟨hx, hb, hml, hown, hts⟩ (c_Tape_here l dC dI cB h0 qb H (.ref qu) uc ln pl bf n i hn0 (by omega)) (cwV 0 hts (gt_V (own := R_QueryReader) (C := R_Tape) (i := 19) (y := y_Tape_here) i_Tape_here z_534 w_363 w_364 w_2) rfl rfl rfl (by decide +kernel) ⟨Nat.le_of_ble_eq_true rfl, Nat.le_of_ble_eq_true rfl⟩) ⟨mp_blind, va_recv hK hP (ci := 8) (q0 := 1) rfl rfl, fun U hU hW => ⟨rfl, hU, by rw [hU]; exact hPc, va_K.moved hW.alike hKc, hDc.weaken (fun _ _ _ _ => trivial)⟩⟩ rfl rfl hl.1 rfl (lv_room (Nat.le_of_ble_eq_true rfl)) d_QueryReader_integer_53 ⟨Nat.le_of_ble_eq_true rfl, Nat.le_of_ble_eq_true rfl⟩) hS (fun q _ h => hFc q h) hFc (fun h29 _u t9 H1 locs ht hvm hw hB hz1 hk1 hS => ?_)
        obtain ⟨hP1, hK1, hD1⟩ := hB
        rw [ht] at hP1
        obtain ⟨hP, hD⟩ := va_join (wr := [(qr, .inr (5, [.ref h0, .int (nI o)])), (qu, .inl (cI, 4096, .inl ug))]) (w1 := [(h0, .inr (8, [.ref qb, .ref qu, .int uc, .int ln, .int (nI n), .int (nI i), .int pl])), (qb, .inl (cB, 4096, .inl bf))]) hP hD [1, 2] [0, 3] rfl rfl (by decide) (by decide) hk1 hFc hP1 hD1
        generalize H1 = H at hP hS ⊢
        have hP : va_P (dC, dI) classes ([(qr, .inr (5, [.ref h0, .int (nI o)])), (qu, .inl (cI, 4096, .inl ug)), (h0, .inr (8, [.ref qb, .ref qu, .int uc, .int ln, .int (nI n), .int (nI i), .int pl])), (qb, .inl (cB, 4096, .inl bf))]) H := hP
        have hD : va_D A ([(qr, .inr (5, [.ref h0, .int (nI o)])), (qu, .inl (cI, 4096, .inl ug)), (h0, .inr (8, [.ref qb, .ref qu, .int uc, .int ln, .int (nI n), .int (nI i), .int pl])), (qb, .inl (cB, 4096, .inl bf))]) := hD
        have hP := hP.sub (ws' := [(qr, .inr (5, [.ref h0, .int (nI o)])), (h0, .inr (8, [.ref qb, .ref qu, .int uc, .int ln, .int (nI n), .int (nI i), .int pl])), (qb, .inl (cB, 4096, .inl bf)), (qu, .inl (cI, 4096, .inl ug))]) [0, 2, 3, 1] rfl
        have hD := hD.sub (ws' := [(qr, .inr (5, [.ref h0, .int (nI o)])), (h0, .inr (8, [.ref qb, .ref qu, .int uc, .int ln, .int (nI n), .int (nI i), .int pl])), (qb, .inl (cB, 4096, .inl bf)), (qu, .inl (cI, 4096, .inl ug))]) [0, 2, 3, 1] (by decide) rfl
        have h_h29 : h29 = hereV bf n i := hw
        refine lv_bipush (v := 48) hx hb d_QueryReader_integer_56 (by decide) ?_
        refine lv_icmp_ne (tgt := 75) hx hb d_QueryReader_integer_58 (by decide) (fun c58 => ?_) (fun c58 => ?_)
        · have hn48 : ¬ hereV bf n i = 48 := by rw [← h_h29]; exact c58
          refine lv_aload_n hx hb d_QueryReader_integer_75 rfl (lv_at hl 2 rfl) ?_
          refine va_get (D := (dC, dI)) (ci := 5) (v := .ref h0) (C := R_QueryReader) (T := F_QueryReader) (N := 2) hx hb hts in_QueryReader hown hK hP 0 rfl rfl 0 (by decide) (hts _ w_100) (fun _ h9 => h9) rfl d_QueryReader_integer_76 ?_
          refine lv_iload_n hx hb d_QueryReader_integer_79 rfl (lv_at hl 1 rfl) ?_
          have hPc := hP.sub (ws' := [(h0, .inr (8, [.ref qb, .ref qu, .int uc, .int ln, .int (nI n), .int (nI i), .int pl])), (qb, .inl (cB, 4096, .inl bf))]) [1, 2] rfl
          have hDc := hD.sub (ws' := [(h0, .inr (8, [.ref qb, .ref qu, .int uc, .int ln, .int (nI n), .int (nI i), .int pl])), (qb, .inl (cB, 4096, .inl bf))]) [1, 2] (by decide) rfl
          have hFc := va_free (wc := [(h0, .inr (8, [.ref qb, .ref qu, .int uc, .int ln, .int (nI n), .int (nI i), .int pl])), (qb, .inl (cB, 4096, .inl bf))]) hD hS hA [1, 2] rfl
          have hKc := hK.sub (tys' := [(cB, .byte)]) [0] rfl
          refine w_same (fun hq0 => ?_)
          refine vx_calll (vx_runV (As := [.int (nI i)]) (rest := []) ⟨hx, hb, hml, hown, hts⟩ (c_Tape_digits l hl9 dC dI cB h0 qb H (.ref qu) uc ln pl bf n i ((nI i)) hn0 (by omega)) (cwV 1 hts (gt_V (own := R_QueryReader) (C := R_Tape) (i := 152) (y := y_Tape_digits) i_Tape_digits z_781 z_513 z_514 w_2) rfl rfl rfl (by decide +kernel) ⟨Nat.le_of_ble_eq_true rfl, Nat.le_of_ble_eq_true rfl⟩) ⟨mx_blind, va_recv hK hP (ci := 8) (q0 := 1) rfl rfl, fun U hU hW => ⟨rfl, ⟨hU, by rw [hU]; exact hPc, va_K.moved hW.alike hKc, hDc.weaken (fun _ _ _ _ => trivial)⟩, hN.warm hW, by rw [hU]; exact ZX.moved' hW.alike (ZX.narrow' (ZX.kept' hZ hS.2.1) hFc)⟩⟩ rfl rfl hl.1 rfl (lv_room (Nat.le_of_ble_eq_true rfl)) d_QueryReader_integer_80 ⟨Nat.le_of_ble_eq_true rfl, Nat.le_of_ble_eq_true rfl⟩) hS (fun q _ h => hFc q h) hFc (fun q _ h => hFc q h) (fun En ce q9 u30 t9 H1 locs ht hvm hw hB hz1 hk1 hS hce hcv hcl => ?_) (fun r30 u30 t9 H1 locs ht hvm hw hB hz1 hk1 hS => ?_)
          · obtain ⟨hEn, hP1, hK1, hD1⟩ := hB
            rw [ht] at hP1
            obtain ⟨hP, hD⟩ := va_join (wr := [(qr, .inr (5, [.ref h0, .int (nI o)])), (qu, .inl (cI, 4096, .inl ug))]) (w1 := [(h0, .inr (8, [.ref qb, .ref qu, .int uc, .int ln, .int (nI n), .int (nI u30), .int (nI i)])), (qb, .inl (cB, 4096, .inl bf))]) hP hD [1, 2] [0, 3] rfl rfl (by decide) (by decide) hk1 hFc hP1 hD1
            generalize H1 = H at hP hS hce ⊢
            have hP : va_P (dC, dI) classes ([(qr, .inr (5, [.ref h0, .int (nI o)])), (qu, .inl (cI, 4096, .inl ug)), (h0, .inr (8, [.ref qb, .ref qu, .int uc, .int ln, .int (nI n), .int (nI u30), .int (nI i)])), (qb, .inl (cB, 4096, .inl bf))]) H := hP
            have hD : va_D A ([(qr, .inr (5, [.ref h0, .int (nI o)])), (qu, .inl (cI, 4096, .inl ug)), (h0, .inr (8, [.ref qb, .ref qu, .int uc, .int ln, .int (nI n), .int (nI u30), .int (nI i)])), (qb, .inl (cB, 4096, .inl bf))]) := hD
            have hP := hP.sub (ws' := [(qr, .inr (5, [.ref h0, .int (nI o)])), (h0, .inr (8, [.ref qb, .ref qu, .int uc, .int ln, .int (nI n), .int (nI u30), .int (nI i)])), (qb, .inl (cB, 4096, .inl bf)), (qu, .inl (cI, 4096, .inl ug))]) [0, 2, 3, 1] rfl
            have hD := hD.sub (ws' := [(qr, .inr (5, [.ref h0, .int (nI o)])), (h0, .inr (8, [.ref qb, .ref qu, .int uc, .int ln, .int (nI n), .int (nI u30), .int (nI i)])), (qb, .inl (cB, 4096, .inl bf)), (qu, .inl (cI, 4096, .inl ug))]) [0, 2, 3, 1] (by decide) rfl
            have hno : iCv bf n i = none := (iCv_p ht21 ht26).trans (by obtain ⟨r9, hd9, hm9⟩ := hw; exact iBv_big hd9 hm9)
            exact vx_out (fun x hx => (hex x hx).elim) hlocks hce hcv hcl (fun t9 ht2 ha => ⟨(nI u30, uc, (nI i), ug, (nI o)), hno, ⟨hEn, by rw [ht2]; exact hP, va_K.moved ha hK, hD⟩, hS.F ht2⟩) hS.2.2 (Nat.le_of_ble_eq_true rfl) (Nat.le_of_ble_eq_true rfl)
          · obtain ⟨⟨hP1, hK1, hD1⟩, hz9⟩ := hB
            rw [ht] at hP1
            rw [ht] at hz9
            refine w_tight (hq0.trans hz9) ?_
            have hq0 := hq0.trans hz9
            obtain ⟨hP, hD⟩ := va_join (wr := [(qr, .inr (5, [.ref h0, .int (nI o)])), (qu, .inl (cI, 4096, .inl ug))]) (w1 := [(h0, .inr (8, [.ref qb, .ref qu, .int uc, .int ln, .int (nI n), .int (nI u30), .int pl])), (qb, .inl (cB, 4096, .inl bf))]) hP hD [1, 2] [0, 3] rfl rfl (by decide) (by decide) hk1 hFc hP1 hD1
            generalize H1 = H at hP hS hq0 ⊢
            have hP : va_P (dC, dI) classes ([(qr, .inr (5, [.ref h0, .int (nI o)])), (qu, .inl (cI, 4096, .inl ug)), (h0, .inr (8, [.ref qb, .ref qu, .int uc, .int ln, .int (nI n), .int (nI u30), .int pl])), (qb, .inl (cB, 4096, .inl bf))]) H := hP
            have hD : va_D A ([(qr, .inr (5, [.ref h0, .int (nI o)])), (qu, .inl (cI, 4096, .inl ug)), (h0, .inr (8, [.ref qb, .ref qu, .int uc, .int ln, .int (nI n), .int (nI u30), .int pl])), (qb, .inl (cB, 4096, .inl bf))]) := hD
            have hP := hP.sub (ws' := [(qr, .inr (5, [.ref h0, .int (nI o)])), (h0, .inr (8, [.ref qb, .ref qu, .int uc, .int ln, .int (nI n), .int (nI u30), .int pl])), (qb, .inl (cB, 4096, .inl bf)), (qu, .inl (cI, 4096, .inl ug))]) [0, 2, 3, 1] rfl
            have hD := hD.sub (ws' := [(qr, .inr (5, [.ref h0, .int (nI o)])), (h0, .inr (8, [.ref qb, .ref qu, .int uc, .int ln, .int (nI n), .int (nI u30), .int pl])), (qb, .inl (cB, 4096, .inl bf)), (qu, .inl (cI, 4096, .inl ug))]) [0, 2, 3, 1] (by decide) rfl
            obtain ⟨hd30, hm30⟩ := hw
            have hb30 := digR_b hd30 (by omega)
            obtain ⟨ha30, he30, hz30⟩ := hb30
            have ha30 : i ≤ u30 := ha30
            have he30 : u30 ≤ n := he30
            refine lv_lstore_n (lv' := [(3, .long r30), (2, .int 0), (1, .int (nI i)), (0, .ref qr)]) hx hb d_QueryReader_integer_83 rfl hl (by decide) rfl (fun ls hl => ?_)
            refine lv_iload_n hx hb d_QueryReader_integer_84 rfl (lv_at hl 1 rfl) ?_
            refine lv_if_eq (tgt := 93) hx hb d_QueryReader_integer_85 (by decide) (fun _ => ?_) (fun h => absurd (by decide) h)
            refine lv_lload_n hx hb d_QueryReader_integer_93 rfl (lv_at hl 0 rfl) ?_
            have hok : iCv bf n i = some (u30, r30) := (iCv_p ht21 ht26).trans (iBv_ok hdg9 hn48 hd30 hm30)
            refine w_same (fun hq => ?_)
            refine W.widen (k := 1) (n := 6) (Nat.le_of_ble_eq_true rfl) (Nat.le_of_ble_eq_true rfl) ?_
            refine vx_ret ?_
            exact W.lret (v := r30) hx hb hr (fun t9 ht hW => ⟨⟨r30, u30, rfl, ⟨by show i ≤ u30; omega, by show u30 ≤ n; omega, wi53_pos hz30 hm30, hok⟩, ⟨by rw [ht]; exact hP, va_K.moved hW.alike hK, hD⟩, by rw [ht]; exact hq⟩, hS.F ht⟩) hS.2.2 d_QueryReader_integer_94
        · refine lv_aload_n hx hb d_QueryReader_integer_61 rfl (lv_at hl 2 rfl) ?_
          refine va_get (D := (dC, dI)) (ci := 5) (v := .ref h0) (C := R_QueryReader) (T := F_QueryReader) (N := 2) hx hb hts in_QueryReader hown hK hP 0 rfl rfl 0 (by decide) (hts _ w_100) (fun _ h9 => h9) rfl d_QueryReader_integer_62 ?_
          refine lv_aload_n hx hb d_QueryReader_integer_65 rfl (lv_at hl 2 rfl) ?_
          refine va_get (D := (dC, dI)) (ci := 5) (v := .ref h0) (C := R_QueryReader) (T := F_QueryReader) (N := 2) hx hb hts in_QueryReader hown hK hP 0 rfl rfl 0 (by decide) (hts _ w_100) (fun _ h9 => h9) rfl d_QueryReader_integer_66 ?_
          refine va_get (D := (dC, dI)) (ci := 8) (v := .int (nI i)) (C := R_Tape) (T := F_Tape) (N := 7) hx hb hts in_Tape hown hK hP 1 rfl rfl 5 (by decide) (hts _ z_53) (fun _ h9 => h9) rfl d_QueryReader_integer_69 ?_
          have hPc := hP.sub (ws' := [(h0, .inr (8, [.ref qb, .ref qu, .int uc, .int ln, .int (nI n), .int (nI i), .int pl])), (qb, .inl (cB, 4096, .inl bf))]) [1, 2] rfl
          have hDc := hD.sub (ws' := [(h0, .inr (8, [.ref qb, .ref qu, .int uc, .int ln, .int (nI n), .int (nI i), .int pl])), (qb, .inl (cB, 4096, .inl bf))]) [1, 2] (by decide) rfl
          have hFc := va_free (wc := [(h0, .inr (8, [.ref qb, .ref qu, .int uc, .int ln, .int (nI n), .int (nI i), .int pl])), (qb, .inl (cB, 4096, .inl bf))]) hD hS hA [1, 2] rfl
          have hKc := hK.sub (tys' := [(cB, .byte)]) [0] rfl
          refine w_same (fun hq0 => ?_)
          refine vx_callv (vx_runV (As := [.int (nI i)]) (rest := []) ⟨hx, hb, hml, hown, hts⟩ (c_Tape_fail l hl9 dC dI cB h0 qb H (.ref qu) uc ln (nI n) (nI i) pl bf ((nI i))) (cwV 1 hts (gt_V (own := R_QueryReader) (C := R_Tape) (i := 28) (y := y_Tape_fail) i_Tape_fail z_535 w_371 w_372 w_2) rfl rfl rfl (by decide +kernel) ⟨Nat.le_of_ble_eq_true rfl, Nat.le_of_ble_eq_true rfl⟩) ⟨mx_blind, va_recv hK hP (ci := 8) (q0 := 1) rfl rfl, fun U hU hW => ⟨rfl, ⟨hU, by rw [hU]; exact hPc, va_K.moved hW.alike hKc, hDc.weaken (fun _ _ _ _ => trivial)⟩, hN.warm hW, by rw [hU]; exact ZX.moved' hW.alike (ZX.narrow' (ZX.kept' hZ hS.2.1) hFc)⟩⟩ rfl rfl hl.1 rfl (lv_room (Nat.le_of_ble_eq_true rfl)) d_QueryReader_integer_72 ⟨Nat.le_of_ble_eq_true rfl, Nat.le_of_ble_eq_true rfl⟩) hS (fun q _ h => hFc q h) hFc (fun q _ h => hFc q h) (fun En ce q9 _u t9 H1 locs ht hvm hw hB hz1 hk1 hS hce hcv hcl => ?_) (fun _u t9 H1 locs ht hvm hw hB hz1 hk1 hS => ?_)
          · obtain ⟨hEn, hP1, hK1, hD1⟩ := hB
            rw [ht] at hP1
            obtain ⟨hP, hD⟩ := va_join (wr := [(qr, .inr (5, [.ref h0, .int (nI o)])), (qu, .inl (cI, 4096, .inl ug))]) (w1 := [(h0, .inr (8, [.ref qb, .ref qu, .int uc, .int ln, .int (nI n), .int (nI i), .int (nI i)])), (qb, .inl (cB, 4096, .inl bf))]) hP hD [1, 2] [0, 3] rfl rfl (by decide) (by decide) hk1 hFc hP1 hD1
            generalize H1 = H at hP hS hce ⊢
            have hP : va_P (dC, dI) classes ([(qr, .inr (5, [.ref h0, .int (nI o)])), (qu, .inl (cI, 4096, .inl ug)), (h0, .inr (8, [.ref qb, .ref qu, .int uc, .int ln, .int (nI n), .int (nI i), .int (nI i)])), (qb, .inl (cB, 4096, .inl bf))]) H := hP
            have hD : va_D A ([(qr, .inr (5, [.ref h0, .int (nI o)])), (qu, .inl (cI, 4096, .inl ug)), (h0, .inr (8, [.ref qb, .ref qu, .int uc, .int ln, .int (nI n), .int (nI i), .int (nI i)])), (qb, .inl (cB, 4096, .inl bf))]) := hD
            have hP := hP.sub (ws' := [(qr, .inr (5, [.ref h0, .int (nI o)])), (h0, .inr (8, [.ref qb, .ref qu, .int uc, .int ln, .int (nI n), .int (nI i), .int (nI i)])), (qb, .inl (cB, 4096, .inl bf)), (qu, .inl (cI, 4096, .inl ug))]) [0, 2, 3, 1] rfl
            have hD := hD.sub (ws' := [(qr, .inr (5, [.ref h0, .int (nI o)])), (h0, .inr (8, [.ref qb, .ref qu, .int uc, .int ln, .int (nI n), .int (nI i), .int (nI i)])), (qb, .inl (cB, 4096, .inl bf)), (qu, .inl (cI, 4096, .inl ug))]) [0, 2, 3, 1] (by decide) rfl
            have hno : iCv bf n i = none := (iCv_p ht21 ht26).trans (iBv_no (Or.inr (by rw [← h_h29]; exact c58)))
            exact vx_out (fun x hx => (hex x hx).elim) hlocks hce hcv hcl (fun t9 ht2 ha => ⟨(nI i, uc, (nI i), ug, (nI o)), hno, ⟨hEn, by rw [ht2]; exact hP, va_K.moved ha hK, hD⟩, hS.F ht2⟩) hS.2.2 (Nat.le_of_ble_eq_true rfl) (Nat.le_of_ble_eq_true rfl)
          · obtain ⟨⟨hP1, hK1, hD1⟩, hz9⟩ := hB
            rw [ht] at hP1
            rw [ht] at hz9
            refine w_tight (hq0.trans hz9) ?_
            have hq0 := hq0.trans hz9
            obtain ⟨hP, hD⟩ := va_join (wr := [(qr, .inr (5, [.ref h0, .int (nI o)])), (qu, .inl (cI, 4096, .inl ug))]) (w1 := [(h0, .inr (8, [.ref qb, .ref qu, .int uc, .int ln, .int (nI n), .int (nI i), .int pl])), (qb, .inl (cB, 4096, .inl bf))]) hP hD [1, 2] [0, 3] rfl rfl (by decide) (by decide) hk1 hFc hP1 hD1
            generalize H1 = H at hP hS hq0 ⊢
            have hP : va_P (dC, dI) classes ([(qr, .inr (5, [.ref h0, .int (nI o)])), (qu, .inl (cI, 4096, .inl ug)), (h0, .inr (8, [.ref qb, .ref qu, .int uc, .int ln, .int (nI n), .int (nI i), .int pl])), (qb, .inl (cB, 4096, .inl bf))]) H := hP
            have hD : va_D A ([(qr, .inr (5, [.ref h0, .int (nI o)])), (qu, .inl (cI, 4096, .inl ug)), (h0, .inr (8, [.ref qb, .ref qu, .int uc, .int ln, .int (nI n), .int (nI i), .int pl])), (qb, .inl (cB, 4096, .inl bf))]) := hD
            have hP := hP.sub (ws' := [(qr, .inr (5, [.ref h0, .int (nI o)])), (h0, .inr (8, [.ref qb, .ref qu, .int uc, .int ln, .int (nI n), .int (nI i), .int pl])), (qb, .inl (cB, 4096, .inl bf)), (qu, .inl (cI, 4096, .inl ug))]) [0, 2, 3, 1] rfl
            have hD := hD.sub (ws' := [(qr, .inr (5, [.ref h0, .int (nI o)])), (h0, .inr (8, [.ref qb, .ref qu, .int uc, .int ln, .int (nI n), .int (nI i), .int pl])), (qb, .inl (cB, 4096, .inl bf)), (qu, .inl (cI, 4096, .inl ug))]) [0, 2, 3, 1] (by decide) rfl
            exact hw.elim
abbrev b_QueryReader_operator : ByteArray := prog_7_method_19_code
def y_QueryReader_operator : MethodName := ⟨"QueryBench$QueryReader", "operator", "()I"⟩
abbrev k_QueryReader_operator : Cond := .code y_QueryReader_operator b_QueryReader_operator 2 (some .int)
theorem i_QueryReader_operator : k_QueryReader_operator ∈ gtbl := gt_in 750 (by decide +kernel) (by decide +kernel)
theorem d_QueryReader_operator_0 : decode b_QueryReader_operator 0 = .ok (.aload_n 0, 1) := by decide +kernel
theorem d_QueryReader_operator_1 : decode b_QueryReader_operator 1 = .ok (.getfield 9, 3) := by decide +kernel
theorem d_QueryReader_operator_4 : decode b_QueryReader_operator 4 = .ok (.bipush 60, 2) := by decide +kernel
theorem d_QueryReader_operator_6 : decode b_QueryReader_operator 6 = .ok (.invokevirtual 58, 3) := by decide +kernel
theorem d_QueryReader_operator_9 : decode b_QueryReader_operator 9 = .ok (.ifCond .eq 23, 3) := by decide +kernel
theorem d_QueryReader_operator_12 : decode b_QueryReader_operator 12 = .ok (.aload_n 0, 1) := by decide +kernel
theorem d_QueryReader_operator_13 : decode b_QueryReader_operator 13 = .ok (.getfield 9, 3) := by decide +kernel
theorem d_QueryReader_operator_16 : decode b_QueryReader_operator 16 = .ok (.bipush 61, 2) := by decide +kernel
theorem d_QueryReader_operator_18 : decode b_QueryReader_operator 18 = .ok (.invokevirtual 58, 3) := by decide +kernel
theorem d_QueryReader_operator_21 : decode b_QueryReader_operator 21 = .ok (.ifCond .eq 8, 3) := by decide +kernel
theorem d_QueryReader_operator_24 : decode b_QueryReader_operator 24 = .ok (.bipush 7, 2) := by decide +kernel
theorem d_QueryReader_operator_26 : decode b_QueryReader_operator 26 = .ok (.goto 5, 3) := by decide +kernel
theorem d_QueryReader_operator_29 : decode b_QueryReader_operator 29 = .ok (.bipush 6, 2) := by decide +kernel
theorem d_QueryReader_operator_31 : decode b_QueryReader_operator 31 = .ok (.ireturn, 1) := by decide +kernel
theorem d_QueryReader_operator_32 : decode b_QueryReader_operator 32 = .ok (.aload_n 0, 1) := by decide +kernel
theorem d_QueryReader_operator_33 : decode b_QueryReader_operator 33 = .ok (.getfield 9, 3) := by decide +kernel
theorem d_QueryReader_operator_36 : decode b_QueryReader_operator 36 = .ok (.bipush 62, 2) := by decide +kernel
theorem d_QueryReader_operator_38 : decode b_QueryReader_operator 38 = .ok (.invokevirtual 58, 3) := by decide +kernel
theorem d_QueryReader_operator_41 : decode b_QueryReader_operator 41 = .ok (.ifCond .eq 23, 3) := by decide +kernel
theorem d_QueryReader_operator_44 : decode b_QueryReader_operator 44 = .ok (.aload_n 0, 1) := by decide +kernel
theorem d_QueryReader_operator_45 : decode b_QueryReader_operator 45 = .ok (.getfield 9, 3) := by decide +kernel
theorem d_QueryReader_operator_48 : decode b_QueryReader_operator 48 = .ok (.bipush 61, 2) := by decide +kernel
theorem d_QueryReader_operator_50 : decode b_QueryReader_operator 50 = .ok (.invokevirtual 58, 3) := by decide +kernel
theorem d_QueryReader_operator_53 : decode b_QueryReader_operator 53 = .ok (.ifCond .eq 8, 3) := by decide +kernel
theorem d_QueryReader_operator_56 : decode b_QueryReader_operator 56 = .ok (.bipush 9, 2) := by decide +kernel
theorem d_QueryReader_operator_58 : decode b_QueryReader_operator 58 = .ok (.goto 5, 3) := by decide +kernel
theorem d_QueryReader_operator_61 : decode b_QueryReader_operator 61 = .ok (.bipush 8, 2) := by decide +kernel
theorem d_QueryReader_operator_63 : decode b_QueryReader_operator 63 = .ok (.ireturn, 1) := by decide +kernel
theorem d_QueryReader_operator_64 : decode b_QueryReader_operator 64 = .ok (.aload_n 0, 1) := by decide +kernel
theorem d_QueryReader_operator_65 : decode b_QueryReader_operator 65 = .ok (.getfield 9, 3) := by decide +kernel
theorem d_QueryReader_operator_68 : decode b_QueryReader_operator 68 = .ok (.bipush 33, 2) := by decide +kernel
theorem d_QueryReader_operator_70 : decode b_QueryReader_operator 70 = .ok (.invokevirtual 58, 3) := by decide +kernel
theorem d_QueryReader_operator_73 : decode b_QueryReader_operator 73 = .ok (.ifCond .eq 7, 3) := by decide +kernel
theorem d_QueryReader_operator_76 : decode b_QueryReader_operator 76 = .ok (.iconst 5, 1) := by decide +kernel
theorem d_QueryReader_operator_77 : decode b_QueryReader_operator 77 = .ok (.goto 4, 3) := by decide +kernel
theorem d_QueryReader_operator_80 : decode b_QueryReader_operator 80 = .ok (.iconst 4, 1) := by decide +kernel
theorem d_QueryReader_operator_81 : decode b_QueryReader_operator 81 = .ok (.istore_n 1, 1) := by decide +kernel
theorem d_QueryReader_operator_82 : decode b_QueryReader_operator 82 = .ok (.iload_n 1, 1) := by decide +kernel
theorem d_QueryReader_operator_83 : decode b_QueryReader_operator 83 = .ok (.iconst 4, 1) := by decide +kernel
theorem d_QueryReader_operator_84 : decode b_QueryReader_operator 84 = .ok (.if_icmp .ne 12, 3) := by decide +kernel
theorem d_QueryReader_operator_87 : decode b_QueryReader_operator 87 = .ok (.aload_n 0, 1) := by decide +kernel
theorem d_QueryReader_operator_88 : decode b_QueryReader_operator 88 = .ok (.getfield 9, 3) := by decide +kernel
theorem d_QueryReader_operator_91 : decode b_QueryReader_operator 91 = .ok (.bipush 61, 2) := by decide +kernel
theorem d_QueryReader_operator_93 : decode b_QueryReader_operator 93 = .ok (.invokevirtual 164, 3) := by decide +kernel
theorem d_QueryReader_operator_96 : decode b_QueryReader_operator 96 = .ok (.aload_n 0, 1) := by decide +kernel
theorem d_QueryReader_operator_97 : decode b_QueryReader_operator 97 = .ok (.getfield 9, 3) := by decide +kernel
theorem d_QueryReader_operator_100 : decode b_QueryReader_operator 100 = .ok (.bipush 61, 2) := by decide +kernel
theorem d_QueryReader_operator_102 : decode b_QueryReader_operator 102 = .ok (.invokevirtual 164, 3) := by decide +kernel
theorem d_QueryReader_operator_105 : decode b_QueryReader_operator 105 = .ok (.iload_n 1, 1) := by decide +kernel
theorem d_QueryReader_operator_106 : decode b_QueryReader_operator 106 = .ok (.ireturn, 1) := by decide +kernel
set_option maxHeartbeats 4000000 in
set_option maxRecDepth 100000 in
/-- QueryReader.operator -/
theorem c_QueryReader_operator (l : Launch) (hl9 : l.stackTraces = false) (dC : Nat → ClassId) (dI : Nat → Nat → Nat) (sz : Heap) (cB cI : ClassId) (h0 qb qu : Nat) (uc ln pl : Int32) (bf ug : Nat → Int32) (n i : Nat) (hn0 : n ≤ 4096) (hin : i ≤ n) (qr o : Nat)  : vx_Met l y_QueryReader_operator (k_QueryReader_operator :: gtbl) ({ frames := 10, cells := 1, slots := 6, locals := 170 }) (va_Pc [.ref qr] (mx dC dI ([(qr, .inr (5, [.ref h0, .int (nI o)])), (h0, .inr (8, [.ref qb, .ref qu, .int uc, .int ln, .int (nI n), .int (nI i), .int pl])), (qb, .inl (cB, 4096, .inl bf)), (qu, .inl (cI, 4096, .inl ug))]) [(cB, .byte), (cI, .int)] sz)) (va_Qi (fun (r : Int32) (u : Nat) => (¬ r = 0 ∧ ¬ r = 1 ∧ ¬ r = 2 ∧ ¬ r = 3) ∧ i < u ∧ u ≤ n ∧ ∃ op : Nat, op ≤ 5 ∧ r = nI (4 + op) ∧ oprD bf n i = some (u, op)) (fun u t9 => mz dC dI ([(qr, .inr (5, [.ref h0, .int (nI o)])), (h0, .inr (8, [.ref qb, .ref qu, .int uc, .int ln, .int (nI n), .int (nI u), .int pl])), (qb, .inl (cB, 4096, .inl bf)), (qu, .inl (cI, 4096, .inl ug))]) [(cB, .byte), (cI, .int)] (va_A ([(qr, .inr (5, [.ref h0, .int (nI o)])), (h0, .inr (8, [.ref qb, .ref qu, .int uc, .int ln, .int (nI n), .int (nI i), .int pl])), (qb, .inl (cB, 4096, .inl bf)), (qu, .inl (cI, 4096, .inl ug))]) sz.size) t9 ∧ szk sz t9.heap (0) (0)) (va_A ([(qr, .inr (5, [.ref h0, .int (nI o)])), (h0, .inr (8, [.ref qb, .ref qu, .int uc, .int ln, .int (nI n), .int (nI i), .int pl])), (qb, .inl (cB, 4096, .inl bf)), (qu, .inl (cI, 4096, .inl ug))]) sz.size)) (vx_X (fun (u : Int32 × Int32 × Int32 × (Nat → Int32) × Int32) => oprD bf n i = none) (fun En u t9 => En = UOX ∧ mz dC dI ([(qr, .inr (5, [.ref h0, .int u.2.2.2.2])), (h0, .inr (8, [.ref qb, .ref qu, .int u.2.1, .int ln, .int (nI n), .int u.1, .int u.2.2.1])), (qb, .inl (cB, 4096, .inl bf)), (qu, .inl (cI, 4096, .inl u.2.2.2.1))]) [(cB, .byte), (cI, .int)] (va_A ([(qr, .inr (5, [.ref h0, .int (nI o)])), (h0, .inr (8, [.ref qb, .ref qu, .int uc, .int ln, .int (nI n), .int (nI i), .int pl])), (qb, .inl (cB, 4096, .inl bf)), (qu, .inl (cI, 4096, .inl ug))]) sz.size) t9) (va_A ([(qr, .inr (5, [.ref h0, .int (nI o)])), (h0, .inr (8, [.ref qb, .ref qu, .int uc, .int ln, .int (nI n), .int (nI i), .int pl])), (qb, .inl (cB, 4096, .inl bf)), (qu, .inl (cI, 4096, .inl ug))]) sz.size)) (1) (6) (va_A ([(qr, .inr (5, [.ref h0, .int (nI o)])), (h0, .inr (8, [.ref qb, .ref qu, .int uc, .int ln, .int (nI n), .int (nI i), .int pl])), (qb, .inl (cB, 4096, .inl bf)), (qu, .inl (cI, 4096, .inl ug))]) sz.size) := by
  refine vx_ofW (cc := b_QueryReader_operator) (maxL := 2) (ret := (some .int)) (by decide) rfl ?_
  intro p e s m args below meth c s₁ B hml hex hv
  obtain ⟨rfl, ⟨hsz, hP, hK, hD0⟩, hN, hZ⟩ := hv
  have hx := B.exec
  have hb := B.bytes
  have hr := B.returns
  have hts0 := atoms_spec (ws := k_QueryReader_operator :: gtbl) B.pre
  have hts := fun w h => hts0 w (List.mem_cons_of_mem _ h)
  have hown : s.vm.findClass R_QueryReader = some m.cls := findClass_of_methodNamed B.named
  have hlocks := B.notSynchronized
  subst hsz
  have hD := hD0.self (sz := s.heap.size)
  generalize hAe : va_A ([(qr, .inr (5, [.ref h0, .int (nI o)])), (h0, .inr (8, [.ref qb, .ref qu, .int uc, .int ln, .int (nI n), .int (nI i), .int pl])), (qb, .inl (cB, 4096, .inl bf)), (qu, .inl (cI, 4096, .inl ug))]) s.heap.size = A at hD hZ ⊢
  have hA : ∀ q : Nat, s.heap.size ≤ q → A q := fun q h => by rw [← hAe]; exact Or.inr h
  have hS : va_S A s.heap s.heap [] := va_S.rf
  have hP : va_P (dC, dI) classes ([(qr, .inr (5, [.ref h0, .int (nI o)])), (h0, .inr (8, [.ref qb, .ref qu, .int uc, .int ln, .int (nI n), .int (nI i), .int pl])), (qb, .inl (cB, 4096, .inl bf)), (qu, .inl (cI, 4096, .inl ug))]) s.heap := hP
  have hl := lv_entry ([.ref qr]) (n := 2) (Nat.le_of_ble_eq_true rfl)
  rw [lg_entry_eq]
  generalize (lg_sl ([.ref qr]) ++ List.replicate (2 - (lg_sl ([.ref qr])).length) Slot.unset).toArray = ls at hl ⊢
  have hl : lv_has ls 2 [(0, .ref qr)] := hl
  refine lv_aload_n hx hb d_QueryReader_operator_0 rfl (lv_at hl 0 rfl) ?_
  refine va_get (D := (dC, dI)) (ci := 5) (v := .ref h0) (C := R_QueryReader) (T := F_QueryReader) (N := 2) hx hb hts in_QueryReader hown hK hP 0 rfl rfl 0 (by decide) (hts _ w_100) (fun _ h9 => h9) rfl d_QueryReader_operator_1 ?_
  refine lv_bipush (v := 60) hx hb d_QueryReader_operator_4 (by decide) ?_
  have hPc := hP.sub (ws' := [(h0, .inr (8, [.ref qb, .ref qu, .int uc, .int ln, .int (nI n), .int (nI i), .int pl])), (qb, .inl (cB, 4096, .inl bf))]) [1, 2] rfl
  have hDc := hD.sub (ws' := [(h0, .inr (8, [.ref qb, .ref qu, .int uc, .int ln, .int (nI n), .int (nI i), .int pl])), (qb, .inl (cB, 4096, .inl bf))]) [1, 2] (by decide) rfl
  have hFc := va_free (wc := [(h0, .inr (8, [.ref qb, .ref qu, .int uc, .int ln, .int (nI n), .int (nI i), .int pl])), (qb, .inl (cB, 4096, .inl bf))]) hD hS hA [1, 2] rfl
  have hKc := hK.sub (tys' := [(cB, .byte)]) [0] rfl
  refine va_calli (va_runV (As := [.int 60]) (rest := []) ⟨hx, hb, hml, hown, hts⟩ (c_Tape_takeIf l dC dI cB h0 qb s.heap (.ref qu) uc ln pl bf n i 60 hn0 (by omega)) (cwV 1 hts (gt_V (own := R_QueryReader) (C := R_Tape) (i := 58) (y := y_Tape_takeIf) i_Tape_takeIf z_589 z_393 z_394 w_2) rfl rfl rfl (by decide +kernel) ⟨Nat.le_of_ble_eq_true rfl, Nat.le_of_ble_eq_true rfl⟩) ⟨mp_blind, va_recv hK hP (ci := 8) (q0 := 1) rfl rfl, fun U hU hW => ⟨rfl, hU, by rw [hU]; exact hPc, va_K.moved hW.alike hKc, hDc.weaken (fun _ _ _ _ => trivial)⟩⟩ rfl rfl hl.1 rfl (lv_room (Nat.le_of_ble_eq_true rfl)) d_QueryReader_operator_6 ⟨Nat.le_of_ble_eq_true rfl, Nat.le_of_ble_eq_true rfl⟩) hS (fun q _ h => hFc q h) hFc (fun r21 u21 t9 H1 locs ht hvm hw hB hz1 hk1 hS => ?_)
  obtain ⟨hP1, hK1, hD1⟩ := hB
  rw [ht] at hP1
  obtain ⟨hP, hD⟩ := va_join (wr := [(qr, .inr (5, [.ref h0, .int (nI o)])), (qu, .inl (cI, 4096, .inl ug))]) (w1 := [(h0, .inr (8, [.ref qb, .ref qu, .int uc, .int ln, .int (nI n), .int (nI u21), .int pl])), (qb, .inl (cB, 4096, .inl bf))]) hP hD [1, 2] [0, 3] rfl rfl (by decide) (by decide) hk1 hFc hP1 hD1
  generalize H1 = H at hP hS ⊢
  have hP : va_P (dC, dI) classes ([(qr, .inr (5, [.ref h0, .int (nI o)])), (qu, .inl (cI, 4096, .inl ug)), (h0, .inr (8, [.ref qb, .ref qu, .int uc, .int ln, .int (nI n), .int (nI u21), .int pl])), (qb, .inl (cB, 4096, .inl bf))]) H := hP
  have hD : va_D A ([(qr, .inr (5, [.ref h0, .int (nI o)])), (qu, .inl (cI, 4096, .inl ug)), (h0, .inr (8, [.ref qb, .ref qu, .int uc, .int ln, .int (nI n), .int (nI u21), .int pl])), (qb, .inl (cB, 4096, .inl bf))]) := hD
  have hP := hP.sub (ws' := [(qr, .inr (5, [.ref h0, .int (nI o)])), (h0, .inr (8, [.ref qb, .ref qu, .int uc, .int ln, .int (nI n), .int (nI u21), .int pl])), (qb, .inl (cB, 4096, .inl bf)), (qu, .inl (cI, 4096, .inl ug))]) [0, 2, 3, 1] rfl
  have hD := hD.sub (ws' := [(qr, .inr (5, [.ref h0, .int (nI o)])), (h0, .inr (8, [.ref qb, .ref qu, .int uc, .int ln, .int (nI n), .int (nI u21), .int pl])), (qb, .inl (cB, 4096, .inl bf)), (qu, .inl (cI, 4096, .inl ug))]) [0, 2, 3, 1] (by decide) rfl
  rcases hw with ⟨ht21, hr21, hu21⟩ | ⟨ht21, hr21, hu21⟩
  · have hu21 : u21 = i + 1 := hu21
    subst hr21
    rw [hu21] at hP hD
    have hl21 := here_lc ht21 (by decide)
    have hP : va_P (dC, dI) classes ([(qr, .inr (5, [.ref h0, .int (nI o)])), (h0, .inr (8, [.ref qb, .ref qu, .int uc, .int ln, .int (nI n), .int (nI (i + 1)), .int pl])), (qb, .inl (cB, 4096, .inl bf)), (qu, .inl (cI, 4096, .inl ug))]) H := hP
    have hD : va_D A ([(qr, .inr (5, [.ref h0, .int (nI o)])), (h0, .inr (8, [.ref qb, .ref qu, .int uc, .int ln, .int (nI n), .int (nI (i + 1)), .int pl])), (qb, .inl (cB, 4096, .inl bf)), (qu, .inl (cI, 4096, .inl ug))]) := hD
    refine lv_if_eq (tgt := 32) hx hb d_QueryReader_operator_9 (by decide) (fun h => absurd h (by decide)) (fun _ => ?_)
    refine lv_aload_n hx hb d_QueryReader_operator_12 rfl (lv_at hl 0 rfl) ?_
    refine va_get (D := (dC, dI)) (ci := 5) (v := .ref h0) (C := R_QueryReader) (T := F_QueryReader) (N := 2) hx hb hts in_QueryReader hown hK hP 0 rfl rfl 0 (by decide) (hts _ w_100) (fun _ h9 => h9) rfl d_QueryReader_operator_13 ?_
    refine lv_bipush (v := 61) hx hb d_QueryReader_operator_16 (by decide) ?_
    have hPc := hP.sub (ws' := [(h0, .inr (8, [.ref qb, .ref qu, .int uc, .int ln, .int (nI n), .int (nI (i + 1)), .int pl])), (qb, .inl (cB, 4096, .inl bf))]) [1, 2] rfl
    have hDc := hD.sub (ws' := [(h0, .inr (8, [.ref qb, .ref qu, .int uc, .int ln, .int (nI n), .int (nI (i + 1)), .int pl])), (qb, .inl (cB, 4096, .inl bf))]) [1, 2] (by decide) rfl
    have hFc := va_free (wc := [(h0, .inr (8, [.ref qb, .ref qu, .int uc, .int ln, .int (nI n), .int (nI (i + 1)), .int pl])), (qb, .inl (cB, 4096, .inl bf))]) hD hS hA [1, 2] rfl
    have hKc := hK.sub (tys' := [(cB, .byte)]) [0] rfl
    refine va_calli (va_runV (As := [.int 61]) (rest := []) ⟨hx, hb, hml, hown, hts⟩ (c_Tape_takeIf l dC dI cB h0 qb H (.ref qu) uc ln pl bf n ((i + 1)) 61 hn0 (by omega)) (cwV 1 hts (gt_V (own := R_QueryReader) (C := R_Tape) (i := 58) (y := y_Tape_takeIf) i_Tape_takeIf z_589 z_393 z_394 w_2) rfl rfl rfl (by decide +kernel) ⟨Nat.le_of_ble_eq_true rfl, Nat.le_of_ble_eq_true rfl⟩) ⟨mp_blind, va_recv hK hP (ci := 8) (q0 := 1) rfl rfl, fun U hU hW => ⟨rfl, hU, by rw [hU]; exact hPc, va_K.moved hW.alike hKc, hDc.weaken (fun _ _ _ _ => trivial)⟩⟩ rfl rfl hl.1 rfl (lv_room (Nat.le_of_ble_eq_true rfl)) d_QueryReader_operator_18 ⟨Nat.le_of_ble_eq_true rfl, Nat.le_of_ble_eq_true rfl⟩) hS (fun q _ h => hFc q h) hFc (fun r22 u22 t9 H1 locs ht hvm hw hB hz1 hk1 hS => ?_)
    obtain ⟨hP1, hK1, hD1⟩ := hB
    rw [ht] at hP1
    obtain ⟨hP, hD⟩ := va_join (wr := [(qr, .inr (5, [.ref h0, .int (nI o)])), (qu, .inl (cI, 4096, .inl ug))]) (w1 := [(h0, .inr (8, [.ref qb, .ref qu, .int uc, .int ln, .int (nI n), .int (nI u22), .int pl])), (qb, .inl (cB, 4096, .inl bf))]) hP hD [1, 2] [0, 3] rfl rfl (by decide) (by decide) hk1 hFc hP1 hD1
    generalize H1 = H at hP hS ⊢
    have hP : va_P (dC, dI) classes ([(qr, .inr (5, [.ref h0, .int (nI o)])), (qu, .inl (cI, 4096, .inl ug)), (h0, .inr (8, [.ref qb, .ref qu, .int uc, .int ln, .int (nI n), .int (nI u22), .int pl])), (qb, .inl (cB, 4096, .inl bf))]) H := hP
    have hD : va_D A ([(qr, .inr (5, [.ref h0, .int (nI o)])), (qu, .inl (cI, 4096, .inl ug)), (h0, .inr (8, [.ref qb, .ref qu, .int uc, .int ln, .int (nI n), .int (nI u22), .int pl])), (qb, .inl (cB, 4096, .inl bf))]) := hD
    have hP := hP.sub (ws' := [(qr, .inr (5, [.ref h0, .int (nI o)])), (h0, .inr (8, [.ref qb, .ref qu, .int uc, .int ln, .int (nI n), .int (nI u22), .int pl])), (qb, .inl (cB, 4096, .inl bf)), (qu, .inl (cI, 4096, .inl ug))]) [0, 2, 3, 1] rfl
    have hD := hD.sub (ws' := [(qr, .inr (5, [.ref h0, .int (nI o)])), (h0, .inr (8, [.ref qb, .ref qu, .int uc, .int ln, .int (nI n), .int (nI u22), .int pl])), (qb, .inl (cB, 4096, .inl bf)), (qu, .inl (cI, 4096, .inl ug))]) [0, 2, 3, 1] (by decide) rfl
    rcases hw with ⟨ht22, hr22, hu22⟩ | ⟨ht22, hr22, hu22⟩
    · have hu22 : u22 = ((i + 1)) + 1 := hu22
      subst hr22
      rw [hu22] at hP hD
      have hl22 := here_lc ht22 (by decide)
      have hP : va_P (dC, dI) classes ([(qr, .inr (5, [.ref h0, .int (nI o)])), (h0, .inr (8, [.ref qb, .ref qu, .int uc, .int ln, .int (nI n), .int (nI ((i + 1) + 1)), .int pl])), (qb, .inl (cB, 4096, .inl bf)), (qu, .inl (cI, 4096, .inl ug))]) H := hP
      have hD : va_D A ([(qr, .inr (5, [.ref h0, .int (nI o)])), (h0, .inr (8, [.ref qb, .ref qu, .int uc, .int ln, .int (nI n), .int (nI ((i + 1) + 1)), .int pl])), (qb, .inl (cB, 4096, .inl bf)), (qu, .inl (cI, 4096, .inl ug))]) := hD
      refine lv_if_eq (tgt := 29) hx hb d_QueryReader_operator_21 (by decide) (fun h => absurd h (by decide)) (fun _ => ?_)
      refine lv_bipush (v := 7) hx hb d_QueryReader_operator_24 (by decide) ?_
      refine lv_goto (tgt := 31) hx hb d_QueryReader_operator_26 (by decide) ?_
      have hok : oprD bf n i = some (((i + 1) + 1), 3) := oprD_1 ht21 ht22
      refine w_same (fun hq => ?_)
      refine W.widen (k := 1) (n := 6) (Nat.le_of_ble_eq_true rfl) (Nat.le_of_ble_eq_true rfl) ?_
      refine vx_ret ?_
      exact W.iret (v := 7) hx hb hr (fun t9 ht hW => ⟨⟨7, ((i + 1) + 1), rfl, ⟨by decide, by show i < ((i + 1) + 1); omega, by show ((i + 1) + 1) ≤ n; omega, 3, by decide, rfl, hok⟩, ⟨by rw [ht]; exact hP, va_K.moved hW.alike hK, hD⟩, by rw [ht]; exact hq⟩, hS.F ht⟩) hS.2.2 d_QueryReader_operator_31
    · have hu22 : u22 = (i + 1) := hu22
      subst hr22
      rw [hu22] at hP hD
      have hP : va_P (dC, dI) classes ([(qr, .inr (5, [.ref h0, .int (nI o)])), (h0, .inr (8, [.ref qb, .ref qu, .int uc, .int ln, .int (nI n), .int (nI (i + 1)), .int pl])), (qb, .inl (cB, 4096, .inl bf)), (qu, .inl (cI, 4096, .inl ug))]) H := hP
      have hD : va_D A ([(qr, .inr (5, [.ref h0, .int (nI o)])), (h0, .inr (8, [.ref qb, .ref qu, .int uc, .int ln, .int (nI n), .int (nI (i + 1)), .int pl])), (qb, .inl (cB, 4096, .inl bf)), (qu, .inl (cI, 4096, .inl ug))]) := hD
      refine lv_if_eq (tgt := 29) hx hb d_QueryReader_operator_21 (by decide) (fun _ => ?_) (fun h => absurd (by decide) h)
      refine lv_bipush (v := 6) hx hb d_QueryReader_operator_29 (by decide) ?_
      have hok : oprD bf n i = some ((i + 1), 2) := oprD_2 ht21 ht22
      refine w_same (fun hq => ?_)
      refine W.widen (k := 1) (n := 6) (Nat.le_of_ble_eq_true rfl) (Nat.le_of_ble_eq_true rfl) ?_
      refine vx_ret ?_
      exact W.iret (v := 6) hx hb hr (fun t9 ht hW => ⟨⟨6, (i + 1), rfl, ⟨by decide, by show i < (i + 1); omega, by show (i + 1) ≤ n; omega, 2, by decide, rfl, hok⟩, ⟨by rw [ht]; exact hP, va_K.moved hW.alike hK, hD⟩, by rw [ht]; exact hq⟩, hS.F ht⟩) hS.2.2 d_QueryReader_operator_31
  · have hu21 : u21 = i := hu21
    subst hr21
    rw [hu21] at hP hD
    have hP : va_P (dC, dI) classes ([(qr, .inr (5, [.ref h0, .int (nI o)])), (h0, .inr (8, [.ref qb, .ref qu, .int uc, .int ln, .int (nI n), .int (nI i), .int pl])), (qb, .inl (cB, 4096, .inl bf)), (qu, .inl (cI, 4096, .inl ug))]) H := hP
    have hD : va_D A ([(qr, .inr (5, [.ref h0, .int (nI o)])), (h0, .inr (8, [.ref qb, .ref qu, .int uc, .int ln, .int (nI n), .int (nI i), .int pl])), (qb, .inl (cB, 4096, .inl bf)), (qu, .inl (cI, 4096, .inl ug))]) := hD
    refine lv_if_eq (tgt := 32) hx hb d_QueryReader_operator_9 (by decide) (fun _ => ?_) (fun h => absurd (by decide) h)
    refine lv_aload_n hx hb d_QueryReader_operator_32 rfl (lv_at hl 0 rfl) ?_
    refine va_get (D := (dC, dI)) (ci := 5) (v := .ref h0) (C := R_QueryReader) (T := F_QueryReader) (N := 2) hx hb hts in_QueryReader hown hK hP 0 rfl rfl 0 (by decide) (hts _ w_100) (fun _ h9 => h9) rfl d_QueryReader_operator_33 ?_
    refine lv_bipush (v := 62) hx hb d_QueryReader_operator_36 (by decide) ?_
    have hPc := hP.sub (ws' := [(h0, .inr (8, [.ref qb, .ref qu, .int uc, .int ln, .int (nI n), .int (nI i), .int pl])), (qb, .inl (cB, 4096, .inl bf))]) [1, 2] rfl
    have hDc := hD.sub (ws' := [(h0, .inr (8, [.ref qb, .ref qu, .int uc, .int ln, .int (nI n), .int (nI i), .int pl])), (qb, .inl (cB, 4096, .inl bf))]) [1, 2] (by decide) rfl
    have hFc := va_free (wc := [(h0, .inr (8, [.ref qb, .ref qu, .int uc, .int ln, .int (nI n), .int (nI i), .int pl])), (qb, .inl (cB, 4096, .inl bf))]) hD hS hA [1, 2] rfl
    have hKc := hK.sub (tys' := [(cB, .byte)]) [0] rfl
    refine va_calli (va_runV (As := [.int 62]) (rest := []) ⟨hx, hb, hml, hown, hts⟩ (c_Tape_takeIf l dC dI cB h0 qb H (.ref qu) uc ln pl bf n i 62 hn0 (by omega)) (cwV 1 hts (gt_V (own := R_QueryReader) (C := R_Tape) (i := 58) (y := y_Tape_takeIf) i_Tape_takeIf z_589 z_393 z_394 w_2) rfl rfl rfl (by decide +kernel) ⟨Nat.le_of_ble_eq_true rfl, Nat.le_of_ble_eq_true rfl⟩) ⟨mp_blind, va_recv hK hP (ci := 8) (q0 := 1) rfl rfl, fun U hU hW => ⟨rfl, hU, by rw [hU]; exact hPc, va_K.moved hW.alike hKc, hDc.weaken (fun _ _ _ _ => trivial)⟩⟩ rfl rfl hl.1 rfl (lv_room (Nat.le_of_ble_eq_true rfl)) d_QueryReader_operator_38 ⟨Nat.le_of_ble_eq_true rfl, Nat.le_of_ble_eq_true rfl⟩) hS (fun q _ h => hFc q h) hFc (fun r23 u23 t9 H1 locs ht hvm hw hB hz1 hk1 hS => ?_)
    obtain ⟨hP1, hK1, hD1⟩ := hB
    rw [ht] at hP1
    obtain ⟨hP, hD⟩ := va_join (wr := [(qr, .inr (5, [.ref h0, .int (nI o)])), (qu, .inl (cI, 4096, .inl ug))]) (w1 := [(h0, .inr (8, [.ref qb, .ref qu, .int uc, .int ln, .int (nI n), .int (nI u23), .int pl])), (qb, .inl (cB, 4096, .inl bf))]) hP hD [1, 2] [0, 3] rfl rfl (by decide) (by decide) hk1 hFc hP1 hD1
    generalize H1 = H at hP hS ⊢
    have hP : va_P (dC, dI) classes ([(qr, .inr (5, [.ref h0, .int (nI o)])), (qu, .inl (cI, 4096, .inl ug)), (h0, .inr (8, [.ref qb, .ref qu, .int uc, .int ln, .int (nI n), .int (nI u23), .int pl])), (qb, .inl (cB, 4096, .inl bf))]) H := hP
    have hD : va_D A ([(qr, .inr (5, [.ref h0, .int (nI o)])), (qu, .inl (cI, 4096, .inl ug)), (h0, .inr (8, [.ref qb, .ref qu, .int uc, .int ln, .int (nI n), .int (nI u23), .int pl])), (qb, .inl (cB, 4096, .inl bf))]) := hD
    have hP := hP.sub (ws' := [(qr, .inr (5, [.ref h0, .int (nI o)])), (h0, .inr (8, [.ref qb, .ref qu, .int uc, .int ln, .int (nI n), .int (nI u23), .int pl])), (qb, .inl (cB, 4096, .inl bf)), (qu, .inl (cI, 4096, .inl ug))]) [0, 2, 3, 1] rfl
    have hD := hD.sub (ws' := [(qr, .inr (5, [.ref h0, .int (nI o)])), (h0, .inr (8, [.ref qb, .ref qu, .int uc, .int ln, .int (nI n), .int (nI u23), .int pl])), (qb, .inl (cB, 4096, .inl bf)), (qu, .inl (cI, 4096, .inl ug))]) [0, 2, 3, 1] (by decide) rfl
    rcases hw with ⟨ht23, hr23, hu23⟩ | ⟨ht23, hr23, hu23⟩
    · have hu23 : u23 = i + 1 := hu23
      subst hr23
      rw [hu23] at hP hD
      have hl23 := here_lc ht23 (by decide)
      have hP : va_P (dC, dI) classes ([(qr, .inr (5, [.ref h0, .int (nI o)])), (h0, .inr (8, [.ref qb, .ref qu, .int uc, .int ln, .int (nI n), .int (nI (i + 1)), .int pl])), (qb, .inl (cB, 4096, .inl bf)), (qu, .inl (cI, 4096, .inl ug))]) H := hP
      have hD : va_D A ([(qr, .inr (5, [.ref h0, .int (nI o)])), (h0, .inr (8, [.ref qb, .ref qu, .int uc, .int ln, .int (nI n), .int (nI (i + 1)), .int pl])), (qb, .inl (cB, 4096, .inl bf)), (qu, .inl (cI, 4096, .inl ug))]) := hD
      refine lv_if_eq (tgt := 64) hx hb d_QueryReader_operator_41 (by decide) (fun h => absurd h (by decide)) (fun _ => ?_)
      refine lv_aload_n hx hb d_QueryReader_operator_44 rfl (lv_at hl 0 rfl) ?_
      refine va_get (D := (dC, dI)) (ci := 5) (v := .ref h0) (C := R_QueryReader) (T := F_QueryReader) (N := 2) hx hb hts in_QueryReader hown hK hP 0 rfl rfl 0 (by decide) (hts _ w_100) (fun _ h9 => h9) rfl d_QueryReader_operator_45 ?_
      refine lv_bipush (v := 61) hx hb d_QueryReader_operator_48 (by decide) ?_
      have hPc := hP.sub (ws' := [(h0, .inr (8, [.ref qb, .ref qu, .int uc, .int ln, .int (nI n), .int (nI (i + 1)), .int pl])), (qb, .inl (cB, 4096, .inl bf))]) [1, 2] rfl
      have hDc := hD.sub (ws' := [(h0, .inr (8, [.ref qb, .ref qu, .int uc, .int ln, .int (nI n), .int (nI (i + 1)), .int pl])), (qb, .inl (cB, 4096, .inl bf))]) [1, 2] (by decide) rfl
      have hFc := va_free (wc := [(h0, .inr (8, [.ref qb, .ref qu, .int uc, .int ln, .int (nI n), .int (nI (i + 1)), .int pl])), (qb, .inl (cB, 4096, .inl bf))]) hD hS hA [1, 2] rfl
      have hKc := hK.sub (tys' := [(cB, .byte)]) [0] rfl
      refine va_calli (va_runV (As := [.int 61]) (rest := []) ⟨hx, hb, hml, hown, hts⟩ (c_Tape_takeIf l dC dI cB h0 qb H (.ref qu) uc ln pl bf n ((i + 1)) 61 hn0 (by omega)) (cwV 1 hts (gt_V (own := R_QueryReader) (C := R_Tape) (i := 58) (y := y_Tape_takeIf) i_Tape_takeIf z_589 z_393 z_394 w_2) rfl rfl rfl (by decide +kernel) ⟨Nat.le_of_ble_eq_true rfl, Nat.le_of_ble_eq_true rfl⟩) ⟨mp_blind, va_recv hK hP (ci := 8) (q0 := 1) rfl rfl, fun U hU hW => ⟨rfl, hU, by rw [hU]; exact hPc, va_K.moved hW.alike hKc, hDc.weaken (fun _ _ _ _ => trivial)⟩⟩ rfl rfl hl.1 rfl (lv_room (Nat.le_of_ble_eq_true rfl)) d_QueryReader_operator_50 ⟨Nat.le_of_ble_eq_true rfl, Nat.le_of_ble_eq_true rfl⟩) hS (fun q _ h => hFc q h) hFc (fun r24 u24 t9 H1 locs ht hvm hw hB hz1 hk1 hS => ?_)
      obtain ⟨hP1, hK1, hD1⟩ := hB
      rw [ht] at hP1
      obtain ⟨hP, hD⟩ := va_join (wr := [(qr, .inr (5, [.ref h0, .int (nI o)])), (qu, .inl (cI, 4096, .inl ug))]) (w1 := [(h0, .inr (8, [.ref qb, .ref qu, .int uc, .int ln, .int (nI n), .int (nI u24), .int pl])), (qb, .inl (cB, 4096, .inl bf))]) hP hD [1, 2] [0, 3] rfl rfl (by decide) (by decide) hk1 hFc hP1 hD1
      generalize H1 = H at hP hS ⊢
      have hP : va_P (dC, dI) classes ([(qr, .inr (5, [.ref h0, .int (nI o)])), (qu, .inl (cI, 4096, .inl ug)), (h0, .inr (8, [.ref qb, .ref qu, .int uc, .int ln, .int (nI n), .int (nI u24), .int pl])), (qb, .inl (cB, 4096, .inl bf))]) H := hP
      have hD : va_D A ([(qr, .inr (5, [.ref h0, .int (nI o)])), (qu, .inl (cI, 4096, .inl ug)), (h0, .inr (8, [.ref qb, .ref qu, .int uc, .int ln, .int (nI n), .int (nI u24), .int pl])), (qb, .inl (cB, 4096, .inl bf))]) := hD
      have hP := hP.sub (ws' := [(qr, .inr (5, [.ref h0, .int (nI o)])), (h0, .inr (8, [.ref qb, .ref qu, .int uc, .int ln, .int (nI n), .int (nI u24), .int pl])), (qb, .inl (cB, 4096, .inl bf)), (qu, .inl (cI, 4096, .inl ug))]) [0, 2, 3, 1] rfl
      have hD := hD.sub (ws' := [(qr, .inr (5, [.ref h0, .int (nI o)])), (h0, .inr (8, [.ref qb, .ref qu, .int uc, .int ln, .int (nI n), .int (nI u24), .int pl])), (qb, .inl (cB, 4096, .inl bf)), (qu, .inl (cI, 4096, .inl ug))]) [0, 2, 3, 1] (by decide) rfl
      rcases hw with ⟨ht24, hr24, hu24⟩ | ⟨ht24, hr24, hu24⟩
      · have hu24 : u24 = ((i + 1)) + 1 := hu24
        subst hr24
        rw [hu24] at hP hD
        have hl24 := here_lc ht24 (by decide)
        have hP : va_P (dC, dI) classes ([(qr, .inr (5, [.ref h0, .int (nI o)])), (h0, .inr (8, [.ref qb, .ref qu, .int uc, .int ln, .int (nI n), .int (nI ((i + 1) + 1)), .int pl])), (qb, .inl (cB, 4096, .inl bf)), (qu, .inl (cI, 4096, .inl ug))]) H := hP
        have hD : va_D A ([(qr, .inr (5, [.ref h0, .int (nI o)])), (h0, .inr (8, [.ref qb, .ref qu, .int uc, .int ln, .int (nI n), .int (nI ((i + 1) + 1)), .int pl])), (qb, .inl (cB, 4096, .inl bf)), (qu, .inl (cI, 4096, .inl ug))]) := hD
        refine lv_if_eq (tgt := 61) hx hb d_QueryReader_operator_53 (by decide) (fun h => absurd h (by decide)) (fun _ => ?_)
        refine lv_bipush (v := 9) hx hb d_QueryReader_operator_56 (by decide) ?_
        refine lv_goto (tgt := 63) hx hb d_QueryReader_operator_58 (by decide) ?_
        have hok : oprD bf n i = some (((i + 1) + 1), 5) := oprD_3 ht23 ht24
        refine w_same (fun hq => ?_)
        refine W.widen (k := 1) (n := 6) (Nat.le_of_ble_eq_true rfl) (Nat.le_of_ble_eq_true rfl) ?_
        refine vx_ret ?_
        exact W.iret (v := 9) hx hb hr (fun t9 ht hW => ⟨⟨9, ((i + 1) + 1), rfl, ⟨by decide, by show i < ((i + 1) + 1); omega, by show ((i + 1) + 1) ≤ n; omega, 5, by decide, rfl, hok⟩, ⟨by rw [ht]; exact hP, va_K.moved hW.alike hK, hD⟩, by rw [ht]; exact hq⟩, hS.F ht⟩) hS.2.2 d_QueryReader_operator_63
      · have hu24 : u24 = (i + 1) := hu24
        subst hr24
        rw [hu24] at hP hD
        have hP : va_P (dC, dI) classes ([(qr, .inr (5, [.ref h0, .int (nI o)])), (h0, .inr (8, [.ref qb, .ref qu, .int uc, .int ln, .int (nI n), .int (nI (i + 1)), .int pl])), (qb, .inl (cB, 4096, .inl bf)), (qu, .inl (cI, 4096, .inl ug))]) H := hP
        have hD : va_D A ([(qr, .inr (5, [.ref h0, .int (nI o)])), (h0, .inr (8, [.ref qb, .ref qu, .int uc, .int ln, .int (nI n), .int (nI (i + 1)), .int pl])), (qb, .inl (cB, 4096, .inl bf)), (qu, .inl (cI, 4096, .inl ug))]) := hD
        refine lv_if_eq (tgt := 61) hx hb d_QueryReader_operator_53 (by decide) (fun _ => ?_) (fun h => absurd (by decide) h)
        refine lv_bipush (v := 8) hx hb d_QueryReader_operator_61 (by decide) ?_
        have hok : oprD bf n i = some ((i + 1), 4) := oprD_4 ht23 ht24
        refine w_same (fun hq => ?_)
        refine W.widen (k := 1) (n := 6) (Nat.le_of_ble_eq_true rfl) (Nat.le_of_ble_eq_true rfl) ?_
        refine vx_ret ?_
        exact W.iret (v := 8) hx hb hr (fun t9 ht hW => ⟨⟨8, (i + 1), rfl, ⟨by decide, by show i < (i + 1); omega, by show (i + 1) ≤ n; omega, 4, by decide, rfl, hok⟩, ⟨by rw [ht]; exact hP, va_K.moved hW.alike hK, hD⟩, by rw [ht]; exact hq⟩, hS.F ht⟩) hS.2.2 d_QueryReader_operator_63
    · have hu23 : u23 = i := hu23
      subst hr23
      rw [hu23] at hP hD
      have hP : va_P (dC, dI) classes ([(qr, .inr (5, [.ref h0, .int (nI o)])), (h0, .inr (8, [.ref qb, .ref qu, .int uc, .int ln, .int (nI n), .int (nI i), .int pl])), (qb, .inl (cB, 4096, .inl bf)), (qu, .inl (cI, 4096, .inl ug))]) H := hP
      have hD : va_D A ([(qr, .inr (5, [.ref h0, .int (nI o)])), (h0, .inr (8, [.ref qb, .ref qu, .int uc, .int ln, .int (nI n), .int (nI i), .int pl])), (qb, .inl (cB, 4096, .inl bf)), (qu, .inl (cI, 4096, .inl ug))]) := hD
      refine lv_if_eq (tgt := 64) hx hb d_QueryReader_operator_41 (by decide) (fun _ => ?_) (fun h => absurd (by decide) h)
      refine lv_aload_n hx hb d_QueryReader_operator_64 rfl (lv_at hl 0 rfl) ?_
      refine va_get (D := (dC, dI)) (ci := 5) (v := .ref h0) (C := R_QueryReader) (T := F_QueryReader) (N := 2) hx hb hts in_QueryReader hown hK hP 0 rfl rfl 0 (by decide) (hts _ w_100) (fun _ h9 => h9) rfl d_QueryReader_operator_65 ?_
      refine lv_bipush (v := 33) hx hb d_QueryReader_operator_68 (by decide) ?_
      have hPc := hP.sub (ws' := [(h0, .inr (8, [.ref qb, .ref qu, .int uc, .int ln, .int (nI n), .int (nI i), .int pl])), (qb, .inl (cB, 4096, .inl bf))]) [1, 2] rfl
      have hDc := hD.sub (ws' := [(h0, .inr (8, [.ref qb, .ref qu, .int uc, .int ln, .int (nI n), .int (nI i), .int pl])), (qb, .inl (cB, 4096, .inl bf))]) [1, 2] (by decide) rfl
      have hFc := va_free (wc := [(h0, .inr (8, [.ref qb, .ref qu, .int uc, .int ln, .int (nI n), .int (nI i), .int pl])), (qb, .inl (cB, 4096, .inl bf))]) hD hS hA [1, 2] rfl
      have hKc := hK.sub (tys' := [(cB, .byte)]) [0] rfl
      refine va_calli (va_runV (As := [.int 33]) (rest := []) ⟨hx, hb, hml, hown, hts⟩ (c_Tape_takeIf l dC dI cB h0 qb H (.ref qu) uc ln pl bf n i 33 hn0 (by omega)) (cwV 1 hts (gt_V (own := R_QueryReader) (C := R_Tape) (i := 58) (y := y_Tape_takeIf) i_Tape_takeIf z_589 z_393 z_394 w_2) rfl rfl rfl (by decide +kernel) ⟨Nat.le_of_ble_eq_true rfl, Nat.le_of_ble_eq_true rfl⟩) ⟨mp_blind, va_recv hK hP (ci := 8) (q0 := 1) rfl rfl, fun U hU hW => ⟨rfl, hU, by rw [hU]; exact hPc, va_K.moved hW.alike hKc, hDc.weaken (fun _ _ _ _ => trivial)⟩⟩ rfl rfl hl.1 rfl (lv_room (Nat.le_of_ble_eq_true rfl)) d_QueryReader_operator_70 ⟨Nat.le_of_ble_eq_true rfl, Nat.le_of_ble_eq_true rfl⟩) hS (fun q _ h => hFc q h) hFc (fun r25 u25 t9 H1 locs ht hvm hw hB hz1 hk1 hS => ?_)
      obtain ⟨hP1, hK1, hD1⟩ := hB
      rw [ht] at hP1
      obtain ⟨hP, hD⟩ := va_join (wr := [(qr, .inr (5, [.ref h0, .int (nI o)])), (qu, .inl (cI, 4096, .inl ug))]) (w1 := [(h0, .inr (8, [.ref qb, .ref qu, .int uc, .int ln, .int (nI n), .int (nI u25), .int pl])), (qb, .inl (cB, 4096, .inl bf))]) hP hD [1, 2] [0, 3] rfl rfl (by decide) (by decide) hk1 hFc hP1 hD1
      generalize H1 = H at hP hS ⊢
      have hP : va_P (dC, dI) classes ([(qr, .inr (5, [.ref h0, .int (nI o)])), (qu, .inl (cI, 4096, .inl ug)), (h0, .inr (8, [.ref qb, .ref qu, .int uc, .int ln, .int (nI n), .int (nI u25), .int pl])), (qb, .inl (cB, 4096, .inl bf))]) H := hP
      have hD : va_D A ([(qr, .inr (5, [.ref h0, .int (nI o)])), (qu, .inl (cI, 4096, .inl ug)), (h0, .inr (8, [.ref qb, .ref qu, .int uc, .int ln, .int (nI n), .int (nI u25), .int pl])), (qb, .inl (cB, 4096, .inl bf))]) := hD
      have hP := hP.sub (ws' := [(qr, .inr (5, [.ref h0, .int (nI o)])), (h0, .inr (8, [.ref qb, .ref qu, .int uc, .int ln, .int (nI n), .int (nI u25), .int pl])), (qb, .inl (cB, 4096, .inl bf)), (qu, .inl (cI, 4096, .inl ug))]) [0, 2, 3, 1] rfl
      have hD := hD.sub (ws' := [(qr, .inr (5, [.ref h0, .int (nI o)])), (h0, .inr (8, [.ref qb, .ref qu, .int uc, .int ln, .int (nI n), .int (nI u25), .int pl])), (qb, .inl (cB, 4096, .inl bf)), (qu, .inl (cI, 4096, .inl ug))]) [0, 2, 3, 1] (by decide) rfl
      rcases hw with ⟨ht25, hr25, hu25⟩ | ⟨ht25, hr25, hu25⟩
      · have hu25 : u25 = i + 1 := hu25
        subst hr25
        rw [hu25] at hP hD
        have hl25 := here_lc ht25 (by decide)
        have hP : va_P (dC, dI) classes ([(qr, .inr (5, [.ref h0, .int (nI o)])), (h0, .inr (8, [.ref qb, .ref qu, .int uc, .int ln, .int (nI n), .int (nI (i + 1)), .int pl])), (qb, .inl (cB, 4096, .inl bf)), (qu, .inl (cI, 4096, .inl ug))]) H := hP
        have hD : va_D A ([(qr, .inr (5, [.ref h0, .int (nI o)])), (h0, .inr (8, [.ref qb, .ref qu, .int uc, .int ln, .int (nI n), .int (nI (i + 1)), .int pl])), (qb, .inl (cB, 4096, .inl bf)), (qu, .inl (cI, 4096, .inl ug))]) := hD
        refine lv_if_eq (tgt := 80) hx hb d_QueryReader_operator_73 (by decide) (fun h => absurd h (by decide)) (fun _ => ?_)
        refine lv_iconst (v := 5) hx hb d_QueryReader_operator_76 (by decide) ?_
        refine lv_goto (tgt := 81) hx hb d_QueryReader_operator_77 (by decide) ?_
        refine lv_istore_n (lv' := [(1, .int 5), (0, .ref qr)]) hx hb d_QueryReader_operator_81 rfl hl (by decide) rfl (fun ls hl => ?_)
        refine lv_iload_n hx hb d_QueryReader_operator_82 rfl (lv_at hl 0 rfl) ?_
        refine lv_iconst (v := 4) hx hb d_QueryReader_operator_83 (by decide) ?_
        refine lv_icmp_ne (tgt := 96) hx hb d_QueryReader_operator_84 (by decide) (fun _ => ?_) (fun h => absurd h (by decide))
        refine lv_aload_n hx hb d_QueryReader_operator_96 rfl (lv_at hl 1 rfl) ?_
        refine va_get (D := (dC, dI)) (ci := 5) (v := .ref h0) (C := R_QueryReader) (T := F_QueryReader) (N := 2) hx hb hts in_QueryReader hown hK hP 0 rfl rfl 0 (by decide) (hts _ w_100) (fun _ h9 => h9) rfl d_QueryReader_operator_97 ?_
        refine lv_bipush (v := 61) hx hb d_QueryReader_operator_100 (by decide) ?_
        have hPc := hP.sub (ws' := [(h0, .inr (8, [.ref qb, .ref qu, .int uc, .int ln, .int (nI n), .int (nI (i + 1)), .int pl])), (qb, .inl (cB, 4096, .inl bf))]) [1, 2] rfl
        have hDc := hD.sub (ws' := [(h0, .inr (8, [.ref qb, .ref qu, .int uc, .int ln, .int (nI n), .int (nI (i + 1)), .int pl])), (qb, .inl (cB, 4096, .inl bf))]) [1, 2] (by decide) rfl
        have hFc := va_free (wc := [(h0, .inr (8, [.ref qb, .ref qu, .int uc, .int ln, .int (nI n), .int (nI (i + 1)), .int pl])), (qb, .inl (cB, 4096, .inl bf))]) hD hS hA [1, 2] rfl
        have hKc := hK.sub (tys' := [(cB, .byte)]) [0] rfl
        refine w_same (fun hq0 => ?_)
        refine vx_callv (vx_runV (As := [.int 61]) (rest := []) ⟨hx, hb, hml, hown, hts⟩ (c_Tape_take l hl9 dC dI cB h0 qb H (.ref qu) uc ln pl bf n ((i + 1)) 61 hn0 (by omega)) (cwV 1 hts (gt_V (own := R_QueryReader) (C := R_Tape) (i := 164) (y := y_Tape_take) i_Tape_take z_598 w_437 w_438 w_2) rfl rfl rfl (by decide +kernel) ⟨Nat.le_of_ble_eq_true rfl, Nat.le_of_ble_eq_true rfl⟩) ⟨mx_blind, va_recv hK hP (ci := 8) (q0 := 1) rfl rfl, fun U hU hW => ⟨rfl, ⟨hU, by rw [hU]; exact hPc, va_K.moved hW.alike hKc, hDc.weaken (fun _ _ _ _ => trivial)⟩, hN.warm hW, by rw [hU]; exact ZX.moved' hW.alike (ZX.narrow' (ZX.kept' hZ hS.2.1) hFc)⟩⟩ rfl rfl hl.1 rfl (lv_room (Nat.le_of_ble_eq_true rfl)) d_QueryReader_operator_102 ⟨Nat.le_of_ble_eq_true rfl, Nat.le_of_ble_eq_true rfl⟩) hS (fun q _ h => hFc q h) hFc (fun q _ h => hFc q h) (fun En ce q9 _u t9 H1 locs ht hvm hw hB hz1 hk1 hS hce hcv hcl => ?_) (fun _u t9 H1 locs ht hvm hw hB hz1 hk1 hS => ?_)
        · obtain ⟨hEn, hP1, hK1, hD1⟩ := hB
          rw [ht] at hP1
          obtain ⟨hP, hD⟩ := va_join (wr := [(qr, .inr (5, [.ref h0, .int (nI o)])), (qu, .inl (cI, 4096, .inl ug))]) (w1 := [(h0, .inr (8, [.ref qb, .ref qu, .int uc, .int ln, .int (nI n), .int (nI (i + 1)), .int (nI (i + 1))])), (qb, .inl (cB, 4096, .inl bf))]) hP hD [1, 2] [0, 3] rfl rfl (by decide) (by decide) hk1 hFc hP1 hD1
          generalize H1 = H at hP hS hce ⊢
          have hP : va_P (dC, dI) classes ([(qr, .inr (5, [.ref h0, .int (nI o)])), (qu, .inl (cI, 4096, .inl ug)), (h0, .inr (8, [.ref qb, .ref qu, .int uc, .int ln, .int (nI n), .int (nI (i + 1)), .int (nI (i + 1))])), (qb, .inl (cB, 4096, .inl bf))]) H := hP
          have hD : va_D A ([(qr, .inr (5, [.ref h0, .int (nI o)])), (qu, .inl (cI, 4096, .inl ug)), (h0, .inr (8, [.ref qb, .ref qu, .int uc, .int ln, .int (nI n), .int (nI (i + 1)), .int (nI (i + 1))])), (qb, .inl (cB, 4096, .inl bf))]) := hD
          have hP := hP.sub (ws' := [(qr, .inr (5, [.ref h0, .int (nI o)])), (h0, .inr (8, [.ref qb, .ref qu, .int uc, .int ln, .int (nI n), .int (nI (i + 1)), .int (nI (i + 1))])), (qb, .inl (cB, 4096, .inl bf)), (qu, .inl (cI, 4096, .inl ug))]) [0, 2, 3, 1] rfl
          have hD := hD.sub (ws' := [(qr, .inr (5, [.ref h0, .int (nI o)])), (h0, .inr (8, [.ref qb, .ref qu, .int uc, .int ln, .int (nI n), .int (nI (i + 1)), .int (nI (i + 1))])), (qb, .inl (cB, 4096, .inl bf)), (qu, .inl (cI, 4096, .inl ug))]) [0, 2, 3, 1] (by decide) rfl
          have hno : oprD bf n i = none := oprD_6 ht25 hw
          exact vx_out (fun x hx => (hex x hx).elim) hlocks hce hcv hcl (fun t9 ht2 ha => ⟨(nI (i + 1), uc, nI (i + 1), ug, (nI o)), hno, ⟨hEn, by rw [ht2]; exact hP, va_K.moved ha hK, hD⟩, hS.F ht2⟩) hS.2.2 (Nat.le_of_ble_eq_true rfl) (Nat.le_of_ble_eq_true rfl)
        · obtain ⟨⟨hP1, hK1, hD1⟩, hz9⟩ := hB
          rw [ht] at hP1
          rw [ht] at hz9
          refine w_tight (hq0.trans hz9) ?_
          have hq0 := hq0.trans hz9
          obtain ⟨hP, hD⟩ := va_join (wr := [(qr, .inr (5, [.ref h0, .int (nI o)])), (qu, .inl (cI, 4096, .inl ug))]) (w1 := [(h0, .inr (8, [.ref qb, .ref qu, .int uc, .int ln, .int (nI n), .int (nI ((i + 1) + 1)), .int pl])), (qb, .inl (cB, 4096, .inl bf))]) hP hD [1, 2] [0, 3] rfl rfl (by decide) (by decide) hk1 hFc hP1 hD1
          generalize H1 = H at hP hS hq0 ⊢
          have hP : va_P (dC, dI) classes ([(qr, .inr (5, [.ref h0, .int (nI o)])), (qu, .inl (cI, 4096, .inl ug)), (h0, .inr (8, [.ref qb, .ref qu, .int uc, .int ln, .int (nI n), .int (nI ((i + 1) + 1)), .int pl])), (qb, .inl (cB, 4096, .inl bf))]) H := hP
          have hD : va_D A ([(qr, .inr (5, [.ref h0, .int (nI o)])), (qu, .inl (cI, 4096, .inl ug)), (h0, .inr (8, [.ref qb, .ref qu, .int uc, .int ln, .int (nI n), .int (nI ((i + 1) + 1)), .int pl])), (qb, .inl (cB, 4096, .inl bf))]) := hD
          have hP := hP.sub (ws' := [(qr, .inr (5, [.ref h0, .int (nI o)])), (h0, .inr (8, [.ref qb, .ref qu, .int uc, .int ln, .int (nI n), .int (nI ((i + 1) + 1)), .int pl])), (qb, .inl (cB, 4096, .inl bf)), (qu, .inl (cI, 4096, .inl ug))]) [0, 2, 3, 1] rfl
          have hD := hD.sub (ws' := [(qr, .inr (5, [.ref h0, .int (nI o)])), (h0, .inr (8, [.ref qb, .ref qu, .int uc, .int ln, .int (nI n), .int (nI ((i + 1) + 1)), .int pl])), (qb, .inl (cB, 4096, .inl bf)), (qu, .inl (cI, 4096, .inl ug))]) [0, 2, 3, 1] (by decide) rfl
          have ht26 : hereV bf n ((i + 1)) = 61 := hw
          have hl26 := here_lc ht26 (by decide)
          refine lv_iload_n hx hb d_QueryReader_operator_105 rfl (lv_at hl 0 rfl) ?_
          have hok : oprD bf n i = some (((i + 1) + 1), 1) := oprD_5 ht25 ht26
          refine w_same (fun hq => ?_)
          refine W.widen (k := 1) (n := 6) (Nat.le_of_ble_eq_true rfl) (Nat.le_of_ble_eq_true rfl) ?_
          refine vx_ret ?_
          exact W.iret (v := 5) hx hb hr (fun t9 ht hW => ⟨⟨5, ((i + 1) + 1), rfl, ⟨by decide, by show i < ((i + 1) + 1); omega, by show ((i + 1) + 1) ≤ n; omega, 1, by decide, rfl, hok⟩, ⟨by rw [ht]; exact hP, va_K.moved hW.alike hK, hD⟩, by rw [ht]; exact hq⟩, hS.F ht⟩) hS.2.2 d_QueryReader_operator_106
      · have hu25 : u25 = i := hu25
        subst hr25
        rw [hu25] at hP hD
        have hP : va_P (dC, dI) classes ([(qr, .inr (5, [.ref h0, .int (nI o)])), (h0, .inr (8, [.ref qb, .ref qu, .int uc, .int ln, .int (nI n), .int (nI i), .int pl])), (qb, .inl (cB, 4096, .inl bf)), (qu, .inl (cI, 4096, .inl ug))]) H := hP
        have hD : va_D A ([(qr, .inr (5, [.ref h0, .int (nI o)])), (h0, .inr (8, [.ref qb, .ref qu, .int uc, .int ln, .int (nI n), .int (nI i), .int pl])), (qb, .inl (cB, 4096, .inl bf)), (qu, .inl (cI, 4096, .inl ug))]) := hD
        refine lv_if_eq (tgt := 80) hx hb d_QueryReader_operator_73 (by decide) (fun _ => ?_) (fun h => absurd (by decide) h)
        refine lv_iconst (v := 4) hx hb d_QueryReader_operator_80 (by decide) ?_
        refine lv_istore_n (lv' := [(1, .int 4), (0, .ref qr)]) hx hb d_QueryReader_operator_81 rfl hl (by decide) rfl (fun ls hl => ?_)
        refine lv_iload_n hx hb d_QueryReader_operator_82 rfl (lv_at hl 0 rfl) ?_
        refine lv_iconst (v := 4) hx hb d_QueryReader_operator_83 (by decide) ?_
        refine lv_icmp_ne (tgt := 96) hx hb d_QueryReader_operator_84 (by decide) (fun h => absurd h (by decide)) (fun _ => ?_)
        refine lv_aload_n hx hb d_QueryReader_operator_87 rfl (lv_at hl 1 rfl) ?_
        refine va_get (D := (dC, dI)) (ci := 5) (v := .ref h0) (C := R_QueryReader) (T := F_QueryReader) (N := 2) hx hb hts in_QueryReader hown hK hP 0 rfl rfl 0 (by decide) (hts _ w_100) (fun _ h9 => h9) rfl d_QueryReader_operator_88 ?_
        refine lv_bipush (v := 61) hx hb d_QueryReader_operator_91 (by decide) ?_
        have hPc := hP.sub (ws' := [(h0, .inr (8, [.ref qb, .ref qu, .int uc, .int ln, .int (nI n), .int (nI i), .int pl])), (qb, .inl (cB, 4096, .inl bf))]) [1, 2] rfl
        have hDc := hD.sub (ws' := [(h0, .inr (8, [.ref qb, .ref qu, .int uc, .int ln, .int (nI n), .int (nI i), .int pl])), (qb, .inl (cB, 4096, .inl bf))]) [1, 2] (by decide) rfl
        have hFc := va_free (wc := [(h0, .inr (8, [.ref qb, .ref qu, .int uc, .int ln, .int (nI n), .int (nI i), .int pl])), (qb, .inl (cB, 4096, .inl bf))]) hD hS hA [1, 2] rfl
        have hKc := hK.sub (tys' := [(cB, .byte)]) [0] rfl
        refine w_same (fun hq0 => ?_)
        refine vx_callv (vx_runV (As := [.int 61]) (rest := []) ⟨hx, hb, hml, hown, hts⟩ (c_Tape_take l hl9 dC dI cB h0 qb H (.ref qu) uc ln pl bf n i 61 hn0 (by omega)) (cwV 1 hts (gt_V (own := R_QueryReader) (C := R_Tape) (i := 164) (y := y_Tape_take) i_Tape_take z_598 w_437 w_438 w_2) rfl rfl rfl (by decide +kernel) ⟨Nat.le_of_ble_eq_true rfl, Nat.le_of_ble_eq_true rfl⟩) ⟨mx_blind, va_recv hK hP (ci := 8) (q0 := 1) rfl rfl, fun U hU hW => ⟨rfl, ⟨hU, by rw [hU]; exact hPc, va_K.moved hW.alike hKc, hDc.weaken (fun _ _ _ _ => trivial)⟩, hN.warm hW, by rw [hU]; exact ZX.moved' hW.alike (ZX.narrow' (ZX.kept' hZ hS.2.1) hFc)⟩⟩ rfl rfl hl.1 rfl (lv_room (Nat.le_of_ble_eq_true rfl)) d_QueryReader_operator_93 ⟨Nat.le_of_ble_eq_true rfl, Nat.le_of_ble_eq_true rfl⟩) hS (fun q _ h => hFc q h) hFc (fun q _ h => hFc q h) (fun En ce q9 _u t9 H1 locs ht hvm hw hB hz1 hk1 hS hce hcv hcl => ?_) (fun _u t9 H1 locs ht hvm hw hB hz1 hk1 hS => ?_)
        · obtain ⟨hEn, hP1, hK1, hD1⟩ := hB
          rw [ht] at hP1
          obtain ⟨hP, hD⟩ := va_join (wr := [(qr, .inr (5, [.ref h0, .int (nI o)])), (qu, .inl (cI, 4096, .inl ug))]) (w1 := [(h0, .inr (8, [.ref qb, .ref qu, .int uc, .int ln, .int (nI n), .int (nI i), .int (nI i)])), (qb, .inl (cB, 4096, .inl bf))]) hP hD [1, 2] [0, 3] rfl rfl (by decide) (by decide) hk1 hFc hP1 hD1
          generalize H1 = H at hP hS hce ⊢
          have hP : va_P (dC, dI) classes ([(qr, .inr (5, [.ref h0, .int (nI o)])), (qu, .inl (cI, 4096, .inl ug)), (h0, .inr (8, [.ref qb, .ref qu, .int uc, .int ln, .int (nI n), .int (nI i), .int (nI i)])), (qb, .inl (cB, 4096, .inl bf))]) H := hP
          have hD : va_D A ([(qr, .inr (5, [.ref h0, .int (nI o)])), (qu, .inl (cI, 4096, .inl ug)), (h0, .inr (8, [.ref qb, .ref qu, .int uc, .int ln, .int (nI n), .int (nI i), .int (nI i)])), (qb, .inl (cB, 4096, .inl bf))]) := hD
          have hP := hP.sub (ws' := [(qr, .inr (5, [.ref h0, .int (nI o)])), (h0, .inr (8, [.ref qb, .ref qu, .int uc, .int ln, .int (nI n), .int (nI i), .int (nI i)])), (qb, .inl (cB, 4096, .inl bf)), (qu, .inl (cI, 4096, .inl ug))]) [0, 2, 3, 1] rfl
          have hD := hD.sub (ws' := [(qr, .inr (5, [.ref h0, .int (nI o)])), (h0, .inr (8, [.ref qb, .ref qu, .int uc, .int ln, .int (nI n), .int (nI i), .int (nI i)])), (qb, .inl (cB, 4096, .inl bf)), (qu, .inl (cI, 4096, .inl ug))]) [0, 2, 3, 1] (by decide) rfl
          have hno : oprD bf n i = none := oprD_7 ht21 ht23 ht25 hw
          exact vx_out (fun x hx => (hex x hx).elim) hlocks hce hcv hcl (fun t9 ht2 ha => ⟨(nI i, uc, nI i, ug, (nI o)), hno, ⟨hEn, by rw [ht2]; exact hP, va_K.moved ha hK, hD⟩, hS.F ht2⟩) hS.2.2 (Nat.le_of_ble_eq_true rfl) (Nat.le_of_ble_eq_true rfl)
        · obtain ⟨⟨hP1, hK1, hD1⟩, hz9⟩ := hB
          rw [ht] at hP1
          rw [ht] at hz9
          refine w_tight (hq0.trans hz9) ?_
          have hq0 := hq0.trans hz9
          obtain ⟨hP, hD⟩ := va_join (wr := [(qr, .inr (5, [.ref h0, .int (nI o)])), (qu, .inl (cI, 4096, .inl ug))]) (w1 := [(h0, .inr (8, [.ref qb, .ref qu, .int uc, .int ln, .int (nI n), .int (nI (i + 1)), .int pl])), (qb, .inl (cB, 4096, .inl bf))]) hP hD [1, 2] [0, 3] rfl rfl (by decide) (by decide) hk1 hFc hP1 hD1
          generalize H1 = H at hP hS hq0 ⊢
          have hP : va_P (dC, dI) classes ([(qr, .inr (5, [.ref h0, .int (nI o)])), (qu, .inl (cI, 4096, .inl ug)), (h0, .inr (8, [.ref qb, .ref qu, .int uc, .int ln, .int (nI n), .int (nI (i + 1)), .int pl])), (qb, .inl (cB, 4096, .inl bf))]) H := hP
          have hD : va_D A ([(qr, .inr (5, [.ref h0, .int (nI o)])), (qu, .inl (cI, 4096, .inl ug)), (h0, .inr (8, [.ref qb, .ref qu, .int uc, .int ln, .int (nI n), .int (nI (i + 1)), .int pl])), (qb, .inl (cB, 4096, .inl bf))]) := hD
          have hP := hP.sub (ws' := [(qr, .inr (5, [.ref h0, .int (nI o)])), (h0, .inr (8, [.ref qb, .ref qu, .int uc, .int ln, .int (nI n), .int (nI (i + 1)), .int pl])), (qb, .inl (cB, 4096, .inl bf)), (qu, .inl (cI, 4096, .inl ug))]) [0, 2, 3, 1] rfl
          have hD := hD.sub (ws' := [(qr, .inr (5, [.ref h0, .int (nI o)])), (h0, .inr (8, [.ref qb, .ref qu, .int uc, .int ln, .int (nI n), .int (nI (i + 1)), .int pl])), (qb, .inl (cB, 4096, .inl bf)), (qu, .inl (cI, 4096, .inl ug))]) [0, 2, 3, 1] (by decide) rfl
          have ht27 : hereV bf n i = 61 := hw
          have hl27 := here_lc ht27 (by decide)
          refine lv_aload_n hx hb d_QueryReader_operator_96 rfl (lv_at hl 1 rfl) ?_
          refine va_get (D := (dC, dI)) (ci := 5) (v := .ref h0) (C := R_QueryReader) (T := F_QueryReader) (N := 2) hx hb hts in_QueryReader hown hK hP 0 rfl rfl 0 (by decide) (hts _ w_100) (fun _ h9 => h9) rfl d_QueryReader_operator_97 ?_
          refine lv_bipush (v := 61) hx hb d_QueryReader_operator_100 (by decide) ?_
          have hPc := hP.sub (ws' := [(h0, .inr (8, [.ref qb, .ref qu, .int uc, .int ln, .int (nI n), .int (nI (i + 1)), .int pl])), (qb, .inl (cB, 4096, .inl bf))]) [1, 2] rfl
          have hDc := hD.sub (ws' := [(h0, .inr (8, [.ref qb, .ref qu, .int uc, .int ln, .int (nI n), .int (nI (i + 1)), .int pl])), (qb, .inl (cB, 4096, .inl bf))]) [1, 2] (by decide) rfl
          have hFc := va_free (wc := [(h0, .inr (8, [.ref qb, .ref qu, .int uc, .int ln, .int (nI n), .int (nI (i + 1)), .int pl])), (qb, .inl (cB, 4096, .inl bf))]) hD hS hA [1, 2] rfl
          have hKc := hK.sub (tys' := [(cB, .byte)]) [0] rfl
          refine w_same (fun hq0 => ?_)
          refine vx_callv (vx_runV (As := [.int 61]) (rest := []) ⟨hx, hb, hml, hown, hts⟩ (c_Tape_take l hl9 dC dI cB h0 qb H (.ref qu) uc ln pl bf n ((i + 1)) 61 hn0 (by omega)) (cwV 1 hts (gt_V (own := R_QueryReader) (C := R_Tape) (i := 164) (y := y_Tape_take) i_Tape_take z_598 w_437 w_438 w_2) rfl rfl rfl (by decide +kernel) ⟨Nat.le_of_ble_eq_true rfl, Nat.le_of_ble_eq_true rfl⟩) ⟨mx_blind, va_recv hK hP (ci := 8) (q0 := 1) rfl rfl, fun U hU hW => ⟨rfl, ⟨hU, by rw [hU]; exact hPc, va_K.moved hW.alike hKc, hDc.weaken (fun _ _ _ _ => trivial)⟩, hN.warm hW, by rw [hU]; exact ZX.moved' hW.alike (ZX.narrow' (ZX.kept' hZ hS.2.1) hFc)⟩⟩ rfl rfl hl.1 rfl (lv_room (Nat.le_of_ble_eq_true rfl)) d_QueryReader_operator_102 ⟨Nat.le_of_ble_eq_true rfl, Nat.le_of_ble_eq_true rfl⟩) hS (fun q _ h => hFc q h) hFc (fun q _ h => hFc q h) (fun En ce q9 _u t9 H1 locs ht hvm hw hB hz1 hk1 hS hce hcv hcl => ?_) (fun _u t9 H1 locs ht hvm hw hB hz1 hk1 hS => ?_)
          · obtain ⟨hEn, hP1, hK1, hD1⟩ := hB
            rw [ht] at hP1
            obtain ⟨hP, hD⟩ := va_join (wr := [(qr, .inr (5, [.ref h0, .int (nI o)])), (qu, .inl (cI, 4096, .inl ug))]) (w1 := [(h0, .inr (8, [.ref qb, .ref qu, .int uc, .int ln, .int (nI n), .int (nI (i + 1)), .int (nI (i + 1))])), (qb, .inl (cB, 4096, .inl bf))]) hP hD [1, 2] [0, 3] rfl rfl (by decide) (by decide) hk1 hFc hP1 hD1
            generalize H1 = H at hP hS hce ⊢
            have hP : va_P (dC, dI) classes ([(qr, .inr (5, [.ref h0, .int (nI o)])), (qu, .inl (cI, 4096, .inl ug)), (h0, .inr (8, [.ref qb, .ref qu, .int uc, .int ln, .int (nI n), .int (nI (i + 1)), .int (nI (i + 1))])), (qb, .inl (cB, 4096, .inl bf))]) H := hP
            have hD : va_D A ([(qr, .inr (5, [.ref h0, .int (nI o)])), (qu, .inl (cI, 4096, .inl ug)), (h0, .inr (8, [.ref qb, .ref qu, .int uc, .int ln, .int (nI n), .int (nI (i + 1)), .int (nI (i + 1))])), (qb, .inl (cB, 4096, .inl bf))]) := hD
            have hP := hP.sub (ws' := [(qr, .inr (5, [.ref h0, .int (nI o)])), (h0, .inr (8, [.ref qb, .ref qu, .int uc, .int ln, .int (nI n), .int (nI (i + 1)), .int (nI (i + 1))])), (qb, .inl (cB, 4096, .inl bf)), (qu, .inl (cI, 4096, .inl ug))]) [0, 2, 3, 1] rfl
            have hD := hD.sub (ws' := [(qr, .inr (5, [.ref h0, .int (nI o)])), (h0, .inr (8, [.ref qb, .ref qu, .int uc, .int ln, .int (nI n), .int (nI (i + 1)), .int (nI (i + 1))])), (qb, .inl (cB, 4096, .inl bf)), (qu, .inl (cI, 4096, .inl ug))]) [0, 2, 3, 1] (by decide) rfl
            have hno : oprD bf n i = none := oprD_9 ht27 hw
            exact vx_out (fun x hx => (hex x hx).elim) hlocks hce hcv hcl (fun t9 ht2 ha => ⟨(nI (i + 1), uc, nI (i + 1), ug, (nI o)), hno, ⟨hEn, by rw [ht2]; exact hP, va_K.moved ha hK, hD⟩, hS.F ht2⟩) hS.2.2 (Nat.le_of_ble_eq_true rfl) (Nat.le_of_ble_eq_true rfl)
          · obtain ⟨⟨hP1, hK1, hD1⟩, hz9⟩ := hB
            rw [ht] at hP1
            rw [ht] at hz9
            refine w_tight (hq0.trans hz9) ?_
            have hq0 := hq0.trans hz9
            obtain ⟨hP, hD⟩ := va_join (wr := [(qr, .inr (5, [.ref h0, .int (nI o)])), (qu, .inl (cI, 4096, .inl ug))]) (w1 := [(h0, .inr (8, [.ref qb, .ref qu, .int uc, .int ln, .int (nI n), .int (nI ((i + 1) + 1)), .int pl])), (qb, .inl (cB, 4096, .inl bf))]) hP hD [1, 2] [0, 3] rfl rfl (by decide) (by decide) hk1 hFc hP1 hD1
            generalize H1 = H at hP hS hq0 ⊢
            have hP : va_P (dC, dI) classes ([(qr, .inr (5, [.ref h0, .int (nI o)])), (qu, .inl (cI, 4096, .inl ug)), (h0, .inr (8, [.ref qb, .ref qu, .int uc, .int ln, .int (nI n), .int (nI ((i + 1) + 1)), .int pl])), (qb, .inl (cB, 4096, .inl bf))]) H := hP
            have hD : va_D A ([(qr, .inr (5, [.ref h0, .int (nI o)])), (qu, .inl (cI, 4096, .inl ug)), (h0, .inr (8, [.ref qb, .ref qu, .int uc, .int ln, .int (nI n), .int (nI ((i + 1) + 1)), .int pl])), (qb, .inl (cB, 4096, .inl bf))]) := hD
            have hP := hP.sub (ws' := [(qr, .inr (5, [.ref h0, .int (nI o)])), (h0, .inr (8, [.ref qb, .ref qu, .int uc, .int ln, .int (nI n), .int (nI ((i + 1) + 1)), .int pl])), (qb, .inl (cB, 4096, .inl bf)), (qu, .inl (cI, 4096, .inl ug))]) [0, 2, 3, 1] rfl
            have hD := hD.sub (ws' := [(qr, .inr (5, [.ref h0, .int (nI o)])), (h0, .inr (8, [.ref qb, .ref qu, .int uc, .int ln, .int (nI n), .int (nI ((i + 1) + 1)), .int pl])), (qb, .inl (cB, 4096, .inl bf)), (qu, .inl (cI, 4096, .inl ug))]) [0, 2, 3, 1] (by decide) rfl
            have ht28 : hereV bf n ((i + 1)) = 61 := hw
            have hl28 := here_lc ht28 (by decide)
            refine lv_iload_n hx hb d_QueryReader_operator_105 rfl (lv_at hl 0 rfl) ?_
            have hok : oprD bf n i = some (((i + 1) + 1), 0) := oprD_8 ht27 ht28
            refine w_same (fun hq => ?_)
            refine W.widen (k := 1) (n := 6) (Nat.le_of_ble_eq_true rfl) (Nat.le_of_ble_eq_true rfl) ?_
            refine vx_ret ?_
            exact W.iret (v := 4) hx hb hr (fun t9 ht hW => ⟨⟨4, ((i + 1) + 1), rfl, ⟨by decide, by show i < ((i + 1) + 1); omega, by show ((i + 1) + 1) ≤ n; omega, 0, by decide, rfl, hok⟩, ⟨by rw [ht]; exact hP, va_K.moved hW.alike hK, hD⟩, by rw [ht]; exact hq⟩, hS.F ht⟩) hS.2.2 d_QueryReader_operator_106
abbrev b_QueryReader_takeOpening : ByteArray := prog_7_method_24_code
def y_QueryReader_takeOpening : MethodName := ⟨"QueryBench$QueryReader", "takeOpening", "(I)V"⟩
abbrev k_QueryReader_takeOpening : Cond := .code y_QueryReader_takeOpening b_QueryReader_takeOpening 2 none
theorem i_QueryReader_takeOpening : k_QueryReader_takeOpening ∈ gtbl := gt_in 597 (by decide +kernel) (by decide +kernel)
theorem d_QueryReader_takeOpening_0 : decode b_QueryReader_takeOpening 0 = .ok (.aload_n 0, 1) := by decide +kernel
theorem d_QueryReader_takeOpening_1 : decode b_QueryReader_takeOpening 1 = .ok (.getfield 15, 3) := by decide +kernel
theorem d_QueryReader_takeOpening_4 : decode b_QueryReader_takeOpening 4 = .ok (.bipush 16, 2) := by decide +kernel
theorem d_QueryReader_takeOpening_6 : decode b_QueryReader_takeOpening 6 = .ok (.if_icmp .lt 17, 3) := by decide +kernel
theorem d_QueryReader_takeOpening_9 : decode b_QueryReader_takeOpening 9 = .ok (.aload_n 0, 1) := by decide +kernel
theorem d_QueryReader_takeOpening_10 : decode b_QueryReader_takeOpening 10 = .ok (.getfield 9, 3) := by decide +kernel
theorem d_QueryReader_takeOpening_13 : decode b_QueryReader_takeOpening 13 = .ok (.aload_n 0, 1) := by decide +kernel
theorem d_QueryReader_takeOpening_14 : decode b_QueryReader_takeOpening 14 = .ok (.getfield 9, 3) := by decide +kernel
theorem d_QueryReader_takeOpening_17 : decode b_QueryReader_takeOpening 17 = .ok (.getfield 25, 3) := by decide +kernel
theorem d_QueryReader_takeOpening_20 : decode b_QueryReader_takeOpening 20 = .ok (.invokevirtual 28, 3) := by decide +kernel
theorem d_QueryReader_takeOpening_23 : decode b_QueryReader_takeOpening 23 = .ok (.aload_n 0, 1) := by decide +kernel
theorem d_QueryReader_takeOpening_24 : decode b_QueryReader_takeOpening 24 = .ok (.getfield 9, 3) := by decide +kernel
theorem d_QueryReader_takeOpening_27 : decode b_QueryReader_takeOpening 27 = .ok (.iload_n 1, 1) := by decide +kernel
theorem d_QueryReader_takeOpening_28 : decode b_QueryReader_takeOpening 28 = .ok (.invokevirtual 164, 3) := by decide +kernel
theorem d_QueryReader_takeOpening_31 : decode b_QueryReader_takeOpening 31 = .ok (.aload_n 0, 1) := by decide +kernel
theorem d_QueryReader_takeOpening_32 : decode b_QueryReader_takeOpening 32 = .ok (.dup, 1) := by decide +kernel
theorem d_QueryReader_takeOpening_33 : decode b_QueryReader_takeOpening 33 = .ok (.getfield 15, 3) := by decide +kernel
theorem d_QueryReader_takeOpening_36 : decode b_QueryReader_takeOpening 36 = .ok (.iconst 1, 1) := by decide +kernel
theorem d_QueryReader_takeOpening_37 : decode b_QueryReader_takeOpening 37 = .ok (.iadd, 1) := by decide +kernel
theorem d_QueryReader_takeOpening_38 : decode b_QueryReader_takeOpening 38 = .ok (.putfield 15, 3) := by decide +kernel
theorem d_QueryReader_takeOpening_41 : decode b_QueryReader_takeOpening 41 = .ok (.return_, 1) := by decide +kernel
set_option maxHeartbeats 4000000 in
set_option maxRecDepth 100000 in
/-- QueryReader.takeOpening -/
theorem c_QueryReader_takeOpening (l : Launch) (hl9 : l.stackTraces = false) (dC : Nat → ClassId) (dI : Nat → Nat → Nat) (sz : Heap) (cB cI : ClassId) (h0 qb qu : Nat) (uc ln pl : Int32) (bf ug : Nat → Int32) (n i : Nat) (hn0 : n ≤ 4096) (hin : i ≤ n) (qr o : Nat) (ho : o ≤ 16) (b9 : Int32) (hbn : b9 ≠ -1) : vx_Met l y_QueryReader_takeOpening (k_QueryReader_takeOpening :: gtbl) ({ frames := 10, cells := 1, slots := 6, locals := 170 }) (va_Pc [.ref qr, .int b9] (mx dC dI ([(qr, .inr (5, [.ref h0, .int (nI o)])), (h0, .inr (8, [.ref qb, .ref qu, .int uc, .int ln, .int (nI n), .int (nI i), .int pl])), (qb, .inl (cB, 4096, .inl bf)), (qu, .inl (cI, 4096, .inl ug))]) [(cB, .byte), (cI, .int)] sz)) (va_Qv (fun (u : Unit) => o < 16 ∧ i < n ∧ hereV bf n i = b9) (fun u t9 => mz dC dI ([(qr, .inr (5, [.ref h0, .int (nI (o + 1))])), (h0, .inr (8, [.ref qb, .ref qu, .int uc, .int ln, .int (nI n), .int (nI (i + 1)), .int pl])), (qb, .inl (cB, 4096, .inl bf)), (qu, .inl (cI, 4096, .inl ug))]) [(cB, .byte), (cI, .int)] (va_A ([(qr, .inr (5, [.ref h0, .int (nI o)])), (h0, .inr (8, [.ref qb, .ref qu, .int uc, .int ln, .int (nI n), .int (nI i), .int pl])), (qb, .inl (cB, 4096, .inl bf)), (qu, .inl (cI, 4096, .inl ug))]) sz.size) t9 ∧ szk sz t9.heap (0) (0)) (va_A ([(qr, .inr (5, [.ref h0, .int (nI o)])), (h0, .inr (8, [.ref qb, .ref qu, .int uc, .int ln, .int (nI n), .int (nI i), .int pl])), (qb, .inl (cB, 4096, .inl bf)), (qu, .inl (cI, 4096, .inl ug))]) sz.size)) (vx_X (fun (u : Int32 × Int32 × Int32 × (Nat → Int32) × Int32) => o < 16 → ¬ hereV bf n i = b9) (fun En u t9 => En = UOX ∧ mz dC dI ([(qr, .inr (5, [.ref h0, .int u.2.2.2.2])), (h0, .inr (8, [.ref qb, .ref qu, .int u.2.1, .int ln, .int (nI n), .int u.1, .int u.2.2.1])), (qb, .inl (cB, 4096, .inl bf)), (qu, .inl (cI, 4096, .inl u.2.2.2.1))]) [(cB, .byte), (cI, .int)] (va_A ([(qr, .inr (5, [.ref h0, .int (nI o)])), (h0, .inr (8, [.ref qb, .ref qu, .int uc, .int ln, .int (nI n), .int (nI i), .int pl])), (qb, .inl (cB, 4096, .inl bf)), (qu, .inl (cI, 4096, .inl ug))]) sz.size) t9) (va_A ([(qr, .inr (5, [.ref h0, .int (nI o)])), (h0, .inr (8, [.ref qb, .ref qu, .int uc, .int ln, .int (nI n), .int (nI i), .int pl])), (qb, .inl (cB, 4096, .inl bf)), (qu, .inl (cI, 4096, .inl ug))]) sz.size)) (1) (6) (va_A ([(qr, .inr (5, [.ref h0, .int (nI o)])), (h0, .inr (8, [.ref qb, .ref qu, .int uc, .int ln, .int (nI n), .int (nI i), .int pl])), (qb, .inl (cB, 4096, .inl bf)), (qu, .inl (cI, 4096, .inl ug))]) sz.size) := by
  refine vx_ofW (cc := b_QueryReader_takeOpening) (maxL := 2) (ret := none) (by decide) rfl ?_
  intro p e s m args below meth c s₁ B hml hex hv
  obtain ⟨rfl, ⟨hsz, hP, hK, hD0⟩, hN, hZ⟩ := hv
  have hx := B.exec
  have hb := B.bytes
  have hr := B.returns
  have hts0 := atoms_spec (ws := k_QueryReader_takeOpening :: gtbl) B.pre
  have hts := fun w h => hts0 w (List.mem_cons_of_mem _ h)
  have hown : s.vm.findClass R_QueryReader = some m.cls := findClass_of_methodNamed B.named
  have hlocks := B.notSynchronized
  subst hsz
  have hD := hD0.self (sz := s.heap.size)
  generalize hAe : va_A ([(qr, .inr (5, [.ref h0, .int (nI o)])), (h0, .inr (8, [.ref qb, .ref qu, .int uc, .int ln, .int (nI n), .int (nI i), .int pl])), (qb, .inl (cB, 4096, .inl bf)), (qu, .inl (cI, 4096, .inl ug))]) s.heap.size = A at hD hZ ⊢
  have hA : ∀ q : Nat, s.heap.size ≤ q → A q := fun q h => by rw [← hAe]; exact Or.inr h
  have hS : va_S A s.heap s.heap [] := va_S.rf
  have hP : va_P (dC, dI) classes ([(qr, .inr (5, [.ref h0, .int (nI o)])), (h0, .inr (8, [.ref qb, .ref qu, .int uc, .int ln, .int (nI n), .int (nI i), .int pl])), (qb, .inl (cB, 4096, .inl bf)), (qu, .inl (cI, 4096, .inl ug))]) s.heap := hP
  have hl := lv_entry ([.ref qr, .int b9]) (n := 2) (Nat.le_of_ble_eq_true rfl)
  rw [lg_entry_eq]
  generalize (lg_sl ([.ref qr, .int b9]) ++ List.replicate (2 - (lg_sl ([.ref qr, .int b9])).length) Slot.unset).toArray = ls at hl ⊢
  have hl : lv_has ls 2 [(0, .ref qr), (1, .int b9)] := hl
  refine lv_aload_n hx hb d_QueryReader_takeOpening_0 rfl (lv_at hl 0 rfl) ?_
  refine va_get (D := (dC, dI)) (ci := 5) (v := .int (nI o)) (C := R_QueryReader) (T := F_QueryReader) (N := 2) hx hb hts in_QueryReader hown hK hP 0 rfl rfl 1 (by decide) (hts _ z_101) (fun _ h9 => h9) rfl d_QueryReader_takeOpening_1 ?_
  refine lv_bipush (v := 16) hx hb d_QueryReader_takeOpening_4 (by decide) ?_
  refine lv_icmp_lt (tgt := 23) hx hb d_QueryReader_takeOpening_6 (by decide) (fun c6 => ?_) (fun c6 => ?_)
  · have ho1 : o < 16 := by rw [show (16 : Int32) = nI 16 from rfl, nI_ltI (by omega) (by omega)] at c6; exact c6
    refine lv_aload_n hx hb d_QueryReader_takeOpening_23 rfl (lv_at hl 0 rfl) ?_
    refine va_get (D := (dC, dI)) (ci := 5) (v := .ref h0) (C := R_QueryReader) (T := F_QueryReader) (N := 2) hx hb hts in_QueryReader hown hK hP 0 rfl rfl 0 (by decide) (hts _ w_100) (fun _ h9 => h9) rfl d_QueryReader_takeOpening_24 ?_
    refine lv_iload_n hx hb d_QueryReader_takeOpening_27 rfl (lv_at hl 1 rfl) ?_
    have hPc := hP.sub (ws' := [(h0, .inr (8, [.ref qb, .ref qu, .int uc, .int ln, .int (nI n), .int (nI i), .int pl])), (qb, .inl (cB, 4096, .inl bf))]) [1, 2] rfl
    have hDc := hD.sub (ws' := [(h0, .inr (8, [.ref qb, .ref qu, .int uc, .int ln, .int (nI n), .int (nI i), .int pl])), (qb, .inl (cB, 4096, .inl bf))]) [1, 2] (by decide) rfl
    have hFc := va_free (wc := [(h0, .inr (8, [.ref qb, .ref qu, .int uc, .int ln, .int (nI n), .int (nI i), .int pl])), (qb, .inl (cB, 4096, .inl bf))]) hD hS hA [1, 2] rfl
    have hKc := hK.sub (tys' := [(cB, .byte)]) [0] rfl
    refine w_same (fun hq0 => ?_)
    refine vx_callv (vx_runV (As := [.int b9]) (rest := []) ⟨hx, hb, hml, hown, hts⟩ (c_Tape_take l hl9 dC dI cB h0 qb s.heap (.ref qu) uc ln pl bf n i b9 hn0 (by omega)) (cwV 1 hts (gt_V (own := R_QueryReader) (C := R_Tape) (i := 164) (y := y_Tape_take) i_Tape_take z_598 w_437 w_438 w_2) rfl rfl rfl (by decide +kernel) ⟨Nat.le_of_ble_eq_true rfl, Nat.le_of_ble_eq_true rfl⟩) ⟨mx_blind, va_recv hK hP (ci := 8) (q0 := 1) rfl rfl, fun U hU hW => ⟨rfl, ⟨hU, by rw [hU]; exact hPc, va_K.moved hW.alike hKc, hDc.weaken (fun _ _ _ _ => trivial)⟩, hN.warm hW, by rw [hU]; exact ZX.moved' hW.alike (ZX.narrow' (ZX.kept' hZ hS.2.1) hFc)⟩⟩ rfl rfl hl.1 rfl (lv_room (Nat.le_of_ble_eq_true rfl)) d_QueryReader_takeOpening_28 ⟨Nat.le_of_ble_eq_true rfl, Nat.le_of_ble_eq_true rfl⟩) hS (fun q _ h => hFc q h) hFc (fun q _ h => hFc q h) (fun En ce q9 _u t9 H1 locs ht hvm hw hB hz1 hk1 hS hce hcv hcl => ?_) (fun _u t9 H1 locs ht hvm hw hB hz1 hk1 hS => ?_)
    · obtain ⟨hEn, hP1, hK1, hD1⟩ := hB
      rw [ht] at hP1
      obtain ⟨hP, hD⟩ := va_join (wr := [(qr, .inr (5, [.ref h0, .int (nI o)])), (qu, .inl (cI, 4096, .inl ug))]) (w1 := [(h0, .inr (8, [.ref qb, .ref qu, .int uc, .int ln, .int (nI n), .int (nI i), .int (nI i)])), (qb, .inl (cB, 4096, .inl bf))]) hP hD [1, 2] [0, 3] rfl rfl (by decide) (by decide) hk1 hFc hP1 hD1
      generalize H1 = H at hP hS hce ⊢
      have hP : va_P (dC, dI) classes ([(qr, .inr (5, [.ref h0, .int (nI o)])), (qu, .inl (cI, 4096, .inl ug)), (h0, .inr (8, [.ref qb, .ref qu, .int uc, .int ln, .int (nI n), .int (nI i), .int (nI i)])), (qb, .inl (cB, 4096, .inl bf))]) H := hP
      have hD : va_D A ([(qr, .inr (5, [.ref h0, .int (nI o)])), (qu, .inl (cI, 4096, .inl ug)), (h0, .inr (8, [.ref qb, .ref qu, .int uc, .int ln, .int (nI n), .int (nI i), .int (nI i)])), (qb, .inl (cB, 4096, .inl bf))]) := hD
      have hP := hP.sub (ws' := [(qr, .inr (5, [.ref h0, .int (nI o)])), (h0, .inr (8, [.ref qb, .ref qu, .int uc, .int ln, .int (nI n), .int (nI i), .int (nI i)])), (qb, .inl (cB, 4096, .inl bf)), (qu, .inl (cI, 4096, .inl ug))]) [0, 2, 3, 1] rfl
      have hD := hD.sub (ws' := [(qr, .inr (5, [.ref h0, .int (nI o)])), (h0, .inr (8, [.ref qb, .ref qu, .int uc, .int ln, .int (nI n), .int (nI i), .int (nI i)])), (qb, .inl (cB, 4096, .inl bf)), (qu, .inl (cI, 4096, .inl ug))]) [0, 2, 3, 1] (by decide) rfl
      have hno : o < 16 → ¬ hereV bf n i = b9 := fun _ => hw
      exact vx_out (fun x hx => (hex x hx).elim) hlocks hce hcv hcl (fun t9 ht2 ha => ⟨(nI i, uc, nI i, ug, (nI o)), hno, ⟨hEn, by rw [ht2]; exact hP, va_K.moved ha hK, hD⟩, hS.F ht2⟩) hS.2.2 (Nat.le_of_ble_eq_true rfl) (Nat.le_of_ble_eq_true rfl)
    · obtain ⟨⟨hP1, hK1, hD1⟩, hz9⟩ := hB
      rw [ht] at hP1
      rw [ht] at hz9
      refine w_tight (hq0.trans hz9) ?_
      have hq0 := hq0.trans hz9
      obtain ⟨hP, hD⟩ := va_join (wr := [(qr, .inr (5, [.ref h0, .int (nI o)])), (qu, .inl (cI, 4096, .inl ug))]) (w1 := [(h0, .inr (8, [.ref qb, .ref qu, .int uc, .int ln, .int (nI n), .int (nI (i + 1)), .int pl])), (qb, .inl (cB, 4096, .inl bf))]) hP hD [1, 2] [0, 3] rfl rfl (by decide) (by decide) hk1 hFc hP1 hD1
      generalize H1 = H at hP hS hq0 ⊢
      have hP : va_P (dC, dI) classes ([(qr, .inr (5, [.ref h0, .int (nI o)])), (qu, .inl (cI, 4096, .inl ug)), (h0, .inr (8, [.ref qb, .ref qu, .int uc, .int ln, .int (nI n), .int (nI (i + 1)), .int pl])), (qb, .inl (cB, 4096, .inl bf))]) H := hP
      have hD : va_D A ([(qr, .inr (5, [.ref h0, .int (nI o)])), (qu, .inl (cI, 4096, .inl ug)), (h0, .inr (8, [.ref qb, .ref qu, .int uc, .int ln, .int (nI n), .int (nI (i + 1)), .int pl])), (qb, .inl (cB, 4096, .inl bf))]) := hD
      have hP := hP.sub (ws' := [(qr, .inr (5, [.ref h0, .int (nI o)])), (h0, .inr (8, [.ref qb, .ref qu, .int uc, .int ln, .int (nI n), .int (nI (i + 1)), .int pl])), (qb, .inl (cB, 4096, .inl bf)), (qu, .inl (cI, 4096, .inl ug))]) [0, 2, 3, 1] rfl
      have hD := hD.sub (ws' := [(qr, .inr (5, [.ref h0, .int (nI o)])), (h0, .inr (8, [.ref qb, .ref qu, .int uc, .int ln, .int (nI n), .int (nI (i + 1)), .int pl])), (qb, .inl (cB, 4096, .inl bf)), (qu, .inl (cI, 4096, .inl ug))]) [0, 2, 3, 1] (by decide) rfl
      have ht21 : hereV bf n i = b9 := hw
      have hl21 := here_lc ht21 hbn
      refine lv_aload_n hx hb d_QueryReader_takeOpening_31 rfl (lv_at hl 0 rfl) ?_
      refine lv_dup hx hb d_QueryReader_takeOpening_32 rfl ?_
      refine va_get (D := (dC, dI)) (ci := 5) (v := .int (nI o)) (C := R_QueryReader) (T := F_QueryReader) (N := 2) hx hb hts in_QueryReader hown hK hP 0 rfl rfl 1 (by decide) (hts _ z_101) (fun _ h9 => h9) rfl d_QueryReader_takeOpening_33 ?_
      refine lv_iconst (v := 1) hx hb d_QueryReader_takeOpening_36 (by decide) ?_
      refine lv_iadd hx hb d_QueryReader_takeOpening_37 ?_
      refine W.eq (g2 := F0 m 38 ls [.int (nI (o + 1)), .ref qr]) (by rw [show ((nI o) + 1) = (nI (o + 1)) from nI_1 _]) ?_
      refine va_put (D := (dC, dI)) (ci := 5) (v := .int (nI (o + 1))) (ty := .int) (C := R_QueryReader) (T := F_QueryReader) (N := 2) hx hb hts in_QueryReader t_QueryReader t_QueryReader_ok n_QueryReader hown hK hP hD hS 0 rfl rfl 1 (by decide) (hts _ z_101) (fun _ h9 => h9) rfl (by decide +kernel) rfl rfl (Nat.le_of_ble_eq_true rfl) d_QueryReader_takeOpening_38 (fun H locs hP hD hS => ?_)
      have hP : va_P (dC, dI) classes ([(qr, .inr (5, [.ref h0, .int (nI (o + 1))])), (h0, .inr (8, [.ref qb, .ref qu, .int uc, .int ln, .int (nI n), .int (nI (i + 1)), .int pl])), (qb, .inl (cB, 4096, .inl bf)), (qu, .inl (cI, 4096, .inl ug))]) H := hP
      have hD : va_D A ([(qr, .inr (5, [.ref h0, .int (nI (o + 1))])), (h0, .inr (8, [.ref qb, .ref qu, .int uc, .int ln, .int (nI n), .int (nI (i + 1)), .int pl])), (qb, .inl (cB, 4096, .inl bf)), (qu, .inl (cI, 4096, .inl ug))]) := hD
      refine w_same (fun hq => ?_)
      refine W.widen (k := 1) (n := 6) (Nat.le_of_ble_eq_true rfl) (Nat.le_of_ble_eq_true rfl) ?_
      refine vx_ret ?_
      exact W.vret hx hb hr (fun t9 ht hW => ⟨⟨(), rfl, ⟨ho1, by omega, ht21⟩, ⟨by rw [ht]; exact hP, va_K.moved hW.alike hK, hD⟩, by rw [ht]; exact hq⟩, hS.F ht⟩) hS.2.2 d_QueryReader_takeOpening_41
  · refine lv_aload_n hx hb d_QueryReader_takeOpening_9 rfl (lv_at hl 0 rfl) ?_
    refine va_get (D := (dC, dI)) (ci := 5) (v := .ref h0) (C := R_QueryReader) (T := F_QueryReader) (N := 2) hx hb hts in_QueryReader hown hK hP 0 rfl rfl 0 (by decide) (hts _ w_100) (fun _ h9 => h9) rfl d_QueryReader_takeOpening_10 ?_
    refine lv_aload_n hx hb d_QueryReader_takeOpening_13 rfl (lv_at hl 0 rfl) ?_
    refine va_get (D := (dC, dI)) (ci := 5) (v := .ref h0) (C := R_QueryReader) (T := F_QueryReader) (N := 2) hx hb hts in_QueryReader hown hK hP 0 rfl rfl 0 (by decide) (hts _ w_100) (fun _ h9 => h9) rfl d_QueryReader_takeOpening_14 ?_
    refine va_get (D := (dC, dI)) (ci := 8) (v := .int (nI i)) (C := R_Tape) (T := F_Tape) (N := 7) hx hb hts in_Tape hown hK hP 1 rfl rfl 5 (by decide) (hts _ z_53) (fun _ h9 => h9) rfl d_QueryReader_takeOpening_17 ?_
    have hPc := hP.sub (ws' := [(h0, .inr (8, [.ref qb, .ref qu, .int uc, .int ln, .int (nI n), .int (nI i), .int pl])), (qb, .inl (cB, 4096, .inl bf))]) [1, 2] rfl
    have hDc := hD.sub (ws' := [(h0, .inr (8, [.ref qb, .ref qu, .int uc, .int ln, .int (nI n), .int (nI i), .int pl])), (qb, .inl (cB, 4096, .inl bf))]) [1, 2] (by decide) rfl
    have hFc := va_free (wc := [(h0, .inr (8, [.ref qb, .ref qu, .int uc, .int ln, .int (nI n), .int (nI i), .int pl])), (qb, .inl (cB, 4096, .inl bf))]) hD hS hA [1, 2] rfl
    have hKc := hK.sub (tys' := [(cB, .byte)]) [0] rfl
    refine w_same (fun hq0 => ?_)
    refine vx_callv (vx_runV (As := [.int (nI i)]) (rest := []) ⟨hx, hb, hml, hown, hts⟩ (c_Tape_fail l hl9 dC dI cB h0 qb s.heap (.ref qu) uc ln (nI n) (nI i) pl bf ((nI i))) (cwV 1 hts (gt_V (own := R_QueryReader) (C := R_Tape) (i := 28) (y := y_Tape_fail) i_Tape_fail z_535 w_371 w_372 w_2) rfl rfl rfl (by decide +kernel) ⟨Nat.le_of_ble_eq_true rfl, Nat.le_of_ble_eq_true rfl⟩) ⟨mx_blind, va_recv hK hP (ci := 8) (q0 := 1) rfl rfl, fun U hU hW => ⟨rfl, ⟨hU, by rw [hU]; exact hPc, va_K.moved hW.alike hKc, hDc.weaken (fun _ _ _ _ => trivial)⟩, hN.warm hW, by rw [hU]; exact ZX.moved' hW.alike (ZX.narrow' (ZX.kept' hZ hS.2.1) hFc)⟩⟩ rfl rfl hl.1 rfl (lv_room (Nat.le_of_ble_eq_true rfl)) d_QueryReader_takeOpening_20 ⟨Nat.le_of_ble_eq_true rfl, Nat.le_of_ble_eq_true rfl⟩) hS (fun q _ h => hFc q h) hFc (fun q _ h => hFc q h) (fun En ce q9 _u t9 H1 locs ht hvm hw hB hz1 hk1 hS hce hcv hcl => ?_) (fun _u t9 H1 locs ht hvm hw hB hz1 hk1 hS => ?_)
    · obtain ⟨hEn, hP1, hK1, hD1⟩ := hB
      rw [ht] at hP1
      obtain ⟨hP, hD⟩ := va_join (wr := [(qr, .inr (5, [.ref h0, .int (nI o)])), (qu, .inl (cI, 4096, .inl ug))]) (w1 := [(h0, .inr (8, [.ref qb, .ref qu, .int uc, .int ln, .int (nI n), .int (nI i), .int (nI i)])), (qb, .inl (cB, 4096, .inl bf))]) hP hD [1, 2] [0, 3] rfl rfl (by decide) (by decide) hk1 hFc hP1 hD1
      generalize H1 = H at hP hS hce ⊢
      have hP : va_P (dC, dI) classes ([(qr, .inr (5, [.ref h0, .int (nI o)])), (qu, .inl (cI, 4096, .inl ug)), (h0, .inr (8, [.ref qb, .ref qu, .int uc, .int ln, .int (nI n), .int (nI i), .int (nI i)])), (qb, .inl (cB, 4096, .inl bf))]) H := hP
      have hD : va_D A ([(qr, .inr (5, [.ref h0, .int (nI o)])), (qu, .inl (cI, 4096, .inl ug)), (h0, .inr (8, [.ref qb, .ref qu, .int uc, .int ln, .int (nI n), .int (nI i), .int (nI i)])), (qb, .inl (cB, 4096, .inl bf))]) := hD
      have hP := hP.sub (ws' := [(qr, .inr (5, [.ref h0, .int (nI o)])), (h0, .inr (8, [.ref qb, .ref qu, .int uc, .int ln, .int (nI n), .int (nI i), .int (nI i)])), (qb, .inl (cB, 4096, .inl bf)), (qu, .inl (cI, 4096, .inl ug))]) [0, 2, 3, 1] rfl
      have hD := hD.sub (ws' := [(qr, .inr (5, [.ref h0, .int (nI o)])), (h0, .inr (8, [.ref qb, .ref qu, .int uc, .int ln, .int (nI n), .int (nI i), .int (nI i)])), (qb, .inl (cB, 4096, .inl bf)), (qu, .inl (cI, 4096, .inl ug))]) [0, 2, 3, 1] (by decide) rfl
      have hno : o < 16 → ¬ hereV bf n i = b9 := fun h9 => absurd (show nI o < 16 by rw [show (16 : Int32) = nI 16 from rfl, nI_ltI (by omega) (by omega)]; exact h9) c6
      exact vx_out (fun x hx => (hex x hx).elim) hlocks hce hcv hcl (fun t9 ht2 ha => ⟨(nI i, uc, (nI i), ug, (nI o)), hno, ⟨hEn, by rw [ht2]; exact hP, va_K.moved ha hK, hD⟩, hS.F ht2⟩) hS.2.2 (Nat.le_of_ble_eq_true rfl) (Nat.le_of_ble_eq_true rfl)
    · obtain ⟨⟨hP1, hK1, hD1⟩, hz9⟩ := hB
      rw [ht] at hP1
      rw [ht] at hz9
      refine w_tight (hq0.trans hz9) ?_
      have hq0 := hq0.trans hz9
      obtain ⟨hP, hD⟩ := va_join (wr := [(qr, .inr (5, [.ref h0, .int (nI o)])), (qu, .inl (cI, 4096, .inl ug))]) (w1 := [(h0, .inr (8, [.ref qb, .ref qu, .int uc, .int ln, .int (nI n), .int (nI i), .int pl])), (qb, .inl (cB, 4096, .inl bf))]) hP hD [1, 2] [0, 3] rfl rfl (by decide) (by decide) hk1 hFc hP1 hD1
      generalize H1 = H at hP hS hq0 ⊢
      have hP : va_P (dC, dI) classes ([(qr, .inr (5, [.ref h0, .int (nI o)])), (qu, .inl (cI, 4096, .inl ug)), (h0, .inr (8, [.ref qb, .ref qu, .int uc, .int ln, .int (nI n), .int (nI i), .int pl])), (qb, .inl (cB, 4096, .inl bf))]) H := hP
      have hD : va_D A ([(qr, .inr (5, [.ref h0, .int (nI o)])), (qu, .inl (cI, 4096, .inl ug)), (h0, .inr (8, [.ref qb, .ref qu, .int uc, .int ln, .int (nI n), .int (nI i), .int pl])), (qb, .inl (cB, 4096, .inl bf))]) := hD
      have hP := hP.sub (ws' := [(qr, .inr (5, [.ref h0, .int (nI o)])), (h0, .inr (8, [.ref qb, .ref qu, .int uc, .int ln, .int (nI n), .int (nI i), .int pl])), (qb, .inl (cB, 4096, .inl bf)), (qu, .inl (cI, 4096, .inl ug))]) [0, 2, 3, 1] rfl
      have hD := hD.sub (ws' := [(qr, .inr (5, [.ref h0, .int (nI o)])), (h0, .inr (8, [.ref qb, .ref qu, .int uc, .int ln, .int (nI n), .int (nI i), .int pl])), (qb, .inl (cB, 4096, .inl bf)), (qu, .inl (cI, 4096, .inl ug))]) [0, 2, 3, 1] (by decide) rfl
      exact hw.elim
abbrev b_QueryReader_takeClosing : ByteArray := prog_7_method_25_code
def y_QueryReader_takeClosing : MethodName := ⟨"QueryBench$QueryReader", "takeClosing", "(I)V"⟩
abbrev k_QueryReader_takeClosing : Cond := .code y_QueryReader_takeClosing b_QueryReader_takeClosing 2 none
theorem i_QueryReader_takeClosing : k_QueryReader_takeClosing ∈ gtbl := gt_in 708 (by decide +kernel) (by decide +kernel)
theorem d_QueryReader_takeClosing_0 : decode b_QueryReader_takeClosing 0 = .ok (.aload_n 0, 1) := by decide +kernel
theorem d_QueryReader_takeClosing_1 : decode b_QueryReader_takeClosing 1 = .ok (.getfield 9, 3) := by decide +kernel
theorem d_QueryReader_takeClosing_4 : decode b_QueryReader_takeClosing 4 = .ok (.iload_n 1, 1) := by decide +kernel
theorem d_QueryReader_takeClosing_5 : decode b_QueryReader_takeClosing 5 = .ok (.invokevirtual 164, 3) := by decide +kernel
theorem d_QueryReader_takeClosing_8 : decode b_QueryReader_takeClosing 8 = .ok (.aload_n 0, 1) := by decide +kernel
theorem d_QueryReader_takeClosing_9 : decode b_QueryReader_takeClosing 9 = .ok (.dup, 1) := by decide +kernel
theorem d_QueryReader_takeClosing_10 : decode b_QueryReader_takeClosing 10 = .ok (.getfield 15, 3) := by decide +kernel
theorem d_QueryReader_takeClosing_13 : decode b_QueryReader_takeClosing 13 = .ok (.iconst 1, 1) := by decide +kernel
theorem d_QueryReader_takeClosing_14 : decode b_QueryReader_takeClosing 14 = .ok (.isub, 1) := by decide +kernel
theorem d_QueryReader_takeClosing_15 : decode b_QueryReader_takeClosing 15 = .ok (.putfield 15, 3) := by decide +kernel
theorem d_QueryReader_takeClosing_18 : decode b_QueryReader_takeClosing 18 = .ok (.return_, 1) := by decide +kernel
set_option maxHeartbeats 4000000 in
set_option maxRecDepth 100000 in
/-- QueryReader.takeClosing -/
theorem c_QueryReader_takeClosing (l : Launch) (hl9 : l.stackTraces = false) (dC : Nat → ClassId) (dI : Nat → Nat → Nat) (sz : Heap) (cB cI : ClassId) (h0 qb qu : Nat) (uc ln pl : Int32) (bf ug : Nat → Int32) (n i : Nat) (hn0 : n ≤ 4096) (hin : i ≤ n) (qr o : Nat) (b9 : Int32) (hbn : b9 ≠ -1) : vx_Met l y_QueryReader_takeClosing (k_QueryReader_takeClosing :: gtbl) ({ frames := 10, cells := 1, slots := 6, locals := 170 }) (va_Pc [.ref qr, .int b9] (mx dC dI ([(qr, .inr (5, [.ref h0, .int (nI (o + 1))])), (h0, .inr (8, [.ref qb, .ref qu, .int uc, .int ln, .int (nI n), .int (nI i), .int pl])), (qb, .inl (cB, 4096, .inl bf)), (qu, .inl (cI, 4096, .inl ug))]) [(cB, .byte), (cI, .int)] sz)) (va_Qv (fun (u : Unit) => i < n ∧ hereV bf n i = b9) (fun u t9 => mz dC dI ([(qr, .inr (5, [.ref h0, .int (nI o)])), (h0, .inr (8, [.ref qb, .ref qu, .int uc, .int ln, .int (nI n), .int (nI (i + 1)), .int pl])), (qb, .inl (cB, 4096, .inl bf)), (qu, .inl (cI, 4096, .inl ug))]) [(cB, .byte), (cI, .int)] (va_A ([(qr, .inr (5, [.ref h0, .int (nI (o + 1))])), (h0, .inr (8, [.ref qb, .ref qu, .int uc, .int ln, .int (nI n), .int (nI i), .int pl])), (qb, .inl (cB, 4096, .inl bf)), (qu, .inl (cI, 4096, .inl ug))]) sz.size) t9 ∧ szk sz t9.heap (0) (0)) (va_A ([(qr, .inr (5, [.ref h0, .int (nI (o + 1))])), (h0, .inr (8, [.ref qb, .ref qu, .int uc, .int ln, .int (nI n), .int (nI i), .int pl])), (qb, .inl (cB, 4096, .inl bf)), (qu, .inl (cI, 4096, .inl ug))]) sz.size)) (vx_X (fun (u : Int32 × Int32 × Int32 × (Nat → Int32) × Int32) => ¬ hereV bf n i = b9) (fun En u t9 => En = UOX ∧ mz dC dI ([(qr, .inr (5, [.ref h0, .int u.2.2.2.2])), (h0, .inr (8, [.ref qb, .ref qu, .int u.2.1, .int ln, .int (nI n), .int u.1, .int u.2.2.1])), (qb, .inl (cB, 4096, .inl bf)), (qu, .inl (cI, 4096, .inl u.2.2.2.1))]) [(cB, .byte), (cI, .int)] (va_A ([(qr, .inr (5, [.ref h0, .int (nI (o + 1))])), (h0, .inr (8, [.ref qb, .ref qu, .int uc, .int ln, .int (nI n), .int (nI i), .int pl])), (qb, .inl (cB, 4096, .inl bf)), (qu, .inl (cI, 4096, .inl ug))]) sz.size) t9) (va_A ([(qr, .inr (5, [.ref h0, .int (nI (o + 1))])), (h0, .inr (8, [.ref qb, .ref qu, .int uc, .int ln, .int (nI n), .int (nI i), .int pl])), (qb, .inl (cB, 4096, .inl bf)), (qu, .inl (cI, 4096, .inl ug))]) sz.size)) (1) (6) (va_A ([(qr, .inr (5, [.ref h0, .int (nI (o + 1))])), (h0, .inr (8, [.ref qb, .ref qu, .int uc, .int ln, .int (nI n), .int (nI i), .int pl])), (qb, .inl (cB, 4096, .inl bf)), (qu, .inl (cI, 4096, .inl ug))]) sz.size) := by
  refine vx_ofW (cc := b_QueryReader_takeClosing) (maxL := 2) (ret := none) (by decide) rfl ?_
  intro p e s m args below meth c s₁ B hml hex hv
  obtain ⟨rfl, ⟨hsz, hP, hK, hD0⟩, hN, hZ⟩ := hv
  have hx := B.exec
  have hb := B.bytes
  have hr := B.returns
  have hts0 := atoms_spec (ws := k_QueryReader_takeClosing :: gtbl) B.pre
  have hts := fun w h => hts0 w (List.mem_cons_of_mem _ h)
  have hown : s.vm.findClass R_QueryReader = some m.cls := findClass_of_methodNamed B.named
  have hlocks := B.notSynchronized
  subst hsz
  have hD := hD0.self (sz := s.heap.size)
  generalize hAe : va_A ([(qr, .inr (5, [.ref h0, .int (nI (o + 1))])), (h0, .inr (8, [.ref qb, .ref qu, .int uc, .int ln, .int (nI n), .int (nI i), .int pl])), (qb, .inl (cB, 4096, .inl bf)), (qu, .inl (cI, 4096, .inl ug))]) s.heap.size = A at hD hZ ⊢
  have hA : ∀ q : Nat, s.heap.size ≤ q → A q := fun q h => by rw [← hAe]; exact Or.inr h
  have hS : va_S A s.heap s.heap [] := va_S.rf
  have hP : va_P (dC, dI) classes ([(qr, .inr (5, [.ref h0, .int (nI (o + 1))])), (h0, .inr (8, [.ref qb, .ref qu, .int uc, .int ln, .int (nI n), .int (nI i), .int pl])), (qb, .inl (cB, 4096, .inl bf)), (qu, .inl (cI, 4096, .inl ug))]) s.heap := hP
  have hl := lv_entry ([.ref qr, .int b9]) (n := 2) (Nat.le_of_ble_eq_true rfl)
  rw [lg_entry_eq]
  generalize (lg_sl ([.ref qr, .int b9]) ++ List.replicate (2 - (lg_sl ([.ref qr, .int b9])).length) Slot.unset).toArray = ls at hl ⊢
  have hl : lv_has ls 2 [(0, .ref qr), (1, .int b9)] := hl
  refine lv_aload_n hx hb d_QueryReader_takeClosing_0 rfl (lv_at hl 0 rfl) ?_
  refine va_get (D := (dC, dI)) (ci := 5) (v := .ref h0) (C := R_QueryReader) (T := F_QueryReader) (N := 2) hx hb hts in_QueryReader hown hK hP 0 rfl rfl 0 (by decide) (hts _ w_100) (fun _ h9 => h9) rfl d_QueryReader_takeClosing_1 ?_
  refine lv_iload_n hx hb d_QueryReader_takeClosing_4 rfl (lv_at hl 1 rfl) ?_
  have hPc := hP.sub (ws' := [(h0, .inr (8, [.ref qb, .ref qu, .int uc, .int ln, .int (nI n), .int (nI i), .int pl])), (qb, .inl (cB, 4096, .inl bf))]) [1, 2] rfl
  have hDc := hD.sub (ws' := [(h0, .inr (8, [.ref qb, .ref qu, .int uc, .int ln, .int (nI n), .int (nI i), .int pl])), (qb, .inl (cB, 4096, .inl bf))]) [1, 2] (by decide) rfl
  have hFc := va_free (wc := [(h0, .inr (8, [.ref qb, .ref qu, .int uc, .int ln, .int (nI n), .int (nI i), .int pl])), (qb, .inl (cB, 4096, .inl bf))]) hD hS hA [1, 2] rfl
  have hKc := hK.sub (tys' := [(cB, .byte)]) [0] rfl
  refine w_same (fun hq0 => ?_)
  refine vx_callv (vx_runV (As := [.int b9]) (rest := []) ⟨hx, hb, hml, hown, hts⟩ (c_Tape_take l hl9 dC dI cB h0 qb s.heap (.ref qu) uc ln pl bf n i b9 hn0 (by omega)) (cwV 1 hts (gt_V (own := R_QueryReader) (C := R_Tape) (i := 164) (y := y_Tape_take) i_Tape_take z_598 w_437 w_438 w_2) rfl rfl rfl (by decide +kernel) ⟨Nat.le_of_ble_eq_true rfl, Nat.le_of_ble_eq_true rfl⟩) ⟨mx_blind, va_recv hK hP (ci := 8) (q0 := 1) rfl rfl, fun U hU hW => ⟨rfl, ⟨hU, by rw [hU]; exact hPc, va_K.moved hW.alike hKc, hDc.weaken (fun _ _ _ _ => trivial)⟩, hN.warm hW, by rw [hU]; exact ZX.moved' hW.alike (ZX.narrow' (ZX.kept' hZ hS.2.1) hFc)⟩⟩ rfl rfl hl.1 rfl (lv_room (Nat.le_of_ble_eq_true rfl)) d_QueryReader_takeClosing_5 ⟨Nat.le_of_ble_eq_true rfl, Nat.le_of_ble_eq_true rfl⟩) hS (fun q _ h => hFc q h) hFc (fun q _ h => hFc q h) (fun En ce q9 _u t9 H1 locs ht hvm hw hB hz1 hk1 hS hce hcv hcl => ?_) (fun _u t9 H1 locs ht hvm hw hB hz1 hk1 hS => ?_)
  · obtain ⟨hEn, hP1, hK1, hD1⟩ := hB
    rw [ht] at hP1
    obtain ⟨hP, hD⟩ := va_join (wr := [(qr, .inr (5, [.ref h0, .int (nI (o + 1))])), (qu, .inl (cI, 4096, .inl ug))]) (w1 := [(h0, .inr (8, [.ref qb, .ref qu, .int uc, .int ln, .int (nI n), .int (nI i), .int (nI i)])), (qb, .inl (cB, 4096, .inl bf))]) hP hD [1, 2] [0, 3] rfl rfl (by decide) (by decide) hk1 hFc hP1 hD1
    generalize H1 = H at hP hS hce ⊢
    have hP : va_P (dC, dI) classes ([(qr, .inr (5, [.ref h0, .int (nI (o + 1))])), (qu, .inl (cI, 4096, .inl ug)), (h0, .inr (8, [.ref qb, .ref qu, .int uc, .int ln, .int (nI n), .int (nI i), .int (nI i)])), (qb, .inl (cB, 4096, .inl bf))]) H := hP
    have hD : va_D A ([(qr, .inr (5, [.ref h0, .int (nI (o + 1))])), (qu, .inl (cI, 4096, .inl ug)), (h0, .inr (8, [.ref qb, .ref qu, .int uc, .int ln, .int (nI n), .int (nI i), .int (nI i)])), (qb, .inl (cB, 4096, .inl bf))]) := hD
    have hP := hP.sub (ws' := [(qr, .inr (5, [.ref h0, .int (nI (o + 1))])), (h0, .inr (8, [.ref qb, .ref qu, .int uc, .int ln, .int (nI n), .int (nI i), .int (nI i)])), (qb, .inl (cB, 4096, .inl bf)), (qu, .inl (cI, 4096, .inl ug))]) [0, 2, 3, 1] rfl
    have hD := hD.sub (ws' := [(qr, .inr (5, [.ref h0, .int (nI (o + 1))])), (h0, .inr (8, [.ref qb, .ref qu, .int uc, .int ln, .int (nI n), .int (nI i), .int (nI i)])), (qb, .inl (cB, 4096, .inl bf)), (qu, .inl (cI, 4096, .inl ug))]) [0, 2, 3, 1] (by decide) rfl
    have hno : ¬ hereV bf n i = b9 := hw
    exact vx_out (fun x hx => (hex x hx).elim) hlocks hce hcv hcl (fun t9 ht2 ha => ⟨(nI i, uc, nI i, ug, (nI (o + 1))), hno, ⟨hEn, by rw [ht2]; exact hP, va_K.moved ha hK, hD⟩, hS.F ht2⟩) hS.2.2 (Nat.le_of_ble_eq_true rfl) (Nat.le_of_ble_eq_true rfl)
  · obtain ⟨⟨hP1, hK1, hD1⟩, hz9⟩ := hB
    rw [ht] at hP1
    rw [ht] at hz9
    refine w_tight (hq0.trans hz9) ?_
    have hq0 := hq0.trans hz9
    obtain ⟨hP, hD⟩ := va_join (wr := [(qr, .inr (5, [.ref h0, .int (nI (o + 1))])), (qu, .inl (cI, 4096, .inl ug))]) (w1 := [(h0, .inr (8, [.ref qb, .ref qu, .int uc, .int ln, .int (nI n), .int (nI (i + 1)), .int pl])), (qb, .inl (cB, 4096, .inl bf))]) hP hD [1, 2] [0, 3] rfl rfl (by decide) (by decide) hk1 hFc hP1 hD1
    generalize H1 = H at hP hS hq0 ⊢
    have hP : va_P (dC, dI) classes ([(qr, .inr (5, [.ref h0, .int (nI (o + 1))])), (qu, .inl (cI, 4096, .inl ug)), (h0, .inr (8, [.ref qb, .ref qu, .int uc, .int ln, .int (nI n), .int (nI (i + 1)), .int pl])), (qb, .inl (cB, 4096, .inl bf))]) H := hP
    have hD : va_D A ([(qr, .inr (5, [.ref h0, .int (nI (o + 1))])), (qu, .inl (cI, 4096, .inl ug)), (h0, .inr (8, [.ref qb, .ref qu, .int uc, .int ln, .int (nI n), .int (nI (i + 1)), .int pl])), (qb, .inl (cB, 4096, .inl bf))]) := hD
    have hP := hP.sub (ws' := [(qr, .inr (5, [.ref h0, .int (nI (o + 1))])), (h0, .inr (8, [.ref qb, .ref qu, .int uc, .int ln, .int (nI n), .int (nI (i + 1)), .int pl])), (qb, .inl (cB, 4096, .inl bf)), (qu, .inl (cI, 4096, .inl ug))]) [0, 2, 3, 1] rfl
    have hD := hD.sub (ws' := [(qr, .inr (5, [.ref h0, .int (nI (o + 1))])), (h0, .inr (8, [.ref qb, .ref qu, .int uc, .int ln, .int (nI n), .int (nI (i + 1)), .int pl])), (qb, .inl (cB, 4096, .inl bf)), (qu, .inl (cI, 4096, .inl ug))]) [0, 2, 3, 1] (by decide) rfl
    have ht21 : hereV bf n i = b9 := hw
    have hl21 := here_lc ht21 hbn
    refine lv_aload_n hx hb d_QueryReader_takeClosing_8 rfl (lv_at hl 0 rfl) ?_
    refine lv_dup hx hb d_QueryReader_takeClosing_9 rfl ?_
    refine va_get (D := (dC, dI)) (ci := 5) (v := .int (nI (o + 1))) (C := R_QueryReader) (T := F_QueryReader) (N := 2) hx hb hts in_QueryReader hown hK hP 0 rfl rfl 1 (by decide) (hts _ z_101) (fun _ h9 => h9) rfl d_QueryReader_takeClosing_10 ?_
    refine lv_iconst (v := 1) hx hb d_QueryReader_takeClosing_13 (by decide) ?_
    refine lv_isub hx hb d_QueryReader_takeClosing_14 ?_
    refine W.eq (g2 := F0 m 15 ls [.int (nI o), .ref qr]) (by rw [show ((nI (o + 1)) - 1) = (nI o) from nI_pred _]) ?_
    refine va_put (D := (dC, dI)) (ci := 5) (v := .int (nI o)) (ty := .int) (C := R_QueryReader) (T := F_QueryReader) (N := 2) hx hb hts in_QueryReader t_QueryReader t_QueryReader_ok n_QueryReader hown hK hP hD hS 0 rfl rfl 1 (by decide) (hts _ z_101) (fun _ h9 => h9) rfl (by decide +kernel) rfl rfl (Nat.le_of_ble_eq_true rfl) d_QueryReader_takeClosing_15 (fun H locs hP hD hS => ?_)
    have hP : va_P (dC, dI) classes ([(qr, .inr (5, [.ref h0, .int (nI o)])), (h0, .inr (8, [.ref qb, .ref qu, .int uc, .int ln, .int (nI n), .int (nI (i + 1)), .int pl])), (qb, .inl (cB, 4096, .inl bf)), (qu, .inl (cI, 4096, .inl ug))]) H := hP
    have hD : va_D A ([(qr, .inr (5, [.ref h0, .int (nI o)])), (h0, .inr (8, [.ref qb, .ref qu, .int uc, .int ln, .int (nI n), .int (nI (i + 1)), .int pl])), (qb, .inl (cB, 4096, .inl bf)), (qu, .inl (cI, 4096, .inl ug))]) := hD
    refine w_same (fun hq => ?_)
    refine W.widen (k := 1) (n := 6) (Nat.le_of_ble_eq_true rfl) (Nat.le_of_ble_eq_true rfl) ?_
    refine vx_ret ?_
    exact W.vret hx hb hr (fun t9 ht hW => ⟨⟨(), rfl, ⟨by omega, ht21⟩, ⟨by rw [ht]; exact hP, va_K.moved hW.alike hK, hD⟩, by rw [ht]; exact hq⟩, hS.F ht⟩) hS.2.2 d_QueryReader_takeClosing_18
