theorem w_35 : (.instanceMethod ⟨"java/lang/Object", "<init>", "()V"⟩ : Cond) ∈ gtbl := gt_in 35 (by decide +kernel) (by decide +kernel)
theorem w_42 : (.methodLink "QueryBench$Tape" 3 ⟨"java/lang/Object", "<init>", "()V"⟩ : Cond) ∈ gtbl := gt_in 42 (by decide +kernel) (by decide +kernel)
theorem w_72 : (.arrayClass FieldType.byte : Cond) ∈ gtbl := gt_in 72 (by decide +kernel) (by decide +kernel)
theorem w_79 : (.methodLink "QueryBench$JsonReader" 3 ⟨"java/lang/Object", "<init>", "()V"⟩ : Cond) ∈ gtbl := gt_in 79 (by decide +kernel) (by decide +kernel)
theorem w_80 : (.fieldLink "QueryBench$JsonReader" 9 "QueryBench$JsonReader" "tape" "LQueryBench$Tape;" : Cond) ∈ gtbl := gt_in 80 (by decide +kernel) (by decide +kernel)
theorem w_99 : (.methodLink "QueryBench$QueryReader" 3 ⟨"java/lang/Object", "<init>", "()V"⟩ : Cond) ∈ gtbl := gt_in 99 (by decide +kernel) (by decide +kernel)
theorem w_100 : (.fieldLink "QueryBench$QueryReader" 9 "QueryBench$QueryReader" "tape" "LQueryBench$Tape;" : Cond) ∈ gtbl := gt_in 100 (by decide +kernel) (by decide +kernel)
theorem w_112 : (.methodLink "QueryBench$Walk" 3 ⟨"java/lang/Object", "<init>", "()V"⟩ : Cond) ∈ gtbl := gt_in 112 (by decide +kernel) (by decide +kernel)
theorem w_113 : (.classLink "QueryBench$Walk" 9 "QueryBench$Value" : Cond) ∈ gtbl := gt_in 113 (by decide +kernel) (by decide +kernel)
theorem w_115 : (.fieldLink "QueryBench$Walk" 11 "QueryBench$Walk" "list" "[LQueryBench$Value;" : Cond) ∈ gtbl := gt_in 115 (by decide +kernel) (by decide +kernel)
theorem w_137 : (.methodLink "QueryBench$Printer" 3 ⟨"java/lang/Object", "<init>", "()V"⟩ : Cond) ∈ gtbl := gt_in 137 (by decide +kernel) (by decide +kernel)
theorem w_138 : (.classLink "QueryBench$Printer" 15 "QueryBench$Value" : Cond) ∈ gtbl := gt_in 138 (by decide +kernel) (by decide +kernel)
theorem w_139 : (.fieldLink "QueryBench$Printer" 9 "QueryBench$Printer" "bytes" "[B" : Cond) ∈ gtbl := gt_in 139 (by decide +kernel) (by decide +kernel)
theorem w_143 : (.fieldLink "QueryBench$Printer" 17 "QueryBench$Printer" "steps" "[LQueryBench$Value;" : Cond) ∈ gtbl := gt_in 143 (by decide +kernel) (by decide +kernel)
theorem w_obj : Cond.code Lib.objectInit ⟨#[0xb1]⟩ 1 none ∈ gtbl := gt_in 36 (by decide +kernel) (by decide +kernel)
abbrev VAO (U : State) : Prop := va_AO "QueryBench$Value" U
abbrev mo_ (dC : Nat → ClassId) (dI : Nat → Nat → Nat) (ws : va_W) (tys : List (ClassId × FieldType)) (sz : Heap) (U : State) : Prop := mp dC dI ws tys sz U ∧ VAO U
theorem mo__blind {dC : Nat → ClassId} {dI : Nat → Nat → Nat} {ws : va_W} {tys : List (ClassId × FieldType)} {sz : Heap} {vs : List Value} : FrameBlind (va_Pc vs (mo_ dC dI ws tys sz)) := fun a U g mk q => by
  obtain ⟨q0, ⟨q1, qP, qK, qD⟩, qE⟩ := q
  exact ⟨q0, ⟨q1, qP, va_K.moved (u := U) (U := U.calling g mk a) (Vm.Alike.refl U.vm) qK, qD⟩, va_AO.moved (u := U) (U := U.calling g mk a) (Vm.Alike.refl U.vm) qE⟩
abbrev b_Tape_init : ByteArray := prog_10_method_1_code
def y_Tape_init : MethodName := ⟨"QueryBench$Tape", "<init>", "()V"⟩
abbrev k_Tape_init : Cond := .code y_Tape_init b_Tape_init 1 none
theorem i_Tape_init : k_Tape_init ∈ gtbl := gt_in 41 (by decide +kernel) (by decide +kernel)
theorem d_Tape_init_0 : decode b_Tape_init 0 = .ok (.aload_n 0, 1) := by decide +kernel
theorem d_Tape_init_1 : decode b_Tape_init 1 = .ok (.invokespecial 3, 3) := by decide +kernel
theorem d_Tape_init_4 : decode b_Tape_init 4 = .ok (.aload_n 0, 1) := by decide +kernel
theorem d_Tape_init_5 : decode b_Tape_init 5 = .ok (.sipush 4096, 3) := by decide +kernel
theorem d_Tape_init_8 : decode b_Tape_init 8 = .ok (.newarray .byte, 2) := by decide +kernel
theorem d_Tape_init_10 : decode b_Tape_init 10 = .ok (.putfield 9, 3) := by decide +kernel
theorem d_Tape_init_13 : decode b_Tape_init 13 = .ok (.aload_n 0, 1) := by decide +kernel
theorem d_Tape_init_14 : decode b_Tape_init 14 = .ok (.sipush 4096, 3) := by decide +kernel
theorem d_Tape_init_17 : decode b_Tape_init 17 = .ok (.newarray .int, 2) := by decide +kernel
theorem d_Tape_init_19 : decode b_Tape_init 19 = .ok (.putfield 15, 3) := by decide +kernel
theorem d_Tape_init_22 : decode b_Tape_init 22 = .ok (.aload_n 0, 1) := by decide +kernel
theorem d_Tape_init_23 : decode b_Tape_init 23 = .ok (.iconst (-1), 1) := by decide +kernel
theorem d_Tape_init_24 : decode b_Tape_init 24 = .ok (.putfield 19, 3) := by decide +kernel
theorem d_Tape_init_27 : decode b_Tape_init 27 = .ok (.return_, 1) := by decide +kernel
set_option maxHeartbeats 4000000 in
set_option maxRecDepth 100000 in
/-- Tape() -/
theorem c_Tape_init (l : Launch) (dC : Nat → ClassId) (dI : Nat → Nat → Nat) (h0 : Nat) (sz : Heap)  : Met l y_Tape_init (k_Tape_init :: gtbl) ({ frames := 1, cells := 2, slots := 8192, locals := 16 }) (va_Pc [.ref h0] (mp dC dI [(h0, .inr (8, [.null, .null, .int 0, .int 0, .int 0, .int 0, .int 0]))] [] sz)) (va_Qv (fun (_ : Nat × Nat × ClassId × ClassId) => True) (fun (u : Nat × Nat × ClassId × ClassId) t => match u with | (qb, qu, cB, cI) => mz dC dI [(h0, .inr (8, [.ref qb, .ref qu, .int 0, .int 0, .int 0, .int 0, .int (-1)])), (qb, .inl (cB, 4096, .inl (fun _ => 0))), (qu, .inl (cI, 4096, .inl (fun _ => 0)))] [(cB, .byte), (cI, .int)] (va_A [(h0, .inr (8, [.null, .null, .int 0, .int 0, .int 0, .int 0, .int 0]))] sz.size) t ∧ szk sz t.heap 2 8192) (va_A [(h0, .inr (8, [.null, .null, .int 0, .int 0, .int 0, .int 0, .int 0]))] sz.size)) 2 8192 (va_A [(h0, .inr (8, [.null, .null, .int 0, .int 0, .int 0, .int 0, .int 0]))] sz.size) := by
  refine Met.ofW (cc := b_Tape_init) (maxL := 1) (ret := none) (by decide) rfl ?_
  intro p e s m args below meth c s₁ B hml hv
  obtain ⟨rfl, hsz, hP, hK, hD0⟩ := hv
  have hx := B.exec
  have hb := B.bytes
  have hr := B.returns
  have hts0 := atoms_spec (ws := k_Tape_init :: gtbl) B.pre
  have hts := fun w h => hts0 w (List.mem_cons_of_mem _ h)
  have hown : s.vm.findClass R_Tape = some m.cls := findClass_of_methodNamed B.named
  have hlocks := B.notSynchronized
  have hin : meth.name = "<init>" := (name_of_methodNamed B.named B.method).1
  subst hsz
  have hD := hD0.self (sz := s.heap.size)
  generalize hAe : va_A [(h0, .inr (8, [.null, .null, .int 0, .int 0, .int 0, .int 0, .int 0]))] s.heap.size = A at hD ⊢
  have hA : ∀ q : Nat, s.heap.size ≤ q → A q := fun q h => by rw [← hAe]; exact Or.inr h
  have hS : va_S A s.heap s.heap [] := va_S.rf
  have hP : va_P (dC, dI) classes [(h0, .inr (8, [.null, .null, .int 0, .int 0, .int 0, .int 0, .int 0]))] s.heap := hP
  have hl := lv_entry ([.ref h0]) (n := 1) (Nat.le_of_ble_eq_true rfl)
  rw [lg_entry_eq]
  generalize (lg_sl ([.ref h0]) ++ List.replicate (1 - (lg_sl ([.ref h0])).length) Slot.unset).toArray = ls at hl ⊢
  have hl : lv_has ls 1 [(0, .ref h0)] := hl
  refine lv_aload_n hx hb d_Tape_init_0 rfl (lv_at hl 0 rfl) ?_
  refine W.objInit hx hb hown (hts _ w_42) (hts _ w_35) (hts _ w_obj) rfl (by rw [hml]; exact hl.1) rfl d_Tape_init_1 (Nat.le_of_ble_eq_true rfl) (Nat.le_of_ble_eq_true rfl) ?_
  refine W.eq (g2 := F0 m 4 ls []) rfl ?_
  refine lv_aload_n hx hb d_Tape_init_4 rfl (lv_at hl 0 rfl) ?_
  refine lv_sipush (v := 4096) hx hb d_Tape_init_5 (by decide) ?_
  refine va_newa (atype := .byte) (ty := .byte) (N' := 4096) (a0 := (4096, .inl (fun _ => 0))) hx hb (hts _ w_72) rfl hK hP hD hS hA (fun _ => rfl) (by decide) (by decide) (by decide) (Nat.le_of_ble_eq_true rfl) (Nat.le_of_ble_eq_true rfl) d_Tape_init_8 (fun qb cB H hK hP hD hS => ?_)
  have hK : va_K (dC, dI) classes [(cB, .byte)] s := hK
  have hP : va_P (dC, dI) classes [(h0, .inr (8, [.null, .null, .int 0, .int 0, .int 0, .int 0, .int 0])), (qb, .inl (cB, 4096, .inl (fun _ => 0)))] H := hP
  have hD : va_D A [(h0, .inr (8, [.null, .null, .int 0, .int 0, .int 0, .int 0, .int 0])), (qb, .inl (cB, 4096, .inl (fun _ => 0)))] := hD
  refine va_putF (D := (dC, dI)) (ci := 8) (v := .ref qb) (ty := .array .byte) (C := R_Tape) (T := F_Tape) (N := 7) hx hb hts in_Tape t_Tape t_Tape_ok n_Tape hown hK hP hD hS 0 rfl rfl 0 (by decide) (hts _ w_43) (fun _ h9 => h9) rfl hin rfl (by decide +kernel) rfl rfl (Nat.le_of_ble_eq_true rfl) d_Tape_init_10 (fun H locs hP hD hS => ?_)
  have hP : va_P (dC, dI) classes [(h0, .inr (8, [.ref qb, .null, .int 0, .int 0, .int 0, .int 0, .int 0])), (qb, .inl (cB, 4096, .inl (fun _ => 0)))] H := hP
  have hD : va_D A [(h0, .inr (8, [.ref qb, .null, .int 0, .int 0, .int 0, .int 0, .int 0])), (qb, .inl (cB, 4096, .inl (fun _ => 0)))] := hD
  refine lv_aload_n hx hb d_Tape_init_13 rfl (lv_at hl 0 rfl) ?_
  refine lv_sipush (v := 4096) hx hb d_Tape_init_14 (by decide) ?_
  refine va_newa (atype := .int) (ty := .int) (N' := 4096) (a0 := (4096, .inl (fun _ => 0))) hx hb (hts _ w_73) rfl hK hP hD hS hA (fun _ => rfl) (by decide) (by decide) (by decide) (Nat.le_of_ble_eq_true rfl) (Nat.le_of_ble_eq_true rfl) d_Tape_init_17 (fun qu cI H hK hP hD hS => ?_)
  have hK : va_K (dC, dI) classes [(cB, .byte), (cI, .int)] s := hK
  have hP : va_P (dC, dI) classes [(h0, .inr (8, [.ref qb, .null, .int 0, .int 0, .int 0, .int 0, .int 0])), (qb, .inl (cB, 4096, .inl (fun _ => 0))), (qu, .inl (cI, 4096, .inl (fun _ => 0)))] H := hP
  have hD : va_D A [(h0, .inr (8, [.ref qb, .null, .int 0, .int 0, .int 0, .int 0, .int 0])), (qb, .inl (cB, 4096, .inl (fun _ => 0))), (qu, .inl (cI, 4096, .inl (fun _ => 0)))] := hD
  refine va_putF (D := (dC, dI)) (ci := 8) (v := .ref qu) (ty := .array .int) (C := R_Tape) (T := F_Tape) (N := 7) hx hb hts in_Tape t_Tape t_Tape_ok n_Tape hown hK hP hD hS 0 rfl rfl 1 (by decide) (hts _ w_45) (fun _ h9 => h9) rfl hin rfl (by decide +kernel) rfl rfl (Nat.le_of_ble_eq_true rfl) d_Tape_init_19 (fun H locs hP hD hS => ?_)
  have hP : va_P (dC, dI) classes [(h0, .inr (8, [.ref qb, .ref qu, .int 0, .int 0, .int 0, .int 0, .int 0])), (qb, .inl (cB, 4096, .inl (fun _ => 0))), (qu, .inl (cI, 4096, .inl (fun _ => 0)))] H := hP
  have hD : va_D A [(h0, .inr (8, [.ref qb, .ref qu, .int 0, .int 0, .int 0, .int 0, .int 0])), (qb, .inl (cB, 4096, .inl (fun _ => 0))), (qu, .inl (cI, 4096, .inl (fun _ => 0)))] := hD
  refine lv_aload_n hx hb d_Tape_init_22 rfl (lv_at hl 0 rfl) ?_
  refine lv_iconst (v := (-1)) hx hb d_Tape_init_23 (by decide) ?_
  refine va_put (D := (dC, dI)) (ci := 8) (v := .int (-1)) (ty := .int) (C := R_Tape) (T := F_Tape) (N := 7) hx hb hts in_Tape t_Tape t_Tape_ok n_Tape hown hK hP hD hS 0 rfl rfl 6 (by decide) (hts _ w_55) (fun _ h9 => h9) rfl (by decide +kernel) rfl rfl (Nat.le_of_ble_eq_true rfl) d_Tape_init_24 (fun H locs hP hD hS => ?_)
  have hP : va_P (dC, dI) classes [(h0, .inr (8, [.ref qb, .ref qu, .int 0, .int 0, .int 0, .int 0, .int (-1)])), (qb, .inl (cB, 4096, .inl (fun _ => 0))), (qu, .inl (cI, 4096, .inl (fun _ => 0)))] H := hP
  have hD : va_D A [(h0, .inr (8, [.ref qb, .ref qu, .int 0, .int 0, .int 0, .int 0, .int (-1)])), (qb, .inl (cB, 4096, .inl (fun _ => 0))), (qu, .inl (cI, 4096, .inl (fun _ => 0)))] := hD
  refine w_same (fun hq => ?_)
  exact W.vret hx hb hr (fun t ht hW => ⟨⟨(qb, qu, cB, cI), rfl, trivial, ⟨by rw [ht]; exact hP, va_K.moved hW.alike hK, hD⟩, by rw [ht]; exact hq⟩, hS.F ht⟩) hS.2.2 d_Tape_init_27
abbrev b_JsonReader_init : ByteArray := prog_3_method_1_code
def y_JsonReader_init : MethodName := ⟨"QueryBench$JsonReader", "<init>", "(LQueryBench$Tape;)V"⟩
abbrev k_JsonReader_init : Cond := .code y_JsonReader_init b_JsonReader_init 2 none
theorem i_JsonReader_init : k_JsonReader_init ∈ gtbl := gt_in 78 (by decide +kernel) (by decide +kernel)
theorem d_JsonReader_init_0 : decode b_JsonReader_init 0 = .ok (.aload_n 0, 1) := by decide +kernel
theorem d_JsonReader_init_1 : decode b_JsonReader_init 1 = .ok (.invokespecial 3, 3) := by decide +kernel
theorem d_JsonReader_init_4 : decode b_JsonReader_init 4 = .ok (.aload_n 0, 1) := by decide +kernel
theorem d_JsonReader_init_5 : decode b_JsonReader_init 5 = .ok (.aload_n 1, 1) := by decide +kernel
theorem d_JsonReader_init_6 : decode b_JsonReader_init 6 = .ok (.putfield 9, 3) := by decide +kernel
theorem d_JsonReader_init_9 : decode b_JsonReader_init 9 = .ok (.return_, 1) := by decide +kernel
set_option maxHeartbeats 4000000 in
set_option maxRecDepth 100000 in
/-- JsonReader() -/
theorem c_JsonReader_init (l : Launch) (dC : Nat → ClassId) (dI : Nat → Nat → Nat) (jr : Nat) (sz : Heap) (h0 : Nat) : Met l y_JsonReader_init (k_JsonReader_init :: gtbl) ({ frames := 1, cells := 0, slots := 0, locals := 16 }) (va_Pc [.ref jr, .ref h0] (mp dC dI [(jr, .inr (1, [.null, .int 0, .int 0, .null]))] [] sz)) (va_Qv (fun (_ : Unit) => True) (fun (u : Unit) t => match u with | _ => mz dC dI [(jr, .inr (1, [.ref h0, .int 0, .int 0, .null]))] [] (va_A [(jr, .inr (1, [.null, .int 0, .int 0, .null]))] sz.size) t ∧ szk sz t.heap 0 0) (va_A [(jr, .inr (1, [.null, .int 0, .int 0, .null]))] sz.size)) 0 0 (va_A [(jr, .inr (1, [.null, .int 0, .int 0, .null]))] sz.size) := by
  refine Met.ofW (cc := b_JsonReader_init) (maxL := 2) (ret := none) (by decide) rfl ?_
  intro p e s m args below meth c s₁ B hml hv
  obtain ⟨rfl, hsz, hP, hK, hD0⟩ := hv
  have hx := B.exec
  have hb := B.bytes
  have hr := B.returns
  have hts0 := atoms_spec (ws := k_JsonReader_init :: gtbl) B.pre
  have hts := fun w h => hts0 w (List.mem_cons_of_mem _ h)
  have hown : s.vm.findClass R_JsonReader = some m.cls := findClass_of_methodNamed B.named
  have hlocks := B.notSynchronized
  have hin : meth.name = "<init>" := (name_of_methodNamed B.named B.method).1
  subst hsz
  have hD := hD0.self (sz := s.heap.size)
  generalize hAe : va_A [(jr, .inr (1, [.null, .int 0, .int 0, .null]))] s.heap.size = A at hD ⊢
  have hA : ∀ q : Nat, s.heap.size ≤ q → A q := fun q h => by rw [← hAe]; exact Or.inr h
  have hS : va_S A s.heap s.heap [] := va_S.rf
  have hP : va_P (dC, dI) classes [(jr, .inr (1, [.null, .int 0, .int 0, .null]))] s.heap := hP
  have hl := lv_entry ([.ref jr, .ref h0]) (n := 2) (Nat.le_of_ble_eq_true rfl)
  rw [lg_entry_eq]
  generalize (lg_sl ([.ref jr, .ref h0]) ++ List.replicate (2 - (lg_sl ([.ref jr, .ref h0])).length) Slot.unset).toArray = ls at hl ⊢
  have hl : lv_has ls 2 [(0, .ref jr), (1, .ref h0)] := hl
  refine lv_aload_n hx hb d_JsonReader_init_0 rfl (lv_at hl 0 rfl) ?_
  refine W.objInit hx hb hown (hts _ w_79) (hts _ w_35) (hts _ w_obj) rfl (by rw [hml]; exact hl.1) rfl d_JsonReader_init_1 (Nat.le_of_ble_eq_true rfl) (Nat.le_of_ble_eq_true rfl) ?_
  refine W.eq (g2 := F0 m 4 ls []) rfl ?_
  refine lv_aload_n hx hb d_JsonReader_init_4 rfl (lv_at hl 0 rfl) ?_
  refine lv_aload_n hx hb d_JsonReader_init_5 rfl (lv_at hl 1 rfl) ?_
  refine va_putF (D := (dC, dI)) (ci := 1) (v := .ref h0) (ty := .object "QueryBench$Tape") (C := R_JsonReader) (T := F_JsonReader) (N := 4) hx hb hts in_JsonReader t_JsonReader t_JsonReader_ok n_JsonReader hown hK hP hD hS 0 rfl rfl 0 (by decide) (hts _ w_80) (fun _ h9 => h9) rfl hin rfl (by decide +kernel) rfl rfl (Nat.le_of_ble_eq_true rfl) d_JsonReader_init_6 (fun H locs hP hD hS => ?_)
  have hP : va_P (dC, dI) classes [(jr, .inr (1, [.ref h0, .int 0, .int 0, .null]))] H := hP
  have hD : va_D A [(jr, .inr (1, [.ref h0, .int 0, .int 0, .null]))] := hD
  refine w_same (fun hq => ?_)
  exact W.vret hx hb hr (fun t ht hW => ⟨⟨(), rfl, trivial, ⟨by rw [ht]; exact hP, va_K.moved hW.alike hK, hD⟩, by rw [ht]; exact hq⟩, hS.F ht⟩) hS.2.2 d_JsonReader_init_9
abbrev b_QueryReader_init : ByteArray := prog_7_method_1_code
def y_QueryReader_init : MethodName := ⟨"QueryBench$QueryReader", "<init>", "(LQueryBench$Tape;)V"⟩
abbrev k_QueryReader_init : Cond := .code y_QueryReader_init b_QueryReader_init 2 none
theorem i_QueryReader_init : k_QueryReader_init ∈ gtbl := gt_in 98 (by decide +kernel) (by decide +kernel)
theorem d_QueryReader_init_0 : decode b_QueryReader_init 0 = .ok (.aload_n 0, 1) := by decide +kernel
theorem d_QueryReader_init_1 : decode b_QueryReader_init 1 = .ok (.invokespecial 3, 3) := by decide +kernel
theorem d_QueryReader_init_4 : decode b_QueryReader_init 4 = .ok (.aload_n 0, 1) := by decide +kernel
theorem d_QueryReader_init_5 : decode b_QueryReader_init 5 = .ok (.aload_n 1, 1) := by decide +kernel
theorem d_QueryReader_init_6 : decode b_QueryReader_init 6 = .ok (.putfield 9, 3) := by decide +kernel
theorem d_QueryReader_init_9 : decode b_QueryReader_init 9 = .ok (.return_, 1) := by decide +kernel
set_option maxHeartbeats 4000000 in
set_option maxRecDepth 100000 in
/-- QueryReader() -/
theorem c_QueryReader_init (l : Launch) (dC : Nat → ClassId) (dI : Nat → Nat → Nat) (qr : Nat) (sz : Heap) (h0 : Nat) : Met l y_QueryReader_init (k_QueryReader_init :: gtbl) ({ frames := 1, cells := 0, slots := 0, locals := 16 }) (va_Pc [.ref qr, .ref h0] (mp dC dI [(qr, .inr (5, [.null, .int 0]))] [] sz)) (va_Qv (fun (_ : Unit) => True) (fun (u : Unit) t => match u with | _ => mz dC dI [(qr, .inr (5, [.ref h0, .int 0]))] [] (va_A [(qr, .inr (5, [.null, .int 0]))] sz.size) t ∧ szk sz t.heap 0 0) (va_A [(qr, .inr (5, [.null, .int 0]))] sz.size)) 0 0 (va_A [(qr, .inr (5, [.null, .int 0]))] sz.size) := by
  refine Met.ofW (cc := b_QueryReader_init) (maxL := 2) (ret := none) (by decide) rfl ?_
  intro p e s m args below meth c s₁ B hml hv
  obtain ⟨rfl, hsz, hP, hK, hD0⟩ := hv
  have hx := B.exec
  have hb := B.bytes
  have hr := B.returns
  have hts0 := atoms_spec (ws := k_QueryReader_init :: gtbl) B.pre
  have hts := fun w h => hts0 w (List.mem_cons_of_mem _ h)
  have hown : s.vm.findClass R_QueryReader = some m.cls := findClass_of_methodNamed B.named
  have hlocks := B.notSynchronized
  have hin : meth.name = "<init>" := (name_of_methodNamed B.named B.method).1
  subst hsz
  have hD := hD0.self (sz := s.heap.size)
  generalize hAe : va_A [(qr, .inr (5, [.null, .int 0]))] s.heap.size = A at hD ⊢
  have hA : ∀ q : Nat, s.heap.size ≤ q → A q := fun q h => by rw [← hAe]; exact Or.inr h
  have hS : va_S A s.heap s.heap [] := va_S.rf
  have hP : va_P (dC, dI) classes [(qr, .inr (5, [.null, .int 0]))] s.heap := hP
  have hl := lv_entry ([.ref qr, .ref h0]) (n := 2) (Nat.le_of_ble_eq_true rfl)
  rw [lg_entry_eq]
  generalize (lg_sl ([.ref qr, .ref h0]) ++ List.replicate (2 - (lg_sl ([.ref qr, .ref h0])).length) Slot.unset).toArray = ls at hl ⊢
  have hl : lv_has ls 2 [(0, .ref qr), (1, .ref h0)] := hl
  refine lv_aload_n hx hb d_QueryReader_init_0 rfl (lv_at hl 0 rfl) ?_
  refine W.objInit hx hb hown (hts _ w_99) (hts _ w_35) (hts _ w_obj) rfl (by rw [hml]; exact hl.1) rfl d_QueryReader_init_1 (Nat.le_of_ble_eq_true rfl) (Nat.le_of_ble_eq_true rfl) ?_
  refine W.eq (g2 := F0 m 4 ls []) rfl ?_
  refine lv_aload_n hx hb d_QueryReader_init_4 rfl (lv_at hl 0 rfl) ?_
  refine lv_aload_n hx hb d_QueryReader_init_5 rfl (lv_at hl 1 rfl) ?_
  refine va_putF (D := (dC, dI)) (ci := 5) (v := .ref h0) (ty := .object "QueryBench$Tape") (C := R_QueryReader) (T := F_QueryReader) (N := 2) hx hb hts in_QueryReader t_QueryReader t_QueryReader_ok n_QueryReader hown hK hP hD hS 0 rfl rfl 0 (by decide) (hts _ w_100) (fun _ h9 => h9) rfl hin rfl (by decide +kernel) rfl rfl (Nat.le_of_ble_eq_true rfl) d_QueryReader_init_6 (fun H locs hP hD hS => ?_)
  have hP : va_P (dC, dI) classes [(qr, .inr (5, [.ref h0, .int 0]))] H := hP
  have hD : va_D A [(qr, .inr (5, [.ref h0, .int 0]))] := hD
  refine w_same (fun hq => ?_)
  exact W.vret hx hb hr (fun t ht hW => ⟨⟨(), rfl, trivial, ⟨by rw [ht]; exact hP, va_K.moved hW.alike hK, hD⟩, by rw [ht]; exact hq⟩, hS.F ht⟩) hS.2.2 d_QueryReader_init_9
abbrev b_Walk_init : ByteArray := prog_12_method_1_code
def y_Walk_init : MethodName := ⟨"QueryBench$Walk", "<init>", "()V"⟩
abbrev k_Walk_init : Cond := .code y_Walk_init b_Walk_init 1 none
theorem i_Walk_init : k_Walk_init ∈ gtbl := gt_in 111 (by decide +kernel) (by decide +kernel)
theorem d_Walk_init_0 : decode b_Walk_init 0 = .ok (.aload_n 0, 1) := by decide +kernel
theorem d_Walk_init_1 : decode b_Walk_init 1 = .ok (.invokespecial 3, 3) := by decide +kernel
theorem d_Walk_init_4 : decode b_Walk_init 4 = .ok (.aload_n 0, 1) := by decide +kernel
theorem d_Walk_init_5 : decode b_Walk_init 5 = .ok (.sipush 10000, 3) := by decide +kernel
theorem d_Walk_init_8 : decode b_Walk_init 8 = .ok (.anewarray 9, 3) := by decide +kernel
theorem d_Walk_init_11 : decode b_Walk_init 11 = .ok (.putfield 11, 3) := by decide +kernel
theorem d_Walk_init_14 : decode b_Walk_init 14 = .ok (.return_, 1) := by decide +kernel
set_option maxHeartbeats 4000000 in
set_option maxRecDepth 100000 in
/-- Walk() -/
theorem c_Walk_init (l : Launch) (dC : Nat → ClassId) (dI : Nat → Nat → Nat) (wk : Nat) (sz : Heap)  : Met l y_Walk_init (k_Walk_init :: gtbl) ({ frames := 1, cells := 1, slots := 10000, locals := 16 }) (va_Pc [.ref wk] (mo_ dC dI [(wk, .inr (10, [.null, .int 0, .int 0, .null]))] [] sz)) (va_Qv (fun (_ : Nat × ClassId) => True) (fun (u : Nat × ClassId) t => match u with | (wl, cV) => mz dC dI [(wk, .inr (10, [.ref wl, .int 0, .int 0, .null])), (wl, .inl (cV, 10000, .inr (.inr (.inr (.inr (fun _ => none))))))] [(cV, .object "QueryBench$Value")] (va_A [(wk, .inr (10, [.null, .int 0, .int 0, .null]))] sz.size) t ∧ szk sz t.heap 1 10000) (va_A [(wk, .inr (10, [.null, .int 0, .int 0, .null]))] sz.size)) 1 10000 (va_A [(wk, .inr (10, [.null, .int 0, .int 0, .null]))] sz.size) := by
  refine Met.ofW (cc := b_Walk_init) (maxL := 1) (ret := none) (by decide) rfl ?_
  intro p e s m args below meth c s₁ B hml hv
  obtain ⟨rfl, ⟨hsz, hP, hK, hD0⟩, hO⟩ := hv
  have hx := B.exec
  have hb := B.bytes
  have hr := B.returns
  have hts0 := atoms_spec (ws := k_Walk_init :: gtbl) B.pre
  have hts := fun w h => hts0 w (List.mem_cons_of_mem _ h)
  have hown : s.vm.findClass R_Walk = some m.cls := findClass_of_methodNamed B.named
  have hlocks := B.notSynchronized
  subst hsz
  have hD := hD0.self (sz := s.heap.size)
  generalize hAe : va_A [(wk, .inr (10, [.null, .int 0, .int 0, .null]))] s.heap.size = A at hD  ⊢
  have hA : ∀ q : Nat, s.heap.size ≤ q → A q := fun q h => by rw [← hAe]; exact Or.inr h
  have hS : va_S A s.heap s.heap [] := va_S.rf
  have hP : va_P (dC, dI) classes [(wk, .inr (10, [.null, .int 0, .int 0, .null]))] s.heap := hP
  have hl := lv_entry ([.ref wk]) (n := 1) (Nat.le_of_ble_eq_true rfl)
  rw [lg_entry_eq]
  generalize (lg_sl ([.ref wk]) ++ List.replicate (1 - (lg_sl ([.ref wk])).length) Slot.unset).toArray = ls at hl ⊢
  have hl : lv_has ls 1 [(0, .ref wk)] := hl
  have hin : meth.name = "<init>" := (name_of_methodNamed B.named B.method).1
  refine lv_aload_n hx hb d_Walk_init_0 rfl (lv_at hl 0 rfl) ?_
  refine W.objInit hx hb hown (hts _ w_112) (hts _ w_35) (hts _ w_obj) rfl (by rw [hml]; exact hl.1) rfl d_Walk_init_1 (Nat.le_of_ble_eq_true rfl) (Nat.le_of_ble_eq_true rfl) ?_
  refine W.eq (g2 := F0 m 4 ls []) rfl ?_
  refine lv_aload_n hx hb d_Walk_init_4 rfl (lv_at hl 0 rfl) ?_
  refine lv_sipush (v := 10000) hx hb d_Walk_init_5 (by decide) ?_
  refine va_newq (N' := 10000) hx hb hown (hts _ w_113) hO hK hP hD hS hA (by decide) (by decide) (by decide) (Nat.le_of_ble_eq_true rfl) (Nat.le_of_ble_eq_true rfl) d_Walk_init_8 (fun wl cV H hK hP hD hS => ?_)
  have hK : va_K (dC, dI) classes [(cV, .object "QueryBench$Value")] s := hK
  have hP : va_P (dC, dI) classes [(wk, .inr (10, [.null, .int 0, .int 0, .null])), (wl, .inl (cV, 10000, .inr (.inr (.inr (.inr (fun _ => none))))))] H := hP
  have hD : va_D A [(wk, .inr (10, [.null, .int 0, .int 0, .null])), (wl, .inl (cV, 10000, .inr (.inr (.inr (.inr (fun _ => none))))))] := hD
  refine va_putF (D := (dC, dI)) (ci := 10) (v := .ref wl) (ty := .array (.object "QueryBench$Value")) (C := R_Walk) (T := F_Walk) (N := 4) hx hb hts in_Walk t_Walk t_Walk_ok n_Walk hown hK hP hD hS 0 rfl rfl 0 (by decide) (hts _ w_115) (fun _ h9 => h9) rfl hin rfl (by decide +kernel) rfl rfl (Nat.le_of_ble_eq_true rfl) d_Walk_init_11 (fun H locs hP hD hS => ?_)
  have hP : va_P (dC, dI) classes [(wk, .inr (10, [.ref wl, .int 0, .int 0, .null])), (wl, .inl (cV, 10000, .inr (.inr (.inr (.inr (fun _ => none))))))] H := hP
  have hD : va_D A [(wk, .inr (10, [.ref wl, .int 0, .int 0, .null])), (wl, .inl (cV, 10000, .inr (.inr (.inr (.inr (fun _ => none))))))] := hD
  refine w_same (fun hq => ?_)
  exact W.vret hx hb hr (fun t ht hW => ⟨⟨(wl, cV), rfl, trivial, ⟨by rw [ht]; exact hP, va_K.moved hW.alike hK, hD⟩, by rw [ht]; exact hq⟩, hS.F ht⟩) hS.2.2 d_Walk_init_14
abbrev b_Printer_init : ByteArray := prog_5_method_1_code
def y_Printer_init : MethodName := ⟨"QueryBench$Printer", "<init>", "()V"⟩
abbrev k_Printer_init : Cond := .code y_Printer_init b_Printer_init 1 none
theorem i_Printer_init : k_Printer_init ∈ gtbl := gt_in 136 (by decide +kernel) (by decide +kernel)
theorem d_Printer_init_0 : decode b_Printer_init 0 = .ok (.aload_n 0, 1) := by decide +kernel
theorem d_Printer_init_1 : decode b_Printer_init 1 = .ok (.invokespecial 3, 3) := by decide +kernel
theorem d_Printer_init_4 : decode b_Printer_init 4 = .ok (.aload_n 0, 1) := by decide +kernel
theorem d_Printer_init_5 : decode b_Printer_init 5 = .ok (.sipush 16384, 3) := by decide +kernel
theorem d_Printer_init_8 : decode b_Printer_init 8 = .ok (.newarray .byte, 2) := by decide +kernel
theorem d_Printer_init_10 : decode b_Printer_init 10 = .ok (.putfield 9, 3) := by decide +kernel
theorem d_Printer_init_13 : decode b_Printer_init 13 = .ok (.aload_n 0, 1) := by decide +kernel
theorem d_Printer_init_14 : decode b_Printer_init 14 = .ok (.bipush 32, 2) := by decide +kernel
theorem d_Printer_init_16 : decode b_Printer_init 16 = .ok (.anewarray 15, 3) := by decide +kernel
theorem d_Printer_init_19 : decode b_Printer_init 19 = .ok (.putfield 17, 3) := by decide +kernel
theorem d_Printer_init_22 : decode b_Printer_init 22 = .ok (.return_, 1) := by decide +kernel
set_option maxHeartbeats 4000000 in
set_option maxRecDepth 100000 in
/-- Printer() -/
theorem c_Printer_init (l : Launch) (dC : Nat → ClassId) (dI : Nat → Nat → Nat) (pr : Nat) (sz : Heap)  : Met l y_Printer_init (k_Printer_init :: gtbl) ({ frames := 1, cells := 2, slots := 16416, locals := 16 }) (va_Pc [.ref pr] (mo_ dC dI [(pr, .inr (3, [.null, .int 0, .null]))] [] sz)) (va_Qv (fun (_ : Nat × Nat × ClassId × ClassId) => True) (fun (u : Nat × Nat × ClassId × ClassId) t => match u with | (pb, ps, cB, cV) => mz dC dI [(pr, .inr (3, [.ref pb, .int 0, .ref ps])), (pb, .inl (cB, 16384, .inl (fun _ => 0))), (ps, .inl (cV, 32, .inr (.inr (.inr (.inr (fun _ => none))))))] [(cB, .byte), (cV, .object "QueryBench$Value")] (va_A [(pr, .inr (3, [.null, .int 0, .null]))] sz.size) t ∧ szk sz t.heap 2 16416) (va_A [(pr, .inr (3, [.null, .int 0, .null]))] sz.size)) 2 16416 (va_A [(pr, .inr (3, [.null, .int 0, .null]))] sz.size) := by
  refine Met.ofW (cc := b_Printer_init) (maxL := 1) (ret := none) (by decide) rfl ?_
  intro p e s m args below meth c s₁ B hml hv
  obtain ⟨rfl, ⟨hsz, hP, hK, hD0⟩, hO⟩ := hv
  have hx := B.exec
  have hb := B.bytes
  have hr := B.returns
  have hts0 := atoms_spec (ws := k_Printer_init :: gtbl) B.pre
  have hts := fun w h => hts0 w (List.mem_cons_of_mem _ h)
  have hown : s.vm.findClass R_Printer = some m.cls := findClass_of_methodNamed B.named
  have hlocks := B.notSynchronized
  subst hsz
  have hD := hD0.self (sz := s.heap.size)
  generalize hAe : va_A [(pr, .inr (3, [.null, .int 0, .null]))] s.heap.size = A at hD  ⊢
  have hA : ∀ q : Nat, s.heap.size ≤ q → A q := fun q h => by rw [← hAe]; exact Or.inr h
  have hS : va_S A s.heap s.heap [] := va_S.rf
  have hP : va_P (dC, dI) classes [(pr, .inr (3, [.null, .int 0, .null]))] s.heap := hP
  have hl := lv_entry ([.ref pr]) (n := 1) (Nat.le_of_ble_eq_true rfl)
  rw [lg_entry_eq]
  generalize (lg_sl ([.ref pr]) ++ List.replicate (1 - (lg_sl ([.ref pr])).length) Slot.unset).toArray = ls at hl ⊢
  have hl : lv_has ls 1 [(0, .ref pr)] := hl
  have hin : meth.name = "<init>" := (name_of_methodNamed B.named B.method).1
  refine lv_aload_n hx hb d_Printer_init_0 rfl (lv_at hl 0 rfl) ?_
  refine W.objInit hx hb hown (hts _ w_137) (hts _ w_35) (hts _ w_obj) rfl (by rw [hml]; exact hl.1) rfl d_Printer_init_1 (Nat.le_of_ble_eq_true rfl) (Nat.le_of_ble_eq_true rfl) ?_
  refine W.eq (g2 := F0 m 4 ls []) rfl ?_
  refine lv_aload_n hx hb d_Printer_init_4 rfl (lv_at hl 0 rfl) ?_
  refine lv_sipush (v := 16384) hx hb d_Printer_init_5 (by decide) ?_
  refine va_newa (atype := .byte) (ty := .byte) (N' := 16384) (a0 := (16384, .inl (fun _ => 0))) hx hb (hts _ w_72) rfl hK hP hD hS hA (fun _ => rfl) (by decide) (by decide) (by decide) (Nat.le_of_ble_eq_true rfl) (Nat.le_of_ble_eq_true rfl) d_Printer_init_8 (fun pb cB H hK hP hD hS => ?_)
  have hK : va_K (dC, dI) classes [(cB, .byte)] s := hK
  have hP : va_P (dC, dI) classes [(pr, .inr (3, [.null, .int 0, .null])), (pb, .inl (cB, 16384, .inl (fun _ => 0)))] H := hP
  have hD : va_D A [(pr, .inr (3, [.null, .int 0, .null])), (pb, .inl (cB, 16384, .inl (fun _ => 0)))] := hD
  refine va_putF (D := (dC, dI)) (ci := 3) (v := .ref pb) (ty := .array .byte) (C := R_Printer) (T := F_Printer) (N := 3) hx hb hts in_Printer t_Printer t_Printer_ok n_Printer hown hK hP hD hS 0 rfl rfl 0 (by decide) (hts _ w_139) (fun _ h9 => h9) rfl hin rfl (by decide +kernel) rfl rfl (Nat.le_of_ble_eq_true rfl) d_Printer_init_10 (fun H locs hP hD hS => ?_)
  have hP : va_P (dC, dI) classes [(pr, .inr (3, [.ref pb, .int 0, .null])), (pb, .inl (cB, 16384, .inl (fun _ => 0)))] H := hP
  have hD : va_D A [(pr, .inr (3, [.ref pb, .int 0, .null])), (pb, .inl (cB, 16384, .inl (fun _ => 0)))] := hD
  refine lv_aload_n hx hb d_Printer_init_13 rfl (lv_at hl 0 rfl) ?_
  refine lv_bipush (v := 32) hx hb d_Printer_init_14 (by decide) ?_
  refine va_newq (N' := 32) hx hb hown (hts _ w_138) hO hK hP hD hS hA (by decide) (by decide) (by decide) (Nat.le_of_ble_eq_true rfl) (Nat.le_of_ble_eq_true rfl) d_Printer_init_16 (fun ps cV H hK hP hD hS => ?_)
  have hK : va_K (dC, dI) classes [(cB, .byte), (cV, .object "QueryBench$Value")] s := hK
  have hP : va_P (dC, dI) classes [(pr, .inr (3, [.ref pb, .int 0, .null])), (pb, .inl (cB, 16384, .inl (fun _ => 0))), (ps, .inl (cV, 32, .inr (.inr (.inr (.inr (fun _ => none))))))] H := hP
  have hD : va_D A [(pr, .inr (3, [.ref pb, .int 0, .null])), (pb, .inl (cB, 16384, .inl (fun _ => 0))), (ps, .inl (cV, 32, .inr (.inr (.inr (.inr (fun _ => none))))))] := hD
  refine va_putF (D := (dC, dI)) (ci := 3) (v := .ref ps) (ty := .array (.object "QueryBench$Value")) (C := R_Printer) (T := F_Printer) (N := 3) hx hb hts in_Printer t_Printer t_Printer_ok n_Printer hown hK hP hD hS 0 rfl rfl 2 (by decide) (hts _ w_143) (fun _ h9 => h9) rfl hin rfl (by decide +kernel) rfl rfl (Nat.le_of_ble_eq_true rfl) d_Printer_init_19 (fun H locs hP hD hS => ?_)
  have hP : va_P (dC, dI) classes [(pr, .inr (3, [.ref pb, .int 0, .ref ps])), (pb, .inl (cB, 16384, .inl (fun _ => 0))), (ps, .inl (cV, 32, .inr (.inr (.inr (.inr (fun _ => none))))))] H := hP
  have hD : va_D A [(pr, .inr (3, [.ref pb, .int 0, .ref ps])), (pb, .inl (cB, 16384, .inl (fun _ => 0))), (ps, .inl (cV, 32, .inr (.inr (.inr (.inr (fun _ => none))))))] := hD
  refine w_same (fun hq => ?_)
  exact W.vret hx hb hr (fun t ht hW => ⟨⟨(pb, ps, cB, cV), rfl, trivial, ⟨by rw [ht]; exact hP, va_K.moved hW.alike hK, hD⟩, by rw [ht]; exact hq⟩, hS.F ht⟩) hS.2.2 d_Printer_init_22
