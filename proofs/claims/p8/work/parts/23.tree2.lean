theorem w_1050 : (.fieldLink "QueryBenchModel$Tree" 37 "QueryBenchModel$Tree" "parents" "[I" : Cond) ∈ gtbl := gt_in 1050 (by decide +kernel) (by decide +kernel)
theorem w_1055 : (.fieldLink "QueryBenchModel$Tree" 43 "QueryBenchModel$Tree" "units" "[C" : Cond) ∈ gtbl := gt_in 1055 (by decide +kernel) (by decide +kernel)
theorem w_1088 : (.arrayClass FieldType.char : Cond) ∈ gtbl := gt_in 1088 (by decide +kernel) (by decide +kernel)
/-- a char array's places hold chars -/
def chOK (g : Nat → Int32) : Prop := ∀ j, vp_nar .char (g j) = g j
theorem chOK_upd {g : Nat → Int32} {k : Nat} {x : Int32} (h : chOK g) (hx : vp_nar .char x = x) : chOK (upd g k x) := fun j => by
  by_cases e : j = k
  · subst e; rw [pk_us]; exact hx
  · rw [pk_un e]; exact h j
theorem chOK_cp {g : Nat → Int32} (k : Nat) (h : chOK g) : chOK (cpL g k) := fun j => by
  unfold cpL
  by_cases e : j < k
  · rw [if_pos e]; exact h j
  · rw [if_neg e]; rfl
/-- what a growing row of chars is behind one more -/
def grU (g : Nat → Int32) (U k : Nat) (x : Int32) : Nat → Int32 := upd (if k = U then cpL g k else g) k (x.toUInt32 % 65536).toInt32
def grN (U k : Nat) : Nat := if k = U then 2 * k else U
def grC (U k : Nat) : Nat := if k = U then 1 else 0
def grS (U k : Nat) : Nat := if k = U then 2 * k else 0
abbrev b_Tree_insert : ByteArray := prog_15_method_7_code
def y_Tree_insert : MethodName := ⟨"QueryBenchModel$Tree", "insert", "(III)V"⟩
abbrev k_Tree_insert : Cond := .code y_Tree_insert b_Tree_insert 4 none
theorem i_Tree_insert : k_Tree_insert ∈ gtbl := gt_in 1361 (by decide +kernel) (by decide +kernel)
theorem d_Tree_insert_0 : decode b_Tree_insert 0 = .ok (.aload_n 0, 1) := by decide +kernel
theorem d_Tree_insert_1 : decode b_Tree_insert 1 = .ok (.getfield 37, 3) := by decide +kernel
theorem d_Tree_insert_4 : decode b_Tree_insert 4 = .ok (.iload_n 3, 1) := by decide +kernel
theorem d_Tree_insert_5 : decode b_Tree_insert 5 = .ok (.iload_n 1, 1) := by decide +kernel
theorem d_Tree_insert_6 : decode b_Tree_insert 6 = .ok (.iastore, 1) := by decide +kernel
theorem d_Tree_insert_7 : decode b_Tree_insert 7 = .ok (.iload_n 2, 1) := by decide +kernel
theorem d_Tree_insert_8 : decode b_Tree_insert 8 = .ok (.ifCond .ge 25, 3) := by decide +kernel
theorem d_Tree_insert_11 : decode b_Tree_insert 11 = .ok (.aload_n 0, 1) := by decide +kernel
theorem d_Tree_insert_12 : decode b_Tree_insert 12 = .ok (.getfield 28, 3) := by decide +kernel
theorem d_Tree_insert_15 : decode b_Tree_insert 15 = .ok (.iload_n 3, 1) := by decide +kernel
theorem d_Tree_insert_16 : decode b_Tree_insert 16 = .ok (.aload_n 0, 1) := by decide +kernel
theorem d_Tree_insert_17 : decode b_Tree_insert 17 = .ok (.getfield 25, 3) := by decide +kernel
theorem d_Tree_insert_20 : decode b_Tree_insert 20 = .ok (.iload_n 1, 1) := by decide +kernel
theorem d_Tree_insert_21 : decode b_Tree_insert 21 = .ok (.iaload, 1) := by decide +kernel
theorem d_Tree_insert_22 : decode b_Tree_insert 22 = .ok (.iastore, 1) := by decide +kernel
theorem d_Tree_insert_23 : decode b_Tree_insert 23 = .ok (.aload_n 0, 1) := by decide +kernel
theorem d_Tree_insert_24 : decode b_Tree_insert 24 = .ok (.getfield 25, 3) := by decide +kernel
theorem d_Tree_insert_27 : decode b_Tree_insert 27 = .ok (.iload_n 1, 1) := by decide +kernel
theorem d_Tree_insert_28 : decode b_Tree_insert 28 = .ok (.iload_n 3, 1) := by decide +kernel
theorem d_Tree_insert_29 : decode b_Tree_insert 29 = .ok (.iastore, 1) := by decide +kernel
theorem d_Tree_insert_30 : decode b_Tree_insert 30 = .ok (.goto 22, 3) := by decide +kernel
theorem d_Tree_insert_33 : decode b_Tree_insert 33 = .ok (.aload_n 0, 1) := by decide +kernel
theorem d_Tree_insert_34 : decode b_Tree_insert 34 = .ok (.getfield 28, 3) := by decide +kernel
theorem d_Tree_insert_37 : decode b_Tree_insert 37 = .ok (.iload_n 3, 1) := by decide +kernel
theorem d_Tree_insert_38 : decode b_Tree_insert 38 = .ok (.aload_n 0, 1) := by decide +kernel
theorem d_Tree_insert_39 : decode b_Tree_insert 39 = .ok (.getfield 28, 3) := by decide +kernel
theorem d_Tree_insert_42 : decode b_Tree_insert 42 = .ok (.iload_n 2, 1) := by decide +kernel
theorem d_Tree_insert_43 : decode b_Tree_insert 43 = .ok (.iaload, 1) := by decide +kernel
theorem d_Tree_insert_44 : decode b_Tree_insert 44 = .ok (.iastore, 1) := by decide +kernel
theorem d_Tree_insert_45 : decode b_Tree_insert 45 = .ok (.aload_n 0, 1) := by decide +kernel
theorem d_Tree_insert_46 : decode b_Tree_insert 46 = .ok (.getfield 28, 3) := by decide +kernel
theorem d_Tree_insert_49 : decode b_Tree_insert 49 = .ok (.iload_n 2, 1) := by decide +kernel
theorem d_Tree_insert_50 : decode b_Tree_insert 50 = .ok (.iload_n 3, 1) := by decide +kernel
theorem d_Tree_insert_51 : decode b_Tree_insert 51 = .ok (.iastore, 1) := by decide +kernel
theorem d_Tree_insert_52 : decode b_Tree_insert 52 = .ok (.return_, 1) := by decide +kernel
set_option maxHeartbeats 4000000 in
set_option maxRecDepth 100000 in
/-- Tree.insert -/
theorem c_Tree_insertF (l : Launch) (dC : Nat → ClassId) (dI : Nat → Nat → Nat) (t : Nat) (sz : Heap) (w : Nat → Value) (cI : ClassId) (a4 a5 a8 N nd kid : Nat) (kd nx pr : Nat → Int32) (hnd : nd < N) (hkid : kid < N) (hN : N ≤ 10000000) (h4 : w 4 = .ref a4) (h5 : w 5 = .ref a5) (h8 : w 8 = .ref a8) : Met l y_Tree_insert (k_Tree_insert :: gtbl) ({ frames := 0, cells := 0, slots := 0, locals := 0 }) (va_Pc [.ref t, .int (nI nd), .int (-1), .int (nI kid)] (mp dC dI [(t, .inr (12, MF 13 w)), (a4, .inl (cI, N, .inl kd)), (a5, .inl (cI, N, .inl nx)), (a8, .inl (cI, N, .inl pr))] [(cI, .int)] sz)) (va_Qv (fun (_ : Unit) => True) (fun _ => mz dC dI [(t, .inr (12, MF 13 w)), (a4, .inl (cI, N, .inl (upd kd nd (nI kid)))), (a5, .inl (cI, N, .inl (upd nx kid (kd nd)))), (a8, .inl (cI, N, .inl (upd pr kid (nI nd))))] [(cI, .int)] (va_A [(t, .inr (12, MF 13 w)), (a4, .inl (cI, N, .inl kd)), (a5, .inl (cI, N, .inl nx)), (a8, .inl (cI, N, .inl pr))] sz.size)) (va_A [(t, .inr (12, MF 13 w)), (a4, .inl (cI, N, .inl kd)), (a5, .inl (cI, N, .inl nx)), (a8, .inl (cI, N, .inl pr))] sz.size)) 0 0 (va_A [(t, .inr (12, MF 13 w)), (a4, .inl (cI, N, .inl kd)), (a5, .inl (cI, N, .inl nx)), (a8, .inl (cI, N, .inl pr))] sz.size) := by
  refine Met.ofW (cc := b_Tree_insert) (maxL := 4) (ret := none) (by decide) rfl ?_
  intro p e s m args below meth c s₁ B hml hv
  obtain ⟨rfl, hsz, hP, hK, hD0⟩ := hv
  have hx := B.exec
  have hb := B.bytes
  have hr := B.returns
  have hts0 := atoms_spec (ws := k_Tree_insert :: gtbl) B.pre
  have hts := fun w h => hts0 w (List.mem_cons_of_mem _ h)
  have hown : s.vm.findClass R_Tree = some m.cls := findClass_of_methodNamed B.named
  have hlocks := B.notSynchronized
  subst hsz
  have hD := hD0.self (sz := s.heap.size)
  generalize hAe : va_A [(t, .inr (12, MF 13 w)), (a4, .inl (cI, N, .inl kd)), (a5, .inl (cI, N, .inl nx)), (a8, .inl (cI, N, .inl pr))] s.heap.size = A at hD ⊢
  have hA : ∀ q : Nat, s.heap.size ≤ q → A q := fun q h => by rw [← hAe]; exact Or.inr h
  have hS : va_S A s.heap s.heap [] := va_S.rf
  have hP : va_P (dC, dI) classes [(t, .inr (12, MF 13 w)), (a4, .inl (cI, N, .inl kd)), (a5, .inl (cI, N, .inl nx)), (a8, .inl (cI, N, .inl pr))] s.heap := hP
  have hl := lv_entry ([.ref t, .int (nI nd), .int (-1), .int (nI kid)]) (n := 4) (Nat.le_of_ble_eq_true rfl)
  rw [lg_entry_eq]
  generalize (lg_sl ([.ref t, .int (nI nd), .int (-1), .int (nI kid)]) ++ List.replicate (4 - (lg_sl ([.ref t, .int (nI nd), .int (-1), .int (nI kid)])).length) Slot.unset).toArray = ls at hl ⊢
  have hl : lv_has ls 4 [(0, .ref t), (1, .int (nI nd)), (2, .int (-1)), (3, .int (nI kid))] := hl
  refine lv_aload_n hx hb d_Tree_insert_0 rfl (lv_at hl 0 rfl) ?_
  refine va_get (D := (dC, dI)) (ci := 12) (v := .ref a8) (C := R_Tree) (T := F_Tree) (N := 13) hx hb hts in_Tree hown hK hP 0 rfl rfl 8 (by decide) (hts _ w_1050) (fun _ h9 => h9) (MFg (by decide) h8) d_Tree_insert_1 ?_
  refine lv_iload_n hx hb d_Tree_insert_4 rfl (lv_at hl 3 rfl) ?_
  refine lv_iload_n hx hb d_Tree_insert_5 rfl (lv_at hl 1 rfl) ?_
  refine va_iast hx hb hK hP hD hS 3 0 rfl rfl (vp_in_nI hkid (by omega)) d_Tree_insert_6 (fun H locs hP hD hS => ?_)
  rw [show (nI kid).toNatClampNeg = kid from nI_clamp (by omega)] at hP hD
  have hP : va_P (dC, dI) classes [(t, .inr (12, MF 13 w)), (a4, .inl (cI, N, .inl kd)), (a5, .inl (cI, N, .inl nx)), (a8, .inl (cI, N, .inl (upd pr kid (nI nd))))] H := hP
  have hD : va_D A [(t, .inr (12, MF 13 w)), (a4, .inl (cI, N, .inl kd)), (a5, .inl (cI, N, .inl nx)), (a8, .inl (cI, N, .inl (upd pr kid (nI nd))))] := hD
  refine lv_iload_n hx hb d_Tree_insert_7 rfl (lv_at hl 2 rfl) ?_
  refine lv_if_ge (tgt := 33) hx hb d_Tree_insert_8 (by decide) (fun h => absurd h (by decide)) (fun _ => ?_)
  refine lv_aload_n hx hb d_Tree_insert_11 rfl (lv_at hl 0 rfl) ?_
  refine va_get (D := (dC, dI)) (ci := 12) (v := .ref a5) (C := R_Tree) (T := F_Tree) (N := 13) hx hb hts in_Tree hown hK hP 0 rfl rfl 5 (by decide) (hts _ w_1044) (fun _ h9 => h9) (MFg (by decide) h5) d_Tree_insert_12 ?_
  refine lv_iload_n hx hb d_Tree_insert_15 rfl (lv_at hl 3 rfl) ?_
  refine lv_aload_n hx hb d_Tree_insert_16 rfl (lv_at hl 0 rfl) ?_
  refine va_get (D := (dC, dI)) (ci := 12) (v := .ref a4) (C := R_Tree) (T := F_Tree) (N := 13) hx hb hts in_Tree hown hK hP 0 rfl rfl 4 (by decide) (hts _ w_1042) (fun _ h9 => h9) (MFg (by decide) h4) d_Tree_insert_17 ?_
  refine lv_iload_n hx hb d_Tree_insert_20 rfl (lv_at hl 1 rfl) ?_
  refine va_iald hx hb hK hP 1 0 rfl rfl (vp_in_nI hnd (by omega)) d_Tree_insert_21 ?_
  rw [show (nI nd).toNatClampNeg = nd from nI_clamp (by omega)]
  refine va_iast hx hb hK hP hD hS 2 0 rfl rfl (vp_in_nI hkid (by omega)) d_Tree_insert_22 (fun H locs hP hD hS => ?_)
  rw [show (nI kid).toNatClampNeg = kid from nI_clamp (by omega)] at hP hD
  have hP : va_P (dC, dI) classes [(t, .inr (12, MF 13 w)), (a4, .inl (cI, N, .inl kd)), (a5, .inl (cI, N, .inl (upd nx kid (kd nd)))), (a8, .inl (cI, N, .inl (upd pr kid (nI nd))))] H := hP
  have hD : va_D A [(t, .inr (12, MF 13 w)), (a4, .inl (cI, N, .inl kd)), (a5, .inl (cI, N, .inl (upd nx kid (kd nd)))), (a8, .inl (cI, N, .inl (upd pr kid (nI nd))))] := hD
  refine lv_aload_n hx hb d_Tree_insert_23 rfl (lv_at hl 0 rfl) ?_
  refine va_get (D := (dC, dI)) (ci := 12) (v := .ref a4) (C := R_Tree) (T := F_Tree) (N := 13) hx hb hts in_Tree hown hK hP 0 rfl rfl 4 (by decide) (hts _ w_1042) (fun _ h9 => h9) (MFg (by decide) h4) d_Tree_insert_24 ?_
  refine lv_iload_n hx hb d_Tree_insert_27 rfl (lv_at hl 1 rfl) ?_
  refine lv_iload_n hx hb d_Tree_insert_28 rfl (lv_at hl 3 rfl) ?_
  refine va_iast hx hb hK hP hD hS 1 0 rfl rfl (vp_in_nI hnd (by omega)) d_Tree_insert_29 (fun H locs hP hD hS => ?_)
  rw [show (nI nd).toNatClampNeg = nd from nI_clamp (by omega)] at hP hD
  have hP : va_P (dC, dI) classes [(t, .inr (12, MF 13 w)), (a4, .inl (cI, N, .inl (upd kd nd (nI kid)))), (a5, .inl (cI, N, .inl (upd nx kid (kd nd)))), (a8, .inl (cI, N, .inl (upd pr kid (nI nd))))] H := hP
  have hD : va_D A [(t, .inr (12, MF 13 w)), (a4, .inl (cI, N, .inl (upd kd nd (nI kid)))), (a5, .inl (cI, N, .inl (upd nx kid (kd nd)))), (a8, .inl (cI, N, .inl (upd pr kid (nI nd))))] := hD
  refine lv_goto (tgt := 52) hx hb d_Tree_insert_30 (by decide) ?_
  exact W.vret hx hb hr (fun t9 ht hW => ⟨⟨(), rfl, trivial, by rw [ht]; exact hP, va_K.moved hW.alike hK, hD⟩, hS.F ht⟩) hS.2.2 d_Tree_insert_52
set_option maxHeartbeats 4000000 in
set_option maxRecDepth 100000 in
/-- Tree.insert -/
theorem c_Tree_insertB (l : Launch) (dC : Nat → ClassId) (dI : Nat → Nat → Nat) (t : Nat) (sz : Heap) (w : Nat → Value) (cI : ClassId) (a4 a5 a8 N nd kid b : Nat) (kd nx pr : Nat → Int32) (hnd : nd < N) (hkid : kid < N) (hb_ : b < N) (hN : N ≤ 10000000) (h4 : w 4 = .ref a4) (h5 : w 5 = .ref a5) (h8 : w 8 = .ref a8) : Met l y_Tree_insert (k_Tree_insert :: gtbl) ({ frames := 0, cells := 0, slots := 0, locals := 0 }) (va_Pc [.ref t, .int (nI nd), .int (nI b), .int (nI kid)] (mp dC dI [(t, .inr (12, MF 13 w)), (a4, .inl (cI, N, .inl kd)), (a5, .inl (cI, N, .inl nx)), (a8, .inl (cI, N, .inl pr))] [(cI, .int)] sz)) (va_Qv (fun (_ : Unit) => True) (fun _ => mz dC dI [(t, .inr (12, MF 13 w)), (a4, .inl (cI, N, .inl kd)), (a5, .inl (cI, N, .inl (upd (upd nx kid (nx b)) b (nI kid)))), (a8, .inl (cI, N, .inl (upd pr kid (nI nd))))] [(cI, .int)] (va_A [(t, .inr (12, MF 13 w)), (a4, .inl (cI, N, .inl kd)), (a5, .inl (cI, N, .inl nx)), (a8, .inl (cI, N, .inl pr))] sz.size)) (va_A [(t, .inr (12, MF 13 w)), (a4, .inl (cI, N, .inl kd)), (a5, .inl (cI, N, .inl nx)), (a8, .inl (cI, N, .inl pr))] sz.size)) 0 0 (va_A [(t, .inr (12, MF 13 w)), (a4, .inl (cI, N, .inl kd)), (a5, .inl (cI, N, .inl nx)), (a8, .inl (cI, N, .inl pr))] sz.size) := by
  refine Met.ofW (cc := b_Tree_insert) (maxL := 4) (ret := none) (by decide) rfl ?_
  intro p e s m args below meth c s₁ B hml hv
  obtain ⟨rfl, hsz, hP, hK, hD0⟩ := hv
  have hx := B.exec
  have hb := B.bytes
  have hr := B.returns
  have hts0 := atoms_spec (ws := k_Tree_insert :: gtbl) B.pre
  have hts := fun w h => hts0 w (List.mem_cons_of_mem _ h)
  have hown : s.vm.findClass R_Tree = some m.cls := findClass_of_methodNamed B.named
  have hlocks := B.notSynchronized
  subst hsz
  have hD := hD0.self (sz := s.heap.size)
  generalize hAe : va_A [(t, .inr (12, MF 13 w)), (a4, .inl (cI, N, .inl kd)), (a5, .inl (cI, N, .inl nx)), (a8, .inl (cI, N, .inl pr))] s.heap.size = A at hD ⊢
  have hA : ∀ q : Nat, s.heap.size ≤ q → A q := fun q h => by rw [← hAe]; exact Or.inr h
  have hS : va_S A s.heap s.heap [] := va_S.rf
  have hP : va_P (dC, dI) classes [(t, .inr (12, MF 13 w)), (a4, .inl (cI, N, .inl kd)), (a5, .inl (cI, N, .inl nx)), (a8, .inl (cI, N, .inl pr))] s.heap := hP
  have hl := lv_entry ([.ref t, .int (nI nd), .int (nI b), .int (nI kid)]) (n := 4) (Nat.le_of_ble_eq_true rfl)
  rw [lg_entry_eq]
  generalize (lg_sl ([.ref t, .int (nI nd), .int (nI b), .int (nI kid)]) ++ List.replicate (4 - (lg_sl ([.ref t, .int (nI nd), .int (nI b), .int (nI kid)])).length) Slot.unset).toArray = ls at hl ⊢
  have hl : lv_has ls 4 [(0, .ref t), (1, .int (nI nd)), (2, .int (nI b)), (3, .int (nI kid))] := hl
  refine lv_aload_n hx hb d_Tree_insert_0 rfl (lv_at hl 0 rfl) ?_
  refine va_get (D := (dC, dI)) (ci := 12) (v := .ref a8) (C := R_Tree) (T := F_Tree) (N := 13) hx hb hts in_Tree hown hK hP 0 rfl rfl 8 (by decide) (hts _ w_1050) (fun _ h9 => h9) (MFg (by decide) h8) d_Tree_insert_1 ?_
  refine lv_iload_n hx hb d_Tree_insert_4 rfl (lv_at hl 3 rfl) ?_
  refine lv_iload_n hx hb d_Tree_insert_5 rfl (lv_at hl 1 rfl) ?_
  refine va_iast hx hb hK hP hD hS 3 0 rfl rfl (vp_in_nI hkid (by omega)) d_Tree_insert_6 (fun H locs hP hD hS => ?_)
  rw [show (nI kid).toNatClampNeg = kid from nI_clamp (by omega)] at hP hD
  have hP : va_P (dC, dI) classes [(t, .inr (12, MF 13 w)), (a4, .inl (cI, N, .inl kd)), (a5, .inl (cI, N, .inl nx)), (a8, .inl (cI, N, .inl (upd pr kid (nI nd))))] H := hP
  have hD : va_D A [(t, .inr (12, MF 13 w)), (a4, .inl (cI, N, .inl kd)), (a5, .inl (cI, N, .inl nx)), (a8, .inl (cI, N, .inl (upd pr kid (nI nd))))] := hD
  refine lv_iload_n hx hb d_Tree_insert_7 rfl (lv_at hl 2 rfl) ?_
  refine lv_if_ge (tgt := 33) hx hb d_Tree_insert_8 (by decide) (fun _ => ?_) (fun h => absurd (nI_pos' (by omega)) h)
  refine lv_aload_n hx hb d_Tree_insert_33 rfl (lv_at hl 0 rfl) ?_
  refine va_get (D := (dC, dI)) (ci := 12) (v := .ref a5) (C := R_Tree) (T := F_Tree) (N := 13) hx hb hts in_Tree hown hK hP 0 rfl rfl 5 (by decide) (hts _ w_1044) (fun _ h9 => h9) (MFg (by decide) h5) d_Tree_insert_34 ?_
  refine lv_iload_n hx hb d_Tree_insert_37 rfl (lv_at hl 3 rfl) ?_
  refine lv_aload_n hx hb d_Tree_insert_38 rfl (lv_at hl 0 rfl) ?_
  refine va_get (D := (dC, dI)) (ci := 12) (v := .ref a5) (C := R_Tree) (T := F_Tree) (N := 13) hx hb hts in_Tree hown hK hP 0 rfl rfl 5 (by decide) (hts _ w_1044) (fun _ h9 => h9) (MFg (by decide) h5) d_Tree_insert_39 ?_
  refine lv_iload_n hx hb d_Tree_insert_42 rfl (lv_at hl 2 rfl) ?_
  refine va_iald hx hb hK hP 2 0 rfl rfl (vp_in_nI hb_ (by omega)) d_Tree_insert_43 ?_
  rw [show (nI b).toNatClampNeg = b from nI_clamp (by omega)]
  refine va_iast hx hb hK hP hD hS 2 0 rfl rfl (vp_in_nI hkid (by omega)) d_Tree_insert_44 (fun H locs hP hD hS => ?_)
  rw [show (nI kid).toNatClampNeg = kid from nI_clamp (by omega)] at hP hD
  have hP : va_P (dC, dI) classes [(t, .inr (12, MF 13 w)), (a4, .inl (cI, N, .inl kd)), (a5, .inl (cI, N, .inl (upd nx kid (nx b)))), (a8, .inl (cI, N, .inl (upd pr kid (nI nd))))] H := hP
  have hD : va_D A [(t, .inr (12, MF 13 w)), (a4, .inl (cI, N, .inl kd)), (a5, .inl (cI, N, .inl (upd nx kid (nx b)))), (a8, .inl (cI, N, .inl (upd pr kid (nI nd))))] := hD
  refine lv_aload_n hx hb d_Tree_insert_45 rfl (lv_at hl 0 rfl) ?_
  refine va_get (D := (dC, dI)) (ci := 12) (v := .ref a5) (C := R_Tree) (T := F_Tree) (N := 13) hx hb hts in_Tree hown hK hP 0 rfl rfl 5 (by decide) (hts _ w_1044) (fun _ h9 => h9) (MFg (by decide) h5) d_Tree_insert_46 ?_
  refine lv_iload_n hx hb d_Tree_insert_49 rfl (lv_at hl 2 rfl) ?_
  refine lv_iload_n hx hb d_Tree_insert_50 rfl (lv_at hl 3 rfl) ?_
  refine va_iast hx hb hK hP hD hS 2 0 rfl rfl (vp_in_nI hb_ (by omega)) d_Tree_insert_51 (fun H locs hP hD hS => ?_)
  rw [show (nI b).toNatClampNeg = b from nI_clamp (by omega)] at hP hD
  have hP : va_P (dC, dI) classes [(t, .inr (12, MF 13 w)), (a4, .inl (cI, N, .inl kd)), (a5, .inl (cI, N, .inl (upd (upd nx kid (nx b)) b (nI kid)))), (a8, .inl (cI, N, .inl (upd pr kid (nI nd))))] H := hP
  have hD : va_D A [(t, .inr (12, MF 13 w)), (a4, .inl (cI, N, .inl kd)), (a5, .inl (cI, N, .inl (upd (upd nx kid (nx b)) b (nI kid)))), (a8, .inl (cI, N, .inl (upd pr kid (nI nd))))] := hD
  exact W.vret hx hb hr (fun t9 ht hW => ⟨⟨(), rfl, trivial, by rw [ht]; exact hP, va_K.moved hW.alike hK, hD⟩, hS.F ht⟩) hS.2.2 d_Tree_insert_52
abbrev b_Tree_unit : ByteArray := prog_15_method_5_code
def y_Tree_unit : MethodName := ⟨"QueryBenchModel$Tree", "unit", "(I)V"⟩
abbrev k_Tree_unit : Cond := .code y_Tree_unit b_Tree_unit 4 none
theorem i_Tree_unit : k_Tree_unit ∈ gtbl := gt_in 1268 (by decide +kernel) (by decide +kernel)
theorem d_Tree_unit_0 : decode b_Tree_unit 0 = .ok (.aload_n 0, 1) := by decide +kernel
theorem d_Tree_unit_1 : decode b_Tree_unit 1 = .ok (.getfield 51, 3) := by decide +kernel
theorem d_Tree_unit_4 : decode b_Tree_unit 4 = .ok (.aload_n 0, 1) := by decide +kernel
theorem d_Tree_unit_5 : decode b_Tree_unit 5 = .ok (.getfield 43, 3) := by decide +kernel
theorem d_Tree_unit_8 : decode b_Tree_unit 8 = .ok (.arraylength, 1) := by decide +kernel
theorem d_Tree_unit_9 : decode b_Tree_unit 9 = .ok (.if_icmp .ne 42, 3) := by decide +kernel
theorem d_Tree_unit_12 : decode b_Tree_unit 12 = .ok (.iconst 2, 1) := by decide +kernel
theorem d_Tree_unit_13 : decode b_Tree_unit 13 = .ok (.aload_n 0, 1) := by decide +kernel
theorem d_Tree_unit_14 : decode b_Tree_unit 14 = .ok (.getfield 51, 3) := by decide +kernel
theorem d_Tree_unit_17 : decode b_Tree_unit 17 = .ok (.imul, 1) := by decide +kernel
theorem d_Tree_unit_18 : decode b_Tree_unit 18 = .ok (.newarray .char, 2) := by decide +kernel
theorem d_Tree_unit_20 : decode b_Tree_unit 20 = .ok (.astore_n 2, 1) := by decide +kernel
theorem d_Tree_unit_21 : decode b_Tree_unit 21 = .ok (.iconst 0, 1) := by decide +kernel
theorem d_Tree_unit_22 : decode b_Tree_unit 22 = .ok (.istore_n 3, 1) := by decide +kernel
theorem d_Tree_unit_23 : decode b_Tree_unit 23 = .ok (.iload_n 3, 1) := by decide +kernel
theorem d_Tree_unit_24 : decode b_Tree_unit 24 = .ok (.aload_n 0, 1) := by decide +kernel
theorem d_Tree_unit_25 : decode b_Tree_unit 25 = .ok (.getfield 51, 3) := by decide +kernel
theorem d_Tree_unit_28 : decode b_Tree_unit 28 = .ok (.if_icmp .ge 18, 3) := by decide +kernel
theorem d_Tree_unit_31 : decode b_Tree_unit 31 = .ok (.aload_n 2, 1) := by decide +kernel
theorem d_Tree_unit_32 : decode b_Tree_unit 32 = .ok (.iload_n 3, 1) := by decide +kernel
theorem d_Tree_unit_33 : decode b_Tree_unit 33 = .ok (.aload_n 0, 1) := by decide +kernel
theorem d_Tree_unit_34 : decode b_Tree_unit 34 = .ok (.getfield 43, 3) := by decide +kernel
theorem d_Tree_unit_37 : decode b_Tree_unit 37 = .ok (.iload_n 3, 1) := by decide +kernel
theorem d_Tree_unit_38 : decode b_Tree_unit 38 = .ok (.caload, 1) := by decide +kernel
theorem d_Tree_unit_39 : decode b_Tree_unit 39 = .ok (.castore, 1) := by decide +kernel
theorem d_Tree_unit_40 : decode b_Tree_unit 40 = .ok (.iinc 3 1, 3) := by decide +kernel
theorem d_Tree_unit_43 : decode b_Tree_unit 43 = .ok (.goto (-20), 3) := by decide +kernel
theorem d_Tree_unit_46 : decode b_Tree_unit 46 = .ok (.aload_n 0, 1) := by decide +kernel
theorem d_Tree_unit_47 : decode b_Tree_unit 47 = .ok (.aload_n 2, 1) := by decide +kernel
theorem d_Tree_unit_48 : decode b_Tree_unit 48 = .ok (.putfield 43, 3) := by decide +kernel
theorem d_Tree_unit_51 : decode b_Tree_unit 51 = .ok (.aload_n 0, 1) := by decide +kernel
theorem d_Tree_unit_52 : decode b_Tree_unit 52 = .ok (.getfield 43, 3) := by decide +kernel
theorem d_Tree_unit_55 : decode b_Tree_unit 55 = .ok (.aload_n 0, 1) := by decide +kernel
theorem d_Tree_unit_56 : decode b_Tree_unit 56 = .ok (.getfield 51, 3) := by decide +kernel
theorem d_Tree_unit_59 : decode b_Tree_unit 59 = .ok (.iload_n 1, 1) := by decide +kernel
theorem d_Tree_unit_60 : decode b_Tree_unit 60 = .ok (.i2c, 1) := by decide +kernel
theorem d_Tree_unit_61 : decode b_Tree_unit 61 = .ok (.castore, 1) := by decide +kernel
theorem d_Tree_unit_62 : decode b_Tree_unit 62 = .ok (.aload_n 0, 1) := by decide +kernel
theorem d_Tree_unit_63 : decode b_Tree_unit 63 = .ok (.dup, 1) := by decide +kernel
theorem d_Tree_unit_64 : decode b_Tree_unit 64 = .ok (.getfield 51, 3) := by decide +kernel
theorem d_Tree_unit_67 : decode b_Tree_unit 67 = .ok (.iconst 1, 1) := by decide +kernel
theorem d_Tree_unit_68 : decode b_Tree_unit 68 = .ok (.iadd, 1) := by decide +kernel
theorem d_Tree_unit_69 : decode b_Tree_unit 69 = .ok (.putfield 51, 3) := by decide +kernel
theorem d_Tree_unit_72 : decode b_Tree_unit 72 = .ok (.return_, 1) := by decide +kernel
set_option maxHeartbeats 4000000 in
set_option maxRecDepth 100000 in
/-- Tree.unit -/
theorem c_Tree_unit (l : Launch) (dC : Nat → ClassId) (dI : Nat → Nat → Nat) (t : Nat) (sz : Heap) (w : Nat → Value) (cC : ClassId) (au U k : Nat) (g : Nat → Int32) (x : Int32) (hk0 : k ≤ U) (hU0 : 0 < U) (hU : U ≤ 10000000) (hg : chOK g) (h11 : w 11 = .ref au) (h12 : w 12 = .int (nI k)) : Met l y_Tree_unit (k_Tree_unit :: gtbl) ({ frames := 0, cells := grC U k, slots := grS U k, locals := 0 }) (va_Pc [.ref t, .int x] (mp dC dI [(t, .inr (12, MF 13 w)), (au, .inl (cC, U, .inl g))] [(cC, .char)] sz)) (va_Qv (fun (u : Nat × (Nat → Value)) => u.2 11 = .ref u.1 ∧ u.2 12 = .int (nI (k + 1)) ∧ ∀ j, j ≠ 11 → j ≠ 12 → u.2 j = w j) (fun u t9 => mz dC dI [(t, .inr (12, MF 13 u.2)), (u.1, .inl (cC, grN U k, .inl (grU g U k x)))] [(cC, .char)] (va_A [(t, .inr (12, MF 13 w)), (au, .inl (cC, U, .inl g))] sz.size) t9 ∧ szk sz t9.heap (grC U k) (grS U k)) (va_A [(t, .inr (12, MF 13 w)), (au, .inl (cC, U, .inl g))] sz.size)) (grC U k) (grS U k) (va_A [(t, .inr (12, MF 13 w)), (au, .inl (cC, U, .inl g))] sz.size) := by
  refine Met.ofW (cc := b_Tree_unit) (maxL := 4) (ret := none) (by decide) rfl ?_
  intro p e s m args below meth c s₁ B hml hv
  obtain ⟨rfl, hsz, hP, hK, hD0⟩ := hv
  have hx := B.exec
  have hb := B.bytes
  have hr := B.returns
  have hts0 := atoms_spec (ws := k_Tree_unit :: gtbl) B.pre
  have hts := fun w h => hts0 w (List.mem_cons_of_mem _ h)
  have hown : s.vm.findClass R_Tree = some m.cls := findClass_of_methodNamed B.named
  have hlocks := B.notSynchronized
  subst hsz
  have hD := hD0.self (sz := s.heap.size)
  generalize hAe : va_A [(t, .inr (12, MF 13 w)), (au, .inl (cC, U, .inl g))] s.heap.size = A at hD ⊢
  have hA : ∀ q : Nat, s.heap.size ≤ q → A q := fun q h => by rw [← hAe]; exact Or.inr h
  have hS : va_S A s.heap s.heap [] := va_S.rf
  have hP : va_P (dC, dI) classes [(t, .inr (12, MF 13 w)), (au, .inl (cC, U, .inl g))] s.heap := hP
  have hl := lv_entry ([.ref t, .int x]) (n := 4) (Nat.le_of_ble_eq_true rfl)
  rw [lg_entry_eq]
  generalize (lg_sl ([.ref t, .int x]) ++ List.replicate (4 - (lg_sl ([.ref t, .int x])).length) Slot.unset).toArray = ls at hl ⊢
  have hl : lv_has ls 4 [(0, .ref t), (1, .int x)] := hl
  refine lv_aload_n hx hb d_Tree_unit_0 rfl (lv_at hl 0 rfl) ?_
  refine va_get (D := (dC, dI)) (ci := 12) (v := .int (nI k)) (C := R_Tree) (T := F_Tree) (N := 13) hx hb hts in_Tree hown hK hP 0 rfl rfl 12 (by decide) (hts _ w_1057) (fun _ h9 => h9) (MFg (by decide) h12) d_Tree_unit_1 ?_
  refine lv_aload_n hx hb d_Tree_unit_4 rfl (lv_at hl 0 rfl) ?_
  refine va_get (D := (dC, dI)) (ci := 12) (v := .ref au) (C := R_Tree) (T := F_Tree) (N := 13) hx hb hts in_Tree hown hK hP 0 rfl rfl 11 (by decide) (hts _ w_1055) (fun _ h9 => h9) (MFg (by decide) h11) d_Tree_unit_5 ?_
  refine va_alen (v := nI U) hx hb hK hP 1 0 rfl rfl rfl d_Tree_unit_8 ?_
  refine lv_icmp_ne (tgt := 51) hx hb d_Tree_unit_9 (by decide) (fun c9 => ?_) (fun c9 => ?_)
  · have hkU : ¬ k = U := fun h => c9 (by rw [h])
    refine lv_aload_n hx hb d_Tree_unit_51 rfl (lv_at hl 0 rfl) ?_
    refine va_get (D := (dC, dI)) (ci := 12) (v := .ref au) (C := R_Tree) (T := F_Tree) (N := 13) hx hb hts in_Tree hown hK hP 0 rfl rfl 11 (by decide) (hts _ w_1055) (fun _ h9 => h9) (MFg (by decide) h11) d_Tree_unit_52 ?_
    refine lv_aload_n hx hb d_Tree_unit_55 rfl (lv_at hl 0 rfl) ?_
    refine va_get (D := (dC, dI)) (ci := 12) (v := .int (nI k)) (C := R_Tree) (T := F_Tree) (N := 13) hx hb hts in_Tree hown hK hP 0 rfl rfl 12 (by decide) (hts _ w_1057) (fun _ h9 => h9) (MFg (by decide) h12) d_Tree_unit_56 ?_
    refine lv_iload_n hx hb d_Tree_unit_59 rfl (lv_at hl 1 rfl) ?_
    refine lv_i2c (v := (x.toUInt32 % 65536).toInt32) hx hb d_Tree_unit_60 rfl ?_
    refine va_cast hx hb hK hP hD hS 1 0 rfl rfl (vp_in_nI (show k < U by omega) (by omega)) d_Tree_unit_61 (fun H locs hP hD hS => ?_)
    rw [show (nI k).toNatClampNeg = k from nI_clamp (by omega), show vp_nar .char ((x.toUInt32 % 65536).toInt32) = (x.toUInt32 % 65536).toInt32 from pk_vc x] at hP hD
    have hP : va_P (dC, dI) classes [(t, .inr (12, MF 13 w)), (au, .inl (cC, U, .inl (upd g k (x.toUInt32 % 65536).toInt32)))] H := hP
    have hD : va_D A [(t, .inr (12, MF 13 w)), (au, .inl (cC, U, .inl (upd g k (x.toUInt32 % 65536).toInt32)))] := hD
    refine lv_aload_n hx hb d_Tree_unit_62 rfl (lv_at hl 0 rfl) ?_
    refine lv_dup hx hb d_Tree_unit_63 rfl ?_
    refine va_get (D := (dC, dI)) (ci := 12) (v := .int (nI k)) (C := R_Tree) (T := F_Tree) (N := 13) hx hb hts in_Tree hown hK hP 0 rfl rfl 12 (by decide) (hts _ w_1057) (fun _ h9 => h9) (MFg (by decide) h12) d_Tree_unit_64 ?_
    refine lv_iconst (v := 1) hx hb d_Tree_unit_67 (by decide) ?_
    refine lv_iadd hx hb d_Tree_unit_68 ?_
    refine W.eq (g2 := F0 m 69 ls [.int (nI (k + 1)), .ref t]) (by rw [show ((nI k) + 1) = (nI (k + 1)) from nI_1 _]) ?_
    refine va_put (D := (dC, dI)) (ci := 12) (v := .int (nI (k + 1))) (ty := .int) (C := R_Tree) (T := F_Tree) (N := 13) hx hb hts in_Tree t_Tree t_Tree_ok n_Tree hown hK hP hD hS 0 rfl rfl 12 (by decide) (hts _ w_1057) (fun _ h9 => h9) rfl (by decide +kernel) rfl rfl (by rw [MFl]; decide) d_Tree_unit_69 (fun H locs hP hD hS => ?_)
    rw [MFs (n := 13) (k := 12) (by decide)] at hP hD
    have hP : va_P (dC, dI) classes [(t, .inr (12, MF 13 (va_up w 12 (.int (nI (k + 1)))))), (au, .inl (cC, U, .inl (upd g k (x.toUInt32 % 65536).toInt32)))] H := hP
    have hD : va_D A [(t, .inr (12, MF 13 (va_up w 12 (.int (nI (k + 1)))))), (au, .inl (cC, U, .inl (upd g k (x.toUInt32 % 65536).toInt32)))] := hD
    have hpo : (va_up w 12 (.int (nI (k + 1)))) 11 = .ref au ∧ (va_up w 12 (.int (nI (k + 1)))) 12 = .int (nI (k + 1)) ∧ ∀ j, j ≠ 11 → j ≠ 12 → (va_up w 12 (.int (nI (k + 1)))) j = w j := ⟨(va_up_ne _ _ (by decide)).trans h11, va_up_self _ _ _, fun j h1 h2 => va_up_ne _ _ h2⟩
    have e1 : grU g U k x = upd g k (x.toUInt32 % 65536).toInt32 := by unfold grU; rw [if_neg hkU]
    have e2 : grN U k = U := by unfold grN; rw [if_neg hkU]
    refine w_same (fun hq => ?_)
    refine W.widen (k := grC U k) (n := grS U k) (Nat.zero_le _) (Nat.zero_le _) ?_
    exact W.vret hx hb hr (fun t9 ht hW => ⟨⟨(au, va_up w 12 (.int (nI (k + 1)))), rfl, hpo, ⟨by rw [ht, e1, e2]; exact hP, va_K.moved hW.alike hK, by rw [e1, e2]; exact hD⟩, by rw [ht]; exact hq.mono (Nat.zero_le _) (Nat.zero_le _)⟩, hS.F ht⟩) hS.2.2 d_Tree_unit_72
  · have hkU : k = U := (nI_eq (by omega) (by omega)).mp c9
    refine lv_iconst (v := 2) hx hb d_Tree_unit_12 (by decide) ?_
    refine lv_aload_n hx hb d_Tree_unit_13 rfl (lv_at hl 0 rfl) ?_
    refine va_get (D := (dC, dI)) (ci := 12) (v := .int (nI k)) (C := R_Tree) (T := F_Tree) (N := 13) hx hb hts in_Tree hown hK hP 0 rfl rfl 12 (by decide) (hts _ w_1057) (fun _ h9 => h9) (MFg (by decide) h12) d_Tree_unit_14 ?_
    refine lv_imul hx hb d_Tree_unit_17 ?_
    refine W.eq (g2 := F0 m 18 ls [.int (nI (2 * k))]) (by rw [show (2 * (nI k)) = (nI (2 * k)) from (by rw [show (2 : Int32) = nI 2 from rfl, pk_mul])]) ?_
    have hg1 : grC U k = 1 := by unfold grC; rw [if_pos hkU]
    have hg2 : grS U k = 2 * k := by unfold grS; rw [if_pos hkU]
    refine va_newa (atype := .char) (ty := .char) (N' := 2 * k) (a0 := (2 * k, .inl (fun _ => 0))) hx hb (hts _ w_1088) rfl hK hP hD hS hA (fun _ => rfl) (nI_pos (by omega)) (nI_clamp (by omega)) (by show 2 * k * 2 ≤ 536870912; omega) (by show 0 + 1 ≤ grC U k; omega) (by show 0 + 2 * k ≤ grS U k; omega) d_Tree_unit_18 (fun q cA H hK hP hD hS => ?_)
    obtain rfl : cC = cA := Option.some.inj ((hK.2 0 _ rfl).2.symm.trans (hK.2 1 _ rfl).2)
    have hK := hK.sub (tys' := [(cC, .char)]) [0] rfl
    rw [← cpL_0 g] at hP hD
    have hP : va_P (dC, dI) classes [(t, .inr (12, MF 13 w)), (au, .inl (cC, U, .inl g)), (q, .inl (cC, (2 * k), .inl (cpL g 0)))] H := hP
    have hD : va_D A [(t, .inr (12, MF 13 w)), (au, .inl (cC, U, .inl g)), (q, .inl (cC, (2 * k), .inl (cpL g 0)))] := hD
    refine lv_astore_n (lv' := [(2, .ref q), (0, .ref t), (1, .int x)]) hx hb d_Tree_unit_20 rfl hl (by decide) rfl (fun ls hl => ?_)
    refine lv_iconst (v := 0) hx hb d_Tree_unit_21 (by decide) ?_
    refine lv_istore_n (lv' := [(3, .int 0), (2, .ref q), (0, .ref t), (1, .int x)]) hx hb d_Tree_unit_22 rfl hl (by decide) rfl (fun ls hl => ?_)
    refine w_loop (D := (dC, dI)) (cl := classes) (A := A) (H0 := s.heap) (nL := 4) 23 (σ := Nat) (fun j => j ≤ k) (fun j => k - j) (fun j => [(t, .inr (12, MF 13 w)), (au, .inl (cC, U, .inl g)), (q, .inl (cC, (2 * k), .inl (cpL g j)))]) (fun j => [(0, .ref t), (1, .int x), (2, .ref q), (3, .int (nI j))]) ?_ 0 (Nat.zero_le _) hP hD hS (lv_sub hl [2, 3, 1, 0] rfl)
    rintro j H locs ls hI ih hP hD hS hl
    have hP : va_P (dC, dI) classes [(t, .inr (12, MF 13 w)), (au, .inl (cC, U, .inl g)), (q, .inl (cC, (2 * k), .inl (cpL g j)))] H := hP
    have hD : va_D A [(t, .inr (12, MF 13 w)), (au, .inl (cC, U, .inl g)), (q, .inl (cC, (2 * k), .inl (cpL g j)))] := hD
    have hl : lv_has ls 4 [(0, .ref t), (1, .int x), (2, .ref q), (3, .int (nI j))] := hl
    refine lv_iload_n hx hb d_Tree_unit_23 rfl (lv_at hl 3 rfl) ?_
    refine lv_aload_n hx hb d_Tree_unit_24 rfl (lv_at hl 0 rfl) ?_
    refine va_get (D := (dC, dI)) (ci := 12) (v := .int (nI k)) (C := R_Tree) (T := F_Tree) (N := 13) hx hb hts in_Tree hown hK hP 0 rfl rfl 12 (by decide) (hts _ w_1057) (fun _ h9 => h9) (MFg (by decide) h12) d_Tree_unit_25 ?_
    refine lv_icmp_ge (tgt := 46) hx hb d_Tree_unit_28 (by decide) (fun c28 => ?_) (fun c28 => ?_)
    · have hjk : j = k := by rw [nI_leI (by omega) (by omega)] at c28; omega
      rw [hjk] at hP hD
      have hP : va_P (dC, dI) classes [(t, .inr (12, MF 13 w)), (au, .inl (cC, U, .inl g)), (q, .inl (cC, (2 * k), .inl (cpL g k)))] H := hP
      have hD : va_D A [(t, .inr (12, MF 13 w)), (au, .inl (cC, U, .inl g)), (q, .inl (cC, (2 * k), .inl (cpL g k)))] := hD
      refine lv_aload_n hx hb d_Tree_unit_46 rfl (lv_at hl 0 rfl) ?_
      refine lv_aload_n hx hb d_Tree_unit_47 rfl (lv_at hl 2 rfl) ?_
      refine va_put (D := (dC, dI)) (ci := 12) (v := .ref q) (ty := .array .char) (C := R_Tree) (T := F_Tree) (N := 13) hx hb hts in_Tree t_Tree t_Tree_ok n_Tree hown hK hP hD hS 0 rfl rfl 11 (by decide) (hts _ w_1055) (fun _ h9 => h9) rfl (by decide +kernel) rfl rfl (by rw [MFl]; decide) d_Tree_unit_48 (fun H locs hP hD hS => ?_)
      rw [MFs (n := 13) (k := 11) (by decide)] at hP hD
      have hP : va_P (dC, dI) classes [(t, .inr (12, MF 13 (va_up w 11 (.ref q)))), (au, .inl (cC, U, .inl g)), (q, .inl (cC, (2 * k), .inl (cpL g k)))] H := hP
      have hD : va_D A [(t, .inr (12, MF 13 (va_up w 11 (.ref q)))), (au, .inl (cC, U, .inl g)), (q, .inl (cC, (2 * k), .inl (cpL g k)))] := hD
      refine lv_aload_n hx hb d_Tree_unit_51 rfl (lv_at hl 0 rfl) ?_
      refine va_get (D := (dC, dI)) (ci := 12) (v := .ref q) (C := R_Tree) (T := F_Tree) (N := 13) hx hb hts in_Tree hown hK hP 0 rfl rfl 11 (by decide) (hts _ w_1055) (fun _ h9 => h9) (MFg (by decide) (va_up_self _ _ _)) d_Tree_unit_52 ?_
      refine lv_aload_n hx hb d_Tree_unit_55 rfl (lv_at hl 0 rfl) ?_
      refine va_get (D := (dC, dI)) (ci := 12) (v := .int (nI k)) (C := R_Tree) (T := F_Tree) (N := 13) hx hb hts in_Tree hown hK hP 0 rfl rfl 12 (by decide) (hts _ w_1057) (fun _ h9 => h9) (MFg (by decide) ((va_up_ne _ _ (by decide)).trans (h12))) d_Tree_unit_56 ?_
      refine lv_iload_n hx hb d_Tree_unit_59 rfl (lv_at hl 1 rfl) ?_
      refine lv_i2c (v := (x.toUInt32 % 65536).toInt32) hx hb d_Tree_unit_60 rfl ?_
      refine va_cast hx hb hK hP hD hS 2 0 rfl rfl (vp_in_nI (show k < 2 * k by omega) (by omega)) d_Tree_unit_61 (fun H locs hP hD hS => ?_)
      rw [show (nI k).toNatClampNeg = k from nI_clamp (by omega), show vp_nar .char ((x.toUInt32 % 65536).toInt32) = (x.toUInt32 % 65536).toInt32 from pk_vc x] at hP hD
      have hP : va_P (dC, dI) classes [(t, .inr (12, MF 13 (va_up w 11 (.ref q)))), (au, .inl (cC, U, .inl g)), (q, .inl (cC, (2 * k), .inl (upd (cpL g k) k (x.toUInt32 % 65536).toInt32)))] H := hP
      have hD : va_D A [(t, .inr (12, MF 13 (va_up w 11 (.ref q)))), (au, .inl (cC, U, .inl g)), (q, .inl (cC, (2 * k), .inl (upd (cpL g k) k (x.toUInt32 % 65536).toInt32)))] := hD
      refine lv_aload_n hx hb d_Tree_unit_62 rfl (lv_at hl 0 rfl) ?_
      refine lv_dup hx hb d_Tree_unit_63 rfl ?_
      refine va_get (D := (dC, dI)) (ci := 12) (v := .int (nI k)) (C := R_Tree) (T := F_Tree) (N := 13) hx hb hts in_Tree hown hK hP 0 rfl rfl 12 (by decide) (hts _ w_1057) (fun _ h9 => h9) (MFg (by decide) ((va_up_ne _ _ (by decide)).trans (h12))) d_Tree_unit_64 ?_
      refine lv_iconst (v := 1) hx hb d_Tree_unit_67 (by decide) ?_
      refine lv_iadd hx hb d_Tree_unit_68 ?_
      refine W.eq (g2 := F0 m 69 ls [.int (nI (k + 1)), .ref t]) (by rw [show ((nI k) + 1) = (nI (k + 1)) from nI_1 _]) ?_
      refine va_put (D := (dC, dI)) (ci := 12) (v := .int (nI (k + 1))) (ty := .int) (C := R_Tree) (T := F_Tree) (N := 13) hx hb hts in_Tree t_Tree t_Tree_ok n_Tree hown hK hP hD hS 0 rfl rfl 12 (by decide) (hts _ w_1057) (fun _ h9 => h9) rfl (by decide +kernel) rfl rfl (by rw [MFl]; decide) d_Tree_unit_69 (fun H locs hP hD hS => ?_)
      rw [MFs (n := 13) (k := 12) (by decide)] at hP hD
      have hP : va_P (dC, dI) classes [(t, .inr (12, MF 13 (va_up (va_up w 11 (.ref q)) 12 (.int (nI (k + 1)))))), (au, .inl (cC, U, .inl g)), (q, .inl (cC, (2 * k), .inl (upd (cpL g k) k (x.toUInt32 % 65536).toInt32)))] H := hP
      have hD : va_D A [(t, .inr (12, MF 13 (va_up (va_up w 11 (.ref q)) 12 (.int (nI (k + 1)))))), (au, .inl (cC, U, .inl g)), (q, .inl (cC, (2 * k), .inl (upd (cpL g k) k (x.toUInt32 % 65536).toInt32)))] := hD
      have hpo : (va_up (va_up w 11 (.ref q)) 12 (.int (nI (k + 1)))) 11 = .ref q ∧ (va_up (va_up w 11 (.ref q)) 12 (.int (nI (k + 1)))) 12 = .int (nI (k + 1)) ∧ ∀ j, j ≠ 11 → j ≠ 12 → (va_up (va_up w 11 (.ref q)) 12 (.int (nI (k + 1)))) j = w j := ⟨(va_up_ne _ _ (by decide)).trans (va_up_self _ _ _), va_up_self _ _ _, fun j h1 h2 => (va_up_ne _ _ h2).trans (va_up_ne _ _ h1)⟩
      have e1 : grU g U k x = upd (cpL g k) k (x.toUInt32 % 65536).toInt32 := by unfold grU; rw [if_pos hkU]
      have e2 : grN U k = 2 * k := by unfold grN; rw [if_pos hkU]
      refine w_same (fun hq => ?_)
      refine W.widen (k := grC U k) (n := grS U k) (by omega) (by omega) ?_
      exact W.vret hx hb hr (fun t9 ht hW => ⟨⟨(q, va_up (va_up w 11 (.ref q)) 12 (.int (nI (k + 1)))), rfl, hpo, ⟨by rw [ht, e1, e2]; exact hP.sub [0, 2] rfl, va_K.moved hW.alike hK, by rw [e1, e2]; exact hD.sub [0, 2] (by decide) rfl⟩, by rw [ht]; exact hq.mono (by omega) (by omega)⟩, hS.F ht⟩) hS.2.2 d_Tree_unit_72
    · refine lv_aload_n hx hb d_Tree_unit_31 rfl (lv_at hl 2 rfl) ?_
      refine lv_iload_n hx hb d_Tree_unit_32 rfl (lv_at hl 3 rfl) ?_
      refine lv_aload_n hx hb d_Tree_unit_33 rfl (lv_at hl 0 rfl) ?_
      refine va_get (D := (dC, dI)) (ci := 12) (v := .ref au) (C := R_Tree) (T := F_Tree) (N := 13) hx hb hts in_Tree hown hK hP 0 rfl rfl 11 (by decide) (hts _ w_1055) (fun _ h9 => h9) (MFg (by decide) h11) d_Tree_unit_34 ?_
      refine lv_iload_n hx hb d_Tree_unit_37 rfl (lv_at hl 3 rfl) ?_
      have hj : j < k := by rw [nI_leI (by omega) (by omega)] at c28; omega
      refine va_cald hx hb hK hP 1 0 rfl rfl (vp_in_nI (show j < U by omega) (by omega)) d_Tree_unit_38 ?_
      rw [show (nI j).toNatClampNeg = j from nI_clamp (by omega)]
      refine va_cast hx hb hK hP hD hS 2 0 rfl rfl (vp_in_nI (show j < 2 * k by omega) (by omega)) d_Tree_unit_39 (fun H locs hP hD hS => ?_)
      rw [show (nI j).toNatClampNeg = j from nI_clamp (by omega), hg j, cpL_s] at hP hD
      have hP : va_P (dC, dI) classes [(t, .inr (12, MF 13 w)), (au, .inl (cC, U, .inl g)), (q, .inl (cC, (2 * k), .inl (cpL g (j + 1))))] H := hP
      have hD : va_D A [(t, .inr (12, MF 13 w)), (au, .inl (cC, U, .inl g)), (q, .inl (cC, (2 * k), .inl (cpL g (j + 1))))] := hD
      refine lv_iinc (v := nI (j + 1)) (lv' := [(3, .int (nI (j + 1))), (0, .ref t), (1, .int x), (2, .ref q)]) hx hb d_Tree_unit_40 hl (k := 3) rfl (nI_1 j) (by decide) rfl (fun ls hl => ?_)
      refine lv_goto (tgt := 23) hx hb d_Tree_unit_43 (by decide) ?_
      exact ih (j + 1) _ _ _ (by omega) (by show k - (j + 1) < k - j; omega) hP hD hS (lv_sub hl [1, 2, 3, 0] rfl)
