theorem ofN_0 {j : Nat} (hj : j < 2 ^ 62) : Int64.ofNat j = 0 ↔ j = 0 := by
  constructor
  · intro h
    have := congrArg Int64.toInt h
    rw [toI_ofN hj] at this
    have z : (0 : Int64).toInt = 0 := rfl
    omega
  · intro h; rw [h]; rfl
theorem ofN_pred {j : Nat} : Int64.ofNat (j + 1) - 1 = Int64.ofNat j := by
  rw [Int64.ofNat_add j 1, show Int64.ofNat 1 = 1 from rfl, Int64.add_sub_cancel]
def kidV (ks : List Nat) (j : Nat) : Int32 := match ks[j]? with
  | some a => nI a
  | none => -1
abbrev b_Mo_kidAt : ByteArray := prog_14_method_32_code
def y_Mo_kidAt : MethodName := ⟨"QueryBenchModel", "kidAt", "(IJ)I"⟩
abbrev k_Mo_kidAt : Cond := .code y_Mo_kidAt b_Mo_kidAt 7 (some .int)
theorem i_Mo_kidAt : k_Mo_kidAt ∈ gtbl := gt_in 1520 (by decide +kernel) (by decide +kernel)
theorem d_Mo_kidAt_0 : decode b_Mo_kidAt 0 = .ok (.lload_n 2, 1) := by decide +kernel
theorem d_Mo_kidAt_1 : decode b_Mo_kidAt 1 = .ok (.lstore 4, 2) := by decide +kernel
theorem d_Mo_kidAt_3 : decode b_Mo_kidAt 3 = .ok (.aload_n 0, 1) := by decide +kernel
theorem d_Mo_kidAt_4 : decode b_Mo_kidAt 4 = .ok (.getfield 45, 3) := by decide +kernel
theorem d_Mo_kidAt_7 : decode b_Mo_kidAt 7 = .ok (.getfield 75, 3) := by decide +kernel
theorem d_Mo_kidAt_10 : decode b_Mo_kidAt 10 = .ok (.iload_n 1, 1) := by decide +kernel
theorem d_Mo_kidAt_11 : decode b_Mo_kidAt 11 = .ok (.iaload, 1) := by decide +kernel
theorem d_Mo_kidAt_12 : decode b_Mo_kidAt 12 = .ok (.istore 6, 2) := by decide +kernel
theorem d_Mo_kidAt_14 : decode b_Mo_kidAt 14 = .ok (.iload 6, 2) := by decide +kernel
theorem d_Mo_kidAt_16 : decode b_Mo_kidAt 16 = .ok (.ifCond .lt 34, 3) := by decide +kernel
theorem d_Mo_kidAt_19 : decode b_Mo_kidAt 19 = .ok (.lload 4, 2) := by decide +kernel
theorem d_Mo_kidAt_21 : decode b_Mo_kidAt 21 = .ok (.lconst 0, 1) := by decide +kernel
theorem d_Mo_kidAt_22 : decode b_Mo_kidAt 22 = .ok (.lcmp, 1) := by decide +kernel
theorem d_Mo_kidAt_23 : decode b_Mo_kidAt 23 = .ok (.ifCond .ne 6, 3) := by decide +kernel
theorem d_Mo_kidAt_26 : decode b_Mo_kidAt 26 = .ok (.iload 6, 2) := by decide +kernel
theorem d_Mo_kidAt_28 : decode b_Mo_kidAt 28 = .ok (.ireturn, 1) := by decide +kernel
theorem d_Mo_kidAt_29 : decode b_Mo_kidAt 29 = .ok (.lload 4, 2) := by decide +kernel
theorem d_Mo_kidAt_31 : decode b_Mo_kidAt 31 = .ok (.lconst 1, 1) := by decide +kernel
theorem d_Mo_kidAt_32 : decode b_Mo_kidAt 32 = .ok (.lsub, 1) := by decide +kernel
theorem d_Mo_kidAt_33 : decode b_Mo_kidAt 33 = .ok (.lstore 4, 2) := by decide +kernel
theorem d_Mo_kidAt_35 : decode b_Mo_kidAt 35 = .ok (.aload_n 0, 1) := by decide +kernel
theorem d_Mo_kidAt_36 : decode b_Mo_kidAt 36 = .ok (.getfield 45, 3) := by decide +kernel
theorem d_Mo_kidAt_39 : decode b_Mo_kidAt 39 = .ok (.getfield 82, 3) := by decide +kernel
theorem d_Mo_kidAt_42 : decode b_Mo_kidAt 42 = .ok (.iload 6, 2) := by decide +kernel
theorem d_Mo_kidAt_44 : decode b_Mo_kidAt 44 = .ok (.iaload, 1) := by decide +kernel
theorem d_Mo_kidAt_45 : decode b_Mo_kidAt 45 = .ok (.istore 6, 2) := by decide +kernel
theorem d_Mo_kidAt_47 : decode b_Mo_kidAt 47 = .ok (.goto (-33), 3) := by decide +kernel
theorem d_Mo_kidAt_50 : decode b_Mo_kidAt 50 = .ok (.iconst (-1), 1) := by decide +kernel
theorem d_Mo_kidAt_51 : decode b_Mo_kidAt 51 = .ok (.ireturn, 1) := by decide +kernel
set_option maxHeartbeats 4000000 in
set_option maxRecDepth 100000 in
/-- the reference: kidAt -/
theorem c_Mo_kidAt (l : Launch) (dC : Nat → ClassId) (dI : Nat → Nat → Nat) (mo : Nat) (sz : Heap) (v : Nat → Value) (cI : ClassId) (t : Nat) (T : TS) (nd j0 : Nat) (ks : List Nat) (hT : TOK T) (hk : nd < T.ct) (hj : j0 ≤ 1000000000) (hch : chn T.nx T.ct ks (T.ki nd)) (h18 : v 18 = .ref t) : Met l y_Mo_kidAt (k_Mo_kidAt :: gtbl) ({ frames := 0, cells := 0, slots := 0, locals := 0 }) (va_Pc [.ref mo, .int (nI nd), .long (Int64.ofNat j0)] (mp dC dI [(mo, .inr (13, MF 30 v)), (t, .inr (12, MF 13 (tw T))), (T.a4, .inl (cI, T.N, .inl T.ki)), (T.a5, .inl (cI, T.N, .inl T.nx))] [(cI, .int)] sz)) (va_Qi (fun (r : Int32) (_ : Unit) => r = kidV ks j0) (fun _ => mz dC dI [(mo, .inr (13, MF 30 v)), (t, .inr (12, MF 13 (tw T))), (T.a4, .inl (cI, T.N, .inl T.ki)), (T.a5, .inl (cI, T.N, .inl T.nx))] [(cI, .int)] (va_A [(mo, .inr (13, MF 30 v)), (t, .inr (12, MF 13 (tw T))), (T.a4, .inl (cI, T.N, .inl T.ki)), (T.a5, .inl (cI, T.N, .inl T.nx))] sz.size)) (va_A [(mo, .inr (13, MF 30 v)), (t, .inr (12, MF 13 (tw T))), (T.a4, .inl (cI, T.N, .inl T.ki)), (T.a5, .inl (cI, T.N, .inl T.nx))] sz.size)) 0 0 (va_A [(mo, .inr (13, MF 30 v)), (t, .inr (12, MF 13 (tw T))), (T.a4, .inl (cI, T.N, .inl T.ki)), (T.a5, .inl (cI, T.N, .inl T.nx))] sz.size) := by
  refine Met.ofW (cc := b_Mo_kidAt) (maxL := 7) (ret := (some .int)) (by decide) rfl ?_
  intro p e s m args below meth c s₁ B hml hv
  obtain ⟨rfl, hsz, hP, hK, hD0⟩ := hv
  have hx := B.exec
  have hb := B.bytes
  have hr := B.returns
  have hts0 := atoms_spec (ws := k_Mo_kidAt :: gtbl) B.pre
  have hts := fun w h => hts0 w (List.mem_cons_of_mem _ h)
  have hown : s.vm.findClass R_Mo = some m.cls := findClass_of_methodNamed B.named
  have hlocks := B.notSynchronized
  subst hsz
  have hD := hD0.self (sz := s.heap.size)
  generalize hAe : va_A [(mo, .inr (13, MF 30 v)), (t, .inr (12, MF 13 (tw T))), (T.a4, .inl (cI, T.N, .inl T.ki)), (T.a5, .inl (cI, T.N, .inl T.nx))] s.heap.size = A at hD ⊢
  have hA : ∀ q : Nat, s.heap.size ≤ q → A q := fun q h => by rw [← hAe]; exact Or.inr h
  have hS : va_S A s.heap s.heap [] := va_S.rf
  have hP : va_P (dC, dI) classes [(mo, .inr (13, MF 30 v)), (t, .inr (12, MF 13 (tw T))), (T.a4, .inl (cI, T.N, .inl T.ki)), (T.a5, .inl (cI, T.N, .inl T.nx))] s.heap := hP
  have hl := lv_entry ([.ref mo, .int (nI nd), .long (Int64.ofNat j0)]) (n := 7) (Nat.le_of_ble_eq_true rfl)
  rw [lg_entry_eq]
  generalize (lg_sl ([.ref mo, .int (nI nd), .long (Int64.ofNat j0)]) ++ List.replicate (7 - (lg_sl ([.ref mo, .int (nI nd), .long (Int64.ofNat j0)])).length) Slot.unset).toArray = ls at hl ⊢
  have hl : lv_has ls 7 [(0, .ref mo), (1, .int (nI nd)), (2, .long (Int64.ofNat j0))] := hl
  obtain ⟨ho1, ho2, ho3, ho4, ho5, ho6, ho7⟩ := hT
  refine lv_lload_n hx hb d_Mo_kidAt_0 rfl (lv_at hl 2 rfl) ?_
  refine lv_lstore (lv' := [(4, .long (Int64.ofNat j0)), (0, .ref mo), (1, .int (nI nd)), (2, .long (Int64.ofNat j0))]) hx hb d_Mo_kidAt_1 hl (by decide) rfl (fun ls hl => ?_)
  refine lv_aload_n hx hb d_Mo_kidAt_3 rfl (lv_at hl 1 rfl) ?_
  refine va_get (D := (dC, dI)) (ci := 13) (v := .ref t) (C := R_Mo) (T := F_Mo) (N := 30) hx hb hts in_Mo hown hK hP 0 rfl rfl 18 (by decide) (hts _ w_1107) (fun _ h9 => h9) (MFg (by decide) h18) d_Mo_kidAt_4 ?_
  refine va_get (D := (dC, dI)) (ci := 12) (v := .ref T.a4) (C := R_Tree) (T := F_Tree) (N := 13) hx hb hts in_Tree hown hK hP 1 rfl rfl 4 (by decide) (hts _ w_1043) (fun _ h9 => h9) (MFg (by decide) rfl) d_Mo_kidAt_7 ?_
  refine lv_iload_n hx hb d_Mo_kidAt_10 rfl (lv_at hl 2 rfl) ?_
  refine va_iald hx hb hK hP 2 0 rfl rfl (vp_in_nI (show nd < T.N by omega) (by omega)) d_Mo_kidAt_11 ?_
  rw [show (nI nd).toNatClampNeg = nd from nI_clamp (by omega)]
  refine lv_istore (lv' := [(6, .int (T.ki nd)), (4, .long (Int64.ofNat j0)), (0, .ref mo), (1, .int (nI nd)), (2, .long (Int64.ofNat j0))]) hx hb d_Mo_kidAt_12 hl (by decide) rfl (fun ls hl => ?_)
  refine w_loop (D := (dC, dI)) (cl := classes) (A := A) (H0 := s.heap) (nL := 7) 14 (σ := List Nat × Int32 × Nat) (fun ⟨cs, k, j⟩ => chn T.nx T.ct cs k ∧ cs[j]? = ks[j0]? ∧ j ≤ j0) (fun ⟨cs, k, j⟩ => cs.length) (fun ⟨cs, k, j⟩ => [(mo, .inr (13, MF 30 v)), (t, .inr (12, MF 13 (tw T))), (T.a4, .inl (cI, T.N, .inl T.ki)), (T.a5, .inl (cI, T.N, .inl T.nx))]) (fun ⟨cs, k, j⟩ => [(0, .ref mo), (1, .int (nI nd)), (4, .long (Int64.ofNat j)), (6, .int k)]) ?_ (ks, T.ki nd, j0) ⟨hch, rfl, Nat.le_refl _⟩ hP hD hS (lv_sub hl [2, 3, 1, 0] rfl)
  rintro ⟨cs, k, j⟩ H locs ls hI ih hP hD hS hl
  have hP : va_P (dC, dI) classes [(mo, .inr (13, MF 30 v)), (t, .inr (12, MF 13 (tw T))), (T.a4, .inl (cI, T.N, .inl T.ki)), (T.a5, .inl (cI, T.N, .inl T.nx))] H := hP
  have hD : va_D A [(mo, .inr (13, MF 30 v)), (t, .inr (12, MF 13 (tw T))), (T.a4, .inl (cI, T.N, .inl T.ki)), (T.a5, .inl (cI, T.N, .inl T.nx))] := hD
  have hl : lv_has ls 7 [(0, .ref mo), (1, .int (nI nd)), (4, .long (Int64.ofNat j)), (6, .int k)] := hl
  obtain ⟨hc, hI2, hI3⟩ := hI
  refine lv_iload hx hb d_Mo_kidAt_14 (lv_at hl 3 rfl) ?_
  refine lv_if_lt (tgt := 50) hx hb d_Mo_kidAt_16 (by decide) (fun c16 => ?_) (fun c16 => ?_)
  · have hn0 : cs = [] := by cases cs with | nil => rfl | cons a r => exact absurd c16 (by rw [hc.1]; exact nI_pos (by have := hc.2.1; omega))
    refine lv_iconst (v := (-1)) hx hb d_Mo_kidAt_50 (by decide) ?_
    have hfin : (-1 : Int32) = kidV ks j0 := by unfold kidV; rw [← hI2, hn0]; rfl
    exact W.iret (v := -1) hx hb hr (fun t9 ht hW => ⟨⟨-1, (), rfl, hfin, by rw [ht]; exact hP, va_K.moved hW.alike hK, hD⟩, hS.F ht⟩) hS.2.2 d_Mo_kidAt_51
  · obtain ⟨a, r9, hcs⟩ : ∃ a r9, cs = a :: r9 := by cases cs with | nil => exact absurd hc c16 | cons a r => exact ⟨a, r, rfl⟩
    rw [hcs] at hc
    obtain ⟨hc1, hc2, hc3⟩ := hc
    rw [hc1] at hl
    have hl : lv_has ls 7 [(0, .ref mo), (1, .int (nI nd)), (4, .long (Int64.ofNat j)), (6, .int (nI a))] := hl
    refine lv_lload hx hb d_Mo_kidAt_19 (lv_at hl 2 rfl) ?_
    refine lv_lconst (v := 0) hx hb d_Mo_kidAt_21 (by decide) ?_
    refine W.lcmp hx hb d_Mo_kidAt_22 ?_
    refine lv_if_ne (tgt := 29) hx hb d_Mo_kidAt_23 (by decide) (fun c23 => ?_) (fun c23 => ?_)
    · refine lv_lload hx hb d_Mo_kidAt_29 (lv_at hl 2 rfl) ?_
      refine lv_lconst (v := 1) hx hb d_Mo_kidAt_31 (by decide) ?_
      have hj0 : ¬ j = 0 := fun h => c23 ((lg_cmp_eq _ _).mpr ((ofN_0 (by omega)).mpr h))
      obtain ⟨j1, hj1⟩ : ∃ j1, j = j1 + 1 := ⟨j - 1, by omega⟩
      refine lv_lsub hx hb d_Mo_kidAt_32 ?_
      refine W.eq (g2 := F0 m 33 ls [.long (Int64.ofNat j1)]) (by rw [show ((Int64.ofNat j) - 1) = (Int64.ofNat j1) from (by rw [hj1]; exact ofN_pred)]) ?_
      refine lv_lstore (lv' := [(4, .long (Int64.ofNat j1)), (0, .ref mo), (1, .int (nI nd)), (6, .int (nI a))]) hx hb d_Mo_kidAt_33 hl (by decide) rfl (fun ls hl => ?_)
      refine lv_aload_n hx hb d_Mo_kidAt_35 rfl (lv_at hl 1 rfl) ?_
      refine va_get (D := (dC, dI)) (ci := 13) (v := .ref t) (C := R_Mo) (T := F_Mo) (N := 30) hx hb hts in_Mo hown hK hP 0 rfl rfl 18 (by decide) (hts _ w_1107) (fun _ h9 => h9) (MFg (by decide) h18) d_Mo_kidAt_36 ?_
      refine va_get (D := (dC, dI)) (ci := 12) (v := .ref T.a5) (C := R_Tree) (T := F_Tree) (N := 13) hx hb hts in_Tree hown hK hP 1 rfl rfl 5 (by decide) (hts _ w_1045) (fun _ h9 => h9) (MFg (by decide) rfl) d_Mo_kidAt_39 ?_
      refine lv_iload hx hb d_Mo_kidAt_42 (lv_at hl 3 rfl) ?_
      refine va_iald hx hb hK hP 3 0 rfl rfl (vp_in_nI (show a < T.N by omega) (by omega)) d_Mo_kidAt_44 ?_
      rw [show (nI a).toNatClampNeg = a from nI_clamp (by omega)]
      refine lv_istore (lv' := [(6, .int (T.nx a)), (4, .long (Int64.ofNat j1)), (0, .ref mo), (1, .int (nI nd))]) hx hb d_Mo_kidAt_45 hl (by decide) rfl (fun ls hl => ?_)
      refine lv_goto (tgt := 14) hx hb d_Mo_kidAt_47 (by decide) ?_
      exact ih (r9, T.nx a, j1) _ _ _ ⟨hc3, by rw [← hI2, hcs, hj1]; rfl, by omega⟩ (by show r9.length < cs.length; rw [hcs]; simp) hP hD hS (lv_sub hl [2, 3, 1, 0] rfl)
    · refine lv_iload hx hb d_Mo_kidAt_26 (lv_at hl 3 rfl) ?_
      have hj0 : j = 0 := (ofN_0 (by omega)).mp ((lg_cmp_eq _ _).mp c23)
      have hfin : nI a = kidV ks j0 := by unfold kidV; rw [← hI2, hcs, hj0]; rfl
      exact W.iret (v := nI a) hx hb hr (fun t9 ht hW => ⟨⟨nI a, (), rfl, hfin, by rw [ht]; exact hP, va_K.moved hW.alike hK, hD⟩, hS.F ht⟩) hS.2.2 d_Mo_kidAt_28
