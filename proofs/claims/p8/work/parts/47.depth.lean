theorem w_1391 : (.instanceMethod ⟨"QueryBenchModel$Tree", "depth", "(I)I"⟩ : Cond) ∈ gtbl := gt_in 1391 (by decide +kernel) (by decide +kernel)
theorem w_1392 : (.selects "QueryBenchModel$Tree" ⟨"QueryBenchModel$Tree", "depth", "(I)I"⟩ ⟨"QueryBenchModel$Tree", "depth", "(I)I"⟩ : Cond) ∈ gtbl := gt_in 1392 (by decide +kernel) (by decide +kernel)
theorem w_1394 : (.methodLink "QueryBenchModel$Tree" 62 ⟨"QueryBenchModel$Tree", "depth", "(I)I"⟩ : Cond) ∈ gtbl := gt_in 1394 (by decide +kernel) (by decide +kernel)
/-- how deep it is -/
def dpK {β : Type} (dp : β → Nat) : List (List Int32 × β) → Nat
  | [] => 0
  | c :: cs => max (dp c.2) (dpK dp cs)
def dpJ : (r : Nat) → JVt r → Nat
  | 0, _ => 0
  | r + 1, x => if 5 ≤ x.1.1 then dpK (dpJ r) x.2 + 1 else 0
theorem dpK_app {β : Type} (dp : β → Nat) (c : List Int32 × β) : ∀ l : List (List Int32 × β), dpK dp (l ++ [c]) = max (dpK dp l) (dp c.2) := by
  intro l
  induction l with
  | nil => show max (dp c.2) 0 = max 0 (dp c.2); omega
  | cons x l ih =>
    show max (dp x.2) (dpK dp (l ++ [c])) = max (max (dp x.2) (dpK dp l)) (dp c.2)
    rw [ih]
    omega
theorem dpK_le {β : Type} {dp : β → Nat} {m : Nat} (h : ∀ x, dp x ≤ m) : ∀ l : List (List Int32 × β), dpK dp l ≤ m := by
  intro l
  induction l with
  | nil => exact Nat.zero_le _
  | cons x l ih =>
    have := h x.2
    show max (dp x.2) (dpK dp l) ≤ m
    omega
theorem dpJ_le : ∀ (r : Nat) (x : JVt r), dpJ r x ≤ r := by
  intro r
  induction r with
  | zero => intro x; exact Nat.le_refl 0
  | succ r ih =>
    intro x
    have := dpK_le ih x.2
    show (if 5 ≤ x.1.1 then dpK (dpJ r) x.2 + 1 else 0) ≤ r + 1
    split <;> omega
abbrev b_Tree_depth : ByteArray := prog_15_method_12_code
def y_Tree_depth : MethodName := ⟨"QueryBenchModel$Tree", "depth", "(I)I"⟩
abbrev k_Tree_depth : Cond := .code y_Tree_depth b_Tree_depth 5 (some .int)
theorem i_Tree_depth : k_Tree_depth ∈ gtbl := gt_in 1393 (by decide +kernel) (by decide +kernel)
theorem d_Tree_depth_0 : decode b_Tree_depth 0 = .ok (.iconst 0, 1) := by decide +kernel
theorem d_Tree_depth_1 : decode b_Tree_depth 1 = .ok (.istore_n 2, 1) := by decide +kernel
theorem d_Tree_depth_2 : decode b_Tree_depth 2 = .ok (.aload_n 0, 1) := by decide +kernel
theorem d_Tree_depth_3 : decode b_Tree_depth 3 = .ok (.getfield 25, 3) := by decide +kernel
theorem d_Tree_depth_6 : decode b_Tree_depth 6 = .ok (.iload_n 1, 1) := by decide +kernel
theorem d_Tree_depth_7 : decode b_Tree_depth 7 = .ok (.iaload, 1) := by decide +kernel
theorem d_Tree_depth_8 : decode b_Tree_depth 8 = .ok (.istore_n 3, 1) := by decide +kernel
theorem d_Tree_depth_9 : decode b_Tree_depth 9 = .ok (.iload_n 3, 1) := by decide +kernel
theorem d_Tree_depth_10 : decode b_Tree_depth 10 = .ok (.ifCond .lt 29, 3) := by decide +kernel
theorem d_Tree_depth_13 : decode b_Tree_depth 13 = .ok (.aload_n 0, 1) := by decide +kernel
theorem d_Tree_depth_14 : decode b_Tree_depth 14 = .ok (.iload_n 3, 1) := by decide +kernel
theorem d_Tree_depth_15 : decode b_Tree_depth 15 = .ok (.invokevirtual 62, 3) := by decide +kernel
theorem d_Tree_depth_18 : decode b_Tree_depth 18 = .ok (.istore 4, 2) := by decide +kernel
theorem d_Tree_depth_20 : decode b_Tree_depth 20 = .ok (.iload 4, 2) := by decide +kernel
theorem d_Tree_depth_22 : decode b_Tree_depth 22 = .ok (.iload_n 2, 1) := by decide +kernel
theorem d_Tree_depth_23 : decode b_Tree_depth 23 = .ok (.if_icmp .le 6, 3) := by decide +kernel
theorem d_Tree_depth_26 : decode b_Tree_depth 26 = .ok (.iload 4, 2) := by decide +kernel
theorem d_Tree_depth_28 : decode b_Tree_depth 28 = .ok (.istore_n 2, 1) := by decide +kernel
theorem d_Tree_depth_29 : decode b_Tree_depth 29 = .ok (.aload_n 0, 1) := by decide +kernel
theorem d_Tree_depth_30 : decode b_Tree_depth 30 = .ok (.getfield 28, 3) := by decide +kernel
theorem d_Tree_depth_33 : decode b_Tree_depth 33 = .ok (.iload_n 3, 1) := by decide +kernel
theorem d_Tree_depth_34 : decode b_Tree_depth 34 = .ok (.iaload, 1) := by decide +kernel
theorem d_Tree_depth_35 : decode b_Tree_depth 35 = .ok (.istore_n 3, 1) := by decide +kernel
theorem d_Tree_depth_36 : decode b_Tree_depth 36 = .ok (.goto (-27), 3) := by decide +kernel
theorem d_Tree_depth_39 : decode b_Tree_depth 39 = .ok (.aload_n 0, 1) := by decide +kernel
theorem d_Tree_depth_40 : decode b_Tree_depth 40 = .ok (.getfield 9, 3) := by decide +kernel
theorem d_Tree_depth_43 : decode b_Tree_depth 43 = .ok (.iload_n 1, 1) := by decide +kernel
theorem d_Tree_depth_44 : decode b_Tree_depth 44 = .ok (.iaload, 1) := by decide +kernel
theorem d_Tree_depth_45 : decode b_Tree_depth 45 = .ok (.iconst 5, 1) := by decide +kernel
theorem d_Tree_depth_46 : decode b_Tree_depth 46 = .ok (.if_icmp .lt 9, 3) := by decide +kernel
theorem d_Tree_depth_49 : decode b_Tree_depth 49 = .ok (.iload_n 2, 1) := by decide +kernel
theorem d_Tree_depth_50 : decode b_Tree_depth 50 = .ok (.iconst 1, 1) := by decide +kernel
theorem d_Tree_depth_51 : decode b_Tree_depth 51 = .ok (.iadd, 1) := by decide +kernel
theorem d_Tree_depth_52 : decode b_Tree_depth 52 = .ok (.goto 4, 3) := by decide +kernel
theorem d_Tree_depth_55 : decode b_Tree_depth 55 = .ok (.iload_n 2, 1) := by decide +kernel
theorem d_Tree_depth_56 : decode b_Tree_depth 56 = .ok (.ireturn, 1) := by decide +kernel
/-- what depth does, at most r deep -/
def DCc (r : Nat) : Prop := ∀ (l : Launch) (dC : Nat → ClassId) (dI : Nat → Nat → Nat) (t : Nat) (sz : Heap) (cI : ClassId) (T : TS) (a9 e9 : Nat) (x : JVt r), r ≤ 1000 → TOK T → RepV T r a9 e9 x → Met l y_Tree_depth (k_Tree_depth :: gtbl) ({ frames := 1 + r, cells := 0, slots := 0, locals := 30 + 30 * r }) (va_Pc [.ref t, .int (nI a9)] (mp dC dI [(t, .inr (12, MF 13 (tw T))), (T.a0, .inl (cI, T.N, .inl T.kd)), (T.a4, .inl (cI, T.N, .inl T.ki)), (T.a5, .inl (cI, T.N, .inl T.nx))] [(cI, .int)] sz)) (va_Qi (fun (res : Int32) (_ : Unit) => res = nI (dpJ r x)) (fun _ => mz dC dI [(t, .inr (12, MF 13 (tw T))), (T.a0, .inl (cI, T.N, .inl T.kd)), (T.a4, .inl (cI, T.N, .inl T.ki)), (T.a5, .inl (cI, T.N, .inl T.nx))] [(cI, .int)] (va_A [(t, .inr (12, MF 13 (tw T))), (T.a0, .inl (cI, T.N, .inl T.kd)), (T.a4, .inl (cI, T.N, .inl T.ki)), (T.a5, .inl (cI, T.N, .inl T.nx))] sz.size)) (va_A [(t, .inr (12, MF 13 (tw T))), (T.a0, .inl (cI, T.N, .inl T.kd)), (T.a4, .inl (cI, T.N, .inl T.ki)), (T.a5, .inl (cI, T.N, .inl T.nx))] sz.size)) 0 0 (va_A [(t, .inr (12, MF 13 (tw T))), (T.a0, .inl (cI, T.N, .inl T.kd)), (T.a4, .inl (cI, T.N, .inl T.ki)), (T.a5, .inl (cI, T.N, .inl T.nx))] sz.size)
set_option maxHeartbeats 4000000 in
set_option maxRecDepth 100000 in
/-- Tree.depth -/
theorem c_depth0 : DCc 0 := by
  intro l dC dI t sz cI T a9 e9 x hr9 hT hRV
  refine Met.ofW (cc := b_Tree_depth) (maxL := 5) (ret := (some .int)) (by decide) rfl ?_
  intro p e s m args below meth c s₁ B hml hv
  obtain ⟨rfl, hsz, hP, hK, hD0⟩ := hv
  have hx := B.exec
  have hb := B.bytes
  have hr := B.returns
  have hts0 := atoms_spec (ws := k_Tree_depth :: gtbl) B.pre
  have hts := fun w h => hts0 w (List.mem_cons_of_mem _ h)
  have hown : s.vm.findClass R_Tree = some m.cls := findClass_of_methodNamed B.named
  have hlocks := B.notSynchronized
  subst hsz
  have hD := hD0.self (sz := s.heap.size)
  generalize hAe : va_A [(t, .inr (12, MF 13 (tw T))), (T.a0, .inl (cI, T.N, .inl T.kd)), (T.a4, .inl (cI, T.N, .inl T.ki)), (T.a5, .inl (cI, T.N, .inl T.nx))] s.heap.size = A at hD ⊢
  have hA : ∀ q : Nat, s.heap.size ≤ q → A q := fun q h => by rw [← hAe]; exact Or.inr h
  have hS : va_S A s.heap s.heap [] := va_S.rf
  have hP : va_P (dC, dI) classes [(t, .inr (12, MF 13 (tw T))), (T.a0, .inl (cI, T.N, .inl T.kd)), (T.a4, .inl (cI, T.N, .inl T.ki)), (T.a5, .inl (cI, T.N, .inl T.nx))] s.heap := hP
  have hl := lv_entry ([.ref t, .int (nI a9)]) (n := 5) (Nat.le_of_ble_eq_true rfl)
  rw [lg_entry_eq]
  generalize (lg_sl ([.ref t, .int (nI a9)]) ++ List.replicate (5 - (lg_sl ([.ref t, .int (nI a9)])).length) Slot.unset).toArray = ls at hl ⊢
  have hl : lv_has ls 5 [(0, .ref t), (1, .int (nI a9))] := hl
  have hT0 := hT
  obtain ⟨ho1, ho2, ho3, ho4, ho5, ho6, ho7⟩ := hT
  have hlt := RepV_lt hRV
  refine lv_iconst (v := 0) hx hb d_Tree_depth_0 (by decide) ?_
  refine lv_istore_n (lv' := [(2, .int 0), (0, .ref t), (1, .int (nI a9))]) hx hb d_Tree_depth_1 rfl hl (by decide) rfl (fun ls hl => ?_)
  refine lv_aload_n hx hb d_Tree_depth_2 rfl (lv_at hl 1 rfl) ?_
  refine va_get (D := (dC, dI)) (ci := 12) (v := .ref T.a4) (C := R_Tree) (T := F_Tree) (N := 13) hx hb hts in_Tree hown hK hP 0 rfl rfl 4 (by decide) (hts _ w_1042) (fun _ h9 => h9) (MFg (by decide) rfl) d_Tree_depth_3 ?_
  refine lv_iload_n hx hb d_Tree_depth_6 rfl (lv_at hl 2 rfl) ?_
  refine va_iald hx hb hK hP 2 0 rfl rfl (vp_in_nI (show a9 < T.N by omega) (by omega)) d_Tree_depth_7 ?_
  rw [show (nI a9).toNatClampNeg = a9 from nI_clamp (by omega)]
  refine lv_istore_n (lv' := [(3, .int (T.ki a9)), (2, .int 0), (0, .ref t), (1, .int (nI a9))]) hx hb d_Tree_depth_8 rfl hl (by decide) rfl (fun ls hl => ?_)
  have hki := hRV.2.2.2.1
  refine lv_iload_n hx hb d_Tree_depth_9 rfl (lv_at hl 0 rfl) ?_
  rw [hki]
  refine lv_if_lt (tgt := 39) hx hb d_Tree_depth_10 (by decide) (fun _ => ?_) (fun h => absurd (by decide) h)
  refine lv_aload_n hx hb d_Tree_depth_39 rfl (lv_at hl 2 rfl) ?_
  refine va_get (D := (dC, dI)) (ci := 12) (v := .ref T.a0) (C := R_Tree) (T := F_Tree) (N := 13) hx hb hts in_Tree hown hK hP 0 rfl rfl 0 (by decide) (hts _ w_1034) (fun _ h9 => h9) (MFg (by decide) rfl) d_Tree_depth_40 ?_
  refine lv_iload_n hx hb d_Tree_depth_43 rfl (lv_at hl 3 rfl) ?_
  refine va_iald hx hb hK hP 1 0 rfl rfl (vp_in_nI (show a9 < T.N by omega) (by omega)) d_Tree_depth_44 ?_
  rw [show (nI a9).toNatClampNeg = a9 from nI_clamp (by omega)]
  refine lv_iconst (v := 5) hx hb d_Tree_depth_45 (by decide) ?_
  have hk5 : T.kd a9 < 5 := by rw [hRV.2.2.1.1]; have h5 := hRV.2.2.2.2; rw [show (5 : Int32) = nI 5 from rfl, nI_ltI (by omega) (by omega)]; exact h5
  refine lv_icmp_lt (tgt := 55) hx hb d_Tree_depth_46 (by decide) (fun _ => ?_) (fun h => absurd hk5 h)
  refine lv_iload_n hx hb d_Tree_depth_55 rfl (lv_at hl 1 rfl) ?_
  exact W.iret (v := 0) hx hb hr (fun t ht hW => ⟨⟨0, (), rfl, rfl, by rw [ht]; exact hP, va_K.moved hW.alike hK, hD⟩, hS.F ht⟩) hS.2.2 d_Tree_depth_56
set_option maxHeartbeats 4000000 in
set_option maxRecDepth 100000 in
/-- Tree.depth -/
theorem c_depthS (r : Nat) (hDC : DCc r) : DCc (r + 1) := by
  intro l dC dI t sz cI T a9 e9 x hr9 hT hRV
  refine Met.ofW (cc := b_Tree_depth) (maxL := 5) (ret := (some .int)) (by decide) rfl ?_
  intro p e s m args below meth c s₁ B hml hv
  obtain ⟨rfl, hsz, hP, hK, hD0⟩ := hv
  have hx := B.exec
  have hb := B.bytes
  have hr := B.returns
  have hts0 := atoms_spec (ws := k_Tree_depth :: gtbl) B.pre
  have hts := fun w h => hts0 w (List.mem_cons_of_mem _ h)
  have hown : s.vm.findClass R_Tree = some m.cls := findClass_of_methodNamed B.named
  have hlocks := B.notSynchronized
  subst hsz
  have hD := hD0.self (sz := s.heap.size)
  generalize hAe : va_A [(t, .inr (12, MF 13 (tw T))), (T.a0, .inl (cI, T.N, .inl T.kd)), (T.a4, .inl (cI, T.N, .inl T.ki)), (T.a5, .inl (cI, T.N, .inl T.nx))] s.heap.size = A at hD ⊢
  have hA : ∀ q : Nat, s.heap.size ≤ q → A q := fun q h => by rw [← hAe]; exact Or.inr h
  have hS : va_S A s.heap s.heap [] := va_S.rf
  have hP : va_P (dC, dI) classes [(t, .inr (12, MF 13 (tw T))), (T.a0, .inl (cI, T.N, .inl T.kd)), (T.a4, .inl (cI, T.N, .inl T.ki)), (T.a5, .inl (cI, T.N, .inl T.nx))] s.heap := hP
  have hl := lv_entry ([.ref t, .int (nI a9)]) (n := 5) (Nat.le_of_ble_eq_true rfl)
  rw [lg_entry_eq]
  generalize (lg_sl ([.ref t, .int (nI a9)]) ++ List.replicate (5 - (lg_sl ([.ref t, .int (nI a9)])).length) Slot.unset).toArray = ls at hl ⊢
  have hl : lv_has ls 5 [(0, .ref t), (1, .int (nI a9))] := hl
  have hT0 := hT
  obtain ⟨ho1, ho2, ho3, ho4, ho5, ho6, ho7⟩ := hT
  have hlt := RepV_lt hRV
  refine lv_iconst (v := 0) hx hb d_Tree_depth_0 (by decide) ?_
  refine lv_istore_n (lv' := [(2, .int 0), (0, .ref t), (1, .int (nI a9))]) hx hb d_Tree_depth_1 rfl hl (by decide) rfl (fun ls hl => ?_)
  refine lv_aload_n hx hb d_Tree_depth_2 rfl (lv_at hl 1 rfl) ?_
  refine va_get (D := (dC, dI)) (ci := 12) (v := .ref T.a4) (C := R_Tree) (T := F_Tree) (N := 13) hx hb hts in_Tree hown hK hP 0 rfl rfl 4 (by decide) (hts _ w_1042) (fun _ h9 => h9) (MFg (by decide) rfl) d_Tree_depth_3 ?_
  refine lv_iload_n hx hb d_Tree_depth_6 rfl (lv_at hl 2 rfl) ?_
  refine va_iald hx hb hK hP 2 0 rfl rfl (vp_in_nI (show a9 < T.N by omega) (by omega)) d_Tree_depth_7 ?_
  rw [show (nI a9).toNatClampNeg = a9 from nI_clamp (by omega)]
  refine lv_istore_n (lv' := [(3, .int (T.ki a9)), (2, .int 0), (0, .ref t), (1, .int (nI a9))]) hx hb d_Tree_depth_8 rfl hl (by decide) rfl (fun ls hl => ?_)
  have hRV2 := hRV.2.2.2.2
  have hl : lv_has ls 5 [(3, .int (T.ki a9)), (2, .int (nI 0)), (0, .ref t), (1, .int (nI a9))] := hl
  refine w_loop (D := (dC, dI)) (cl := classes) (A := A) (H0 := s.heap) (nL := 5) 9 (σ := Nat × Int32 × List (List Int32 × JVt r) × Nat) (fun ⟨lo, k, cs, dd⟩ => RepK (RepV T r) T (x.1.1 = 6) a9 e9 (-1) lo k cs ∧ max dd (dpK (dpJ r) cs) = dpK (dpJ r) x.2 ∧ (5 ≤ x.1.1 ∨ dd = 0) ∧ (5 ≤ x.1.1 ∨ cs = [])) (fun ⟨lo, k, cs, dd⟩ => cs.length) (fun ⟨lo, k, cs, dd⟩ => [(t, .inr (12, MF 13 (tw T))), (T.a0, .inl (cI, T.N, .inl T.kd)), (T.a4, .inl (cI, T.N, .inl T.ki)), (T.a5, .inl (cI, T.N, .inl T.nx))]) (fun ⟨lo, k, cs, dd⟩ => [(0, .ref t), (1, .int (nI a9)), (2, .int (nI dd)), (3, .int k)]) ?_ (a9 + 1, T.ki a9, x.2, 0) ⟨hRV2, (show max 0 (dpK (dpJ r) x.2) = dpK (dpJ r) x.2 by omega), Or.inr rfl, by rcases Nat.lt_or_ge x.1.1 5 with h | h; exact Or.inr (hRV.2.2.2.1 h); exact Or.inl h⟩ hP hD hS (lv_sub hl [2, 3, 1, 0] rfl)
  rintro ⟨lo, k, cs, dd⟩ H locs ls hI ih hP hD hS hl
  have hP : va_P (dC, dI) classes [(t, .inr (12, MF 13 (tw T))), (T.a0, .inl (cI, T.N, .inl T.kd)), (T.a4, .inl (cI, T.N, .inl T.ki)), (T.a5, .inl (cI, T.N, .inl T.nx))] H := hP
  have hD : va_D A [(t, .inr (12, MF 13 (tw T))), (T.a0, .inl (cI, T.N, .inl T.kd)), (T.a4, .inl (cI, T.N, .inl T.ki)), (T.a5, .inl (cI, T.N, .inl T.nx))] := hD
  have hl : lv_has ls 5 [(0, .ref t), (1, .int (nI a9)), (2, .int (nI dd)), (3, .int k)] := hl
  obtain ⟨hI1, hI2, hI3, hI4⟩ := hI
  have hI2 : max dd (dpK (dpJ r) cs) = dpK (dpJ r) x.2 := hI2
  have hkl := dpK_le (dpJ_le r) x.2
  have hddr : dd ≤ r := by omega
  refine lv_iload_n hx hb d_Tree_depth_9 rfl (lv_at hl 3 rfl) ?_
  refine lv_if_lt (tgt := 39) hx hb d_Tree_depth_10 (by decide) (fun c10 => ?_) (fun c10 => ?_)
  · have hcs0 : cs = [] := by cases cs with | nil => rfl | cons c9 r9 => (obtain ⟨b, eb, hc1, hc2, hc3, hc4, hc5, hc6, hc7⟩ := hI1; have hce := RepV_lt hc6; exact absurd (hc1 ▸ c10) (nI_pos (by omega)))
    rw [hcs0] at hI2
    have hdd0 : dd = dpK (dpJ r) x.2 := by have hI2 : max dd 0 = dpK (dpJ r) x.2 := hI2; omega
    refine lv_aload_n hx hb d_Tree_depth_39 rfl (lv_at hl 0 rfl) ?_
    refine va_get (D := (dC, dI)) (ci := 12) (v := .ref T.a0) (C := R_Tree) (T := F_Tree) (N := 13) hx hb hts in_Tree hown hK hP 0 rfl rfl 0 (by decide) (hts _ w_1034) (fun _ h9 => h9) (MFg (by decide) rfl) d_Tree_depth_40 ?_
    refine lv_iload_n hx hb d_Tree_depth_43 rfl (lv_at hl 1 rfl) ?_
    refine va_iald hx hb hK hP 1 0 rfl rfl (vp_in_nI (show a9 < T.N by omega) (by omega)) d_Tree_depth_44 ?_
    rw [show (nI a9).toNatClampNeg = a9 from nI_clamp (by omega)]
    refine lv_iconst (v := 5) hx hb d_Tree_depth_45 (by decide) ?_
    refine lv_icmp_lt (tgt := 55) hx hb d_Tree_depth_46 (by decide) (fun c46 => ?_) (fun c46 => ?_)
    · refine lv_iload_n hx hb d_Tree_depth_55 rfl (lv_at hl 2 rfl) ?_
      have hkx := hRV.2.2.1.1
      have hk6 := hRV.2.2.1.2.1
      have h5 : ¬ 5 ≤ x.1.1 := by rw [hkx, show (5 : Int32) = nI 5 from rfl, nI_ltI (by omega) (by omega)] at c46; omega
      have hres : dpJ (r + 1) x = dd := by show (if 5 ≤ x.1.1 then dpK (dpJ r) x.2 + 1 else 0) = dd; rw [if_neg h5]; rcases hI3 with h | h; (· exact absurd h h5); (· exact h.symm)
      exact W.iret (v := (nI dd)) hx hb hr (fun t ht hW => ⟨⟨(nI dd), (), rfl, (show nI dd = nI (dpJ (r + 1) x) by rw [hres]), by rw [ht]; exact hP, va_K.moved hW.alike hK, hD⟩, hS.F ht⟩) hS.2.2 d_Tree_depth_56
    · refine lv_iload_n hx hb d_Tree_depth_49 rfl (lv_at hl 2 rfl) ?_
      refine lv_iconst (v := 1) hx hb d_Tree_depth_50 (by decide) ?_
      refine lv_iadd hx hb d_Tree_depth_51 ?_
      refine W.eq (g2 := F0 m 52 ls [.int (nI (dd + 1))]) (by rw [show ((nI dd) + 1) = (nI (dd + 1)) from nI_1 _]) ?_
      refine lv_goto (tgt := 56) hx hb d_Tree_depth_52 (by decide) ?_
      have hkx := hRV.2.2.1.1
      have hk6 := hRV.2.2.1.2.1
      have h5 : 5 ≤ x.1.1 := by rw [hkx, show (5 : Int32) = nI 5 from rfl, nI_ltI (by omega) (by omega)] at c46; omega
      have hres : dpJ (r + 1) x = dd + 1 := by show (if 5 ≤ x.1.1 then dpK (dpJ r) x.2 + 1 else 0) = dd + 1; rw [if_pos h5, hdd0]
      exact W.iret (v := (nI (dd + 1))) hx hb hr (fun t ht hW => ⟨⟨(nI (dd + 1)), (), rfl, (show nI (dd + 1) = nI (dpJ (r + 1) x) by rw [hres]), by rw [ht]; exact hP, va_K.moved hW.alike hK, hD⟩, hS.F ht⟩) hS.2.2 d_Tree_depth_56
  · obtain ⟨c9, cs9, hcs⟩ : ∃ c9 cs9, cs = c9 :: cs9 := by cases cs with | nil => exact absurd (show k < 0 by rw [show k = -1 from hI1]; decide) c10 | cons c9 r9 => exact ⟨c9, r9, rfl⟩
    rw [hcs] at hI1 hI2
    have hI2 : max dd (max (dpJ r c9.2) (dpK (dpJ r) cs9)) = dpK (dpJ r) x.2 := hI2
    obtain ⟨b, eb, hc1, hc2, hc3, hc4, hc5, hc6, hc7⟩ := hI1
    have hce := RepV_lt hc6
    have hl : lv_has ls 5 [(0, .ref t), (1, .int (nI a9)), (2, .int (nI dd)), (3, .int (nI b))] := by rw [hc1] at hl; exact hl
    refine lv_aload_n hx hb d_Tree_depth_13 rfl (lv_at hl 0 rfl) ?_
    refine lv_iload_n hx hb d_Tree_depth_14 rfl (lv_at hl 3 rfl) ?_
    have hPc := hP.sub (ws' := [(t, .inr (12, MF 13 (tw T))), (T.a0, .inl (cI, T.N, .inl T.kd)), (T.a4, .inl (cI, T.N, .inl T.ki)), (T.a5, .inl (cI, T.N, .inl T.nx))]) [0, 1, 2, 3] rfl
    have hDc := hD.sub (ws' := [(t, .inr (12, MF 13 (tw T))), (T.a0, .inl (cI, T.N, .inl T.kd)), (T.a4, .inl (cI, T.N, .inl T.ki)), (T.a5, .inl (cI, T.N, .inl T.nx))]) [0, 1, 2, 3] (by decide) rfl
    have hKc := hK.sub (tys' := [(cI, .int)]) [0] rfl
    have hFc := va_free (wc := [(t, .inr (12, MF 13 (tw T))), (T.a0, .inl (cI, T.N, .inl T.kd)), (T.a4, .inl (cI, T.N, .inl T.ki)), (T.a5, .inl (cI, T.N, .inl T.nx))]) hD hS hA [0, 1, 2, 3] rfl
    refine va_calli (va_runV (As := [.int (nI b)]) (rest := []) ⟨hx, hb, hml, hown, hts⟩ (hDC l dC dI t H cI T b eb c9.2 (by omega) hT0 hc6) (cwV 1 hts (gt_V (own := R_Tree) (C := R_Tree) (i := 62) (y := y_Tree_depth) i_Tree_depth w_1394 w_1391 w_1392 w_8) rfl rfl rfl (by decide +kernel) ⟨by show 1 + r + 1 ≤ 1 + (r + 1); omega, by show 8 + (5 + 11) + (30 + 30 * r) ≤ 30 + 30 * (r + 1); omega⟩) ⟨mp_blind, va_recv hKc hPc (ci := 12) (q0 := 0) rfl rfl, fun U hU hW => ⟨rfl, hU, by rw [hU]; exact hPc, va_K.moved hW.alike hKc, hDc.weaken (fun _ _ _ _ => trivial)⟩⟩ rfl rfl hl.1 rfl (lv_room (Nat.le_of_ble_eq_true rfl)) d_Tree_depth_15 ⟨Nat.le_of_ble_eq_true rfl, Nat.le_of_ble_eq_true rfl⟩) hS (fun q _ h => hFc q h) hFc (fun r0 _u t9 H1 locs ht hvm hw hB hz1 hk1 hS => ?_)
    obtain ⟨hP1, hK1, hD1⟩ := hB
    rw [ht] at hP1
    obtain ⟨hP, hD⟩ := va_join (wr := []) (w1 := [(t, .inr (12, MF 13 (tw T))), (T.a0, .inl (cI, T.N, .inl T.kd)), (T.a4, .inl (cI, T.N, .inl T.ki)), (T.a5, .inl (cI, T.N, .inl T.nx))]) hP hD [0, 1, 2, 3] [] rfl rfl (by decide) (by decide) hk1 hFc hP1 hD1
    generalize H1 = H at hP hS ⊢
    have hP : va_P (dC, dI) classes [(t, .inr (12, MF 13 (tw T))), (T.a0, .inl (cI, T.N, .inl T.kd)), (T.a4, .inl (cI, T.N, .inl T.ki)), (T.a5, .inl (cI, T.N, .inl T.nx))] H := hP
    have hD : va_D A [(t, .inr (12, MF 13 (tw T))), (T.a0, .inl (cI, T.N, .inl T.kd)), (T.a4, .inl (cI, T.N, .inl T.ki)), (T.a5, .inl (cI, T.N, .inl T.nx))] := hD
    obtain ⟨d9, hd0⟩ : ∃ z, z = dpJ r c9.2 := ⟨_, rfl⟩
    have hd1 : r0 = nI d9 := by rw [hd0]; exact hw
    have hd2 : d9 ≤ r := by rw [hd0]; exact dpJ_le r _
    rw [← hd0] at hI2
    subst hd1
    refine lv_istore (lv' := [(4, .int (nI d9)), (0, .ref t), (1, .int (nI a9)), (2, .int (nI dd)), (3, .int (nI b))]) hx hb d_Tree_depth_18 hl (by decide) rfl (fun ls hl => ?_)
    refine lv_iload hx hb d_Tree_depth_20 (lv_at hl 0 rfl) ?_
    refine lv_iload_n hx hb d_Tree_depth_22 rfl (lv_at hl 3 rfl) ?_
    refine lv_icmp_le (tgt := 29) hx hb d_Tree_depth_23 (by decide) (fun c23 => ?_) (fun c23 => ?_)
    · have hc23 : d9 ≤ dd := by rw [nI_leI (by omega) (by omega)] at c23; exact c23
      refine lv_aload_n hx hb d_Tree_depth_29 rfl (lv_at hl 1 rfl) ?_
      refine va_get (D := (dC, dI)) (ci := 12) (v := .ref T.a5) (C := R_Tree) (T := F_Tree) (N := 13) hx hb hts in_Tree hown hK hP 0 rfl rfl 5 (by decide) (hts _ w_1044) (fun _ h9 => h9) (MFg (by decide) rfl) d_Tree_depth_30 ?_
      refine lv_iload_n hx hb d_Tree_depth_33 rfl (lv_at hl 4 rfl) ?_
      refine va_iald hx hb hK hP 3 0 rfl rfl (vp_in_nI (show b < T.N by omega) (by omega)) d_Tree_depth_34 ?_
      rw [show (nI b).toNatClampNeg = b from nI_clamp (by omega)]
      refine lv_istore_n (lv' := [(3, .int (T.nx b)), (4, .int (nI d9)), (0, .ref t), (1, .int (nI a9)), (2, .int (nI dd))]) hx hb d_Tree_depth_35 rfl hl (by decide) rfl (fun ls hl => ?_)
      refine lv_goto (tgt := 9) hx hb d_Tree_depth_36 (by decide) ?_
      exact ih (eb, T.nx b, cs9, dd) _ _ _ ⟨hc7, (show max dd (dpK (dpJ r) cs9) = dpK (dpJ r) x.2 by omega), Or.inl (by rcases hI4 with h | h; exact h; exact absurd h (by rw [hcs]; simp)), Or.inl (by rcases hI4 with h | h; exact h; exact absurd h (by rw [hcs]; simp))⟩ (by show cs9.length < cs.length; rw [hcs]; simp) hP hD hS (lv_sub hl [2, 3, 4, 0] rfl)
    · have hc23 : ¬ d9 ≤ dd := by rw [nI_leI (by omega) (by omega)] at c23; exact c23
      refine lv_iload hx hb d_Tree_depth_26 (lv_at hl 0 rfl) ?_
      refine lv_istore_n (lv' := [(2, .int (nI d9)), (4, .int (nI d9)), (0, .ref t), (1, .int (nI a9)), (3, .int (nI b))]) hx hb d_Tree_depth_28 rfl hl (by decide) rfl (fun ls hl => ?_)
      refine lv_aload_n hx hb d_Tree_depth_29 rfl (lv_at hl 2 rfl) ?_
      refine va_get (D := (dC, dI)) (ci := 12) (v := .ref T.a5) (C := R_Tree) (T := F_Tree) (N := 13) hx hb hts in_Tree hown hK hP 0 rfl rfl 5 (by decide) (hts _ w_1044) (fun _ h9 => h9) (MFg (by decide) rfl) d_Tree_depth_30 ?_
      refine lv_iload_n hx hb d_Tree_depth_33 rfl (lv_at hl 4 rfl) ?_
      refine va_iald hx hb hK hP 3 0 rfl rfl (vp_in_nI (show b < T.N by omega) (by omega)) d_Tree_depth_34 ?_
      rw [show (nI b).toNatClampNeg = b from nI_clamp (by omega)]
      refine lv_istore_n (lv' := [(3, .int (T.nx b)), (2, .int (nI d9)), (4, .int (nI d9)), (0, .ref t), (1, .int (nI a9))]) hx hb d_Tree_depth_35 rfl hl (by decide) rfl (fun ls hl => ?_)
      refine lv_goto (tgt := 9) hx hb d_Tree_depth_36 (by decide) ?_
      exact ih (eb, T.nx b, cs9, d9) _ _ _ ⟨hc7, (show max d9 (dpK (dpJ r) cs9) = dpK (dpJ r) x.2 by omega), Or.inl (by rcases hI4 with h | h; exact h; exact absurd h (by rw [hcs]; simp)), Or.inl (by rcases hI4 with h | h; exact h; exact absurd h (by rw [hcs]; simp))⟩ (by show cs9.length < cs.length; rw [hcs]; simp) hP hD hS (lv_sub hl [3, 4, 1, 0] rfl)
theorem c_DC : ∀ r : Nat, DCc r := by
  intro r
  induction r with
  | zero => exact c_depth0
  | succ r ih => exact c_depthS r ih
theorem asc_all : ∀ m : Nat, m < 127 → vp_nar .byte ((nI m).toInt8.toInt32) = nI m ∧ nI m &&& 255 = nI m := by decide +kernel
theorem asc_b {x : Int32} (h : 0 ≤ x ∧ x ≤ 126) : vp_nar .byte (x.toInt8.toInt32) = x ∧ x &&& 255 = x := by
  obtain ⟨m, hm, rfl⟩ := i32_lit h.1 (show x ≤ nI 126 from h.2) (by decide)
  exact asc_all m (by omega)
theorem penL_get : ∀ (l : List Int32) (k : Nat) (o : Int32) (g : Nat → Int32), k + l.length ≤ 16384 → ∃ g', penL (k, o, g) l = (k + l.length, o, g') ∧ (∀ j, j < k → g' j = g j) ∧ ∀ j, j < l.length → g' (k + j) = vp_nar .byte ((l.getD j 0).toInt8.toInt32) := by
  intro l
  induction l with
  | nil => intro k o g _; exact ⟨g, rfl, fun _ _ => rfl, fun j hj => absurd hj (Nat.not_lt_zero _)⟩
  | cons x l ih =>
    intro k o g h
    simp only [List.length_cons] at h
    have e : pen1 (k, o, g) x = (k + 1, o, upd g k (vp_nar .byte (x.toInt8.toInt32))) := by unfold pen1; rw [if_pos (by show k < 16384; omega)]
    obtain ⟨g', h1, h2, h3⟩ := ih (k + 1) o (upd g k (vp_nar .byte (x.toInt8.toInt32))) (by omega)
    refine ⟨g', ?_, fun j hj => by rw [h2 j (by omega), pk_un (by omega)], fun j hj => ?_⟩
    · show penL (pen1 (k, o, g) x) l = _
      rw [e, h1, List.length_cons, show k + 1 + l.length = k + (l.length + 1) by omega]
    · cases j with
      | zero => rw [Nat.add_zero, h2 k (by omega), pk_us]; rfl
      | succ j =>
        rw [show k + (j + 1) = k + 1 + j by omega, h3 j (by simp only [List.length_cons] at hj; omega)]
        rfl
theorem At_of {f : Nat → Int32} {n : Nat} : ∀ (l : List Int32) (i : Nat), i + l.length ≤ n → (∀ y, y ∈ l → 0 ≤ y ∧ y ≤ 126) → (∀ j, j < l.length → f (i + j) = l.getD j 0) → At f n i l := by
  intro l
  induction l with
  | nil => intro i _ _ _; trivial
  | cons x l ih =>
    intro i h1 h2 h3
    have e : f i = x := h3 0 (by simp)
    simp only [List.length_cons] at h1
    refine ⟨?_, e, ih (i + 1) (by omega) (fun y hy => h2 y (by simp [hy])) (fun j hj => ?_)⟩
    · unfold hereV
      rw [if_pos (by omega), e]
      exact (asc_b (h2 x (by simp))).2
    · have := h3 (j + 1) (by simp only [List.length_cons]; omega)
      rw [show i + 1 + j = i + (j + 1) by omega, this]
      rfl
/-- a held document: its text is read again -/
def HOK (f : Nat → Int32) (n : Nat) : Prop := n ≤ 4096 ∧ ∃ x, pR f n = some x
theorem held_ok {f g : Nat → Int32} {n : Nat} {x : JVt 32} {og : Nat → Int32} (hn : n ≤ 4096) (h : pR f n = some x) (hg : ∀ j, j < (prV 32 x).length → g j = (penL (0, 0, og) (prV 32 x)).2.2 j) : HOK g (prV 32 x).length ∧ (penL (0, 0, og) (prV 32 x)).1 = (prV 32 x).length := by
  obtain ⟨h1, h2, h3⟩ := pR_ok h
  obtain ⟨g', e1, e2, e3⟩ := penL_get (prV 32 x) 0 0 og (by omega)
  have ha := prV_asc 32 x h1
  refine ⟨⟨by omega, x, pR_pr h1 rfl (At_of _ 0 (by omega) ha (fun j hj => ?_))⟩, by rw [e1]; exact Nat.zero_add _⟩
  rw [Nat.zero_add, hg j hj, e1]
  have := e3 j hj
  rw [Nat.zero_add] at this
  show g' j = _
  rw [this]
  refine (asc_b (ha _ ?_)).1
  rw [List.getD_eq_getElem?_getD, List.getElem?_eq_getElem hj]
  exact List.getElem_mem _
/-- what is held is read again as what it was -/
theorem held_eq {f g : Nat → Int32} {n : Nat} {x : JVt 32} {og : Nat → Int32} (hn : n ≤ 4096) (h : pR f n = some x) (hg : ∀ j, j < (prV 32 x).length → g j = (penL (0, 0, og) (prV 32 x)).2.2 j) : pR g (prV 32 x).length = some x := by
  obtain ⟨h1, h2, h3⟩ := pR_ok h
  obtain ⟨g', e1, e2, e3⟩ := penL_get (prV 32 x) 0 0 og (by omega)
  have ha := prV_asc 32 x h1
  refine pR_pr h1 rfl (At_of _ 0 (by omega) ha (fun j hj => ?_))
  rw [Nat.zero_add, hg j hj, e1]
  have := e3 j hj
  rw [Nat.zero_add] at this
  show g' j = _
  rw [this]
  refine (asc_b (ha _ ?_)).1
  rw [List.getD_eq_getElem?_getD, List.getElem?_eq_getElem hj]
  exact List.getElem_mem _
