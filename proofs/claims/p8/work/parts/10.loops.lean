theorem w_45 : (.fieldLink "QueryBench$Tape" 15 "QueryBench$Tape" "units" "[I" : Cond) ∈ gtbl := gt_in 45 (by decide +kernel) (by decide +kernel)
theorem w_46 : (.fieldLink "QueryBench$Tape" 70 "QueryBench$Tape" "unitCount" "I" : Cond) ∈ gtbl := gt_in 46 (by decide +kernel) (by decide +kernel)
/-- a loop: from its head, by a measure that falls -/
theorem w_loop {p : Program} {l : Launch} {e : Env} {R : Room} {s : State} {m : MethodId} {args : Array Value} {below : List Frame} {meth : Method} {c : Code} {Q : State → Prop} {cells slots nL : Nat} {A : Nat → Prop} {H0 : Heap} {D : va_G} {cl : List vw_C} (pc : Nat) {σ : Type} (Inv : σ → Prop) (ms : σ → Nat) (ws : σ → va_W) (lv : σ → List (Nat × Value))
    (step : ∀ (x : σ) (H : Heap) (locs : List Loc) (ls : Array Slot), Inv x → (∀ (y : σ) (H : Heap) (locs : List Loc) (ls : Array Slot), Inv y → ms y < ms x → va_P D cl (ws y) H → va_D A (ws y) → va_S A H0 H locs → lv_has ls nL (lv y) → W p l e R s m args below meth c H locs cells slots Q (F0 m pc ls [])) → va_P D cl (ws x) H → va_D A (ws x) → va_S A H0 H locs → lv_has ls nL (lv x) → W p l e R s m args below meth c H locs cells slots Q (F0 m pc ls []))
    (x : σ) {H : Heap} {locs : List Loc} {ls : Array Slot} (h : Inv x) (hP : va_P D cl (ws x) H) (hD : va_D A (ws x)) (hS : va_S A H0 H locs) (hl : lv_has ls nL (lv x)) : W p l e R s m args below meth c H locs cells slots Q (F0 m pc ls []) := by
  have key : ∀ (k : Nat) (x : σ), ms x < k → ∀ (H : Heap) (locs : List Loc) (ls : Array Slot), Inv x → va_P D cl (ws x) H → va_D A (ws x) → va_S A H0 H locs → lv_has ls nL (lv x) → W p l e R s m args below meth c H locs cells slots Q (F0 m pc ls []) := by
    intro k
    induction k with
    | zero => intro x hx; exact absurd hx (Nat.not_lt_zero _)
    | succ k ih =>
      intro x hx H locs ls hI hP hD hS hl
      exact step x H locs ls hI (fun y H locs ls hy hm => ih y (by omega) H locs ls hy) hP hD hS hl
  exact key (ms x + 1) x (Nat.lt_succ_self _) H locs ls h hP hD hS hl
def blk (x : Int32) : Bool := x = 32 || x = 9 || x = 10 || x = 13
def skB (f : Nat → Int32) (n : Nat) : Nat → Nat → Nat
  | 0, j => j
  | k + 1, j => if j < n ∧ blk (f j) = true then skB f n k (j + 1) else j
/-- behind the blanks -/
def skipB (f : Nat → Int32) (n i : Nat) : Nat := skB f n (n - i) i
theorem skipB_s {f : Nat → Int32} {n i : Nat} (h : i < n) (hb : blk (f i) = true) : skipB f n i = skipB f n (i + 1) := by
  unfold skipB
  rw [show n - i = (n - (i + 1)) + 1 by omega]
  simp [skB, h, hb]
theorem skipB_e {f : Nat → Int32} {n i : Nat} (h : ¬ (i < n ∧ blk (f i) = true)) : skipB f n i = i := by
  unfold skipB
  cases hk : n - i with
  | zero => rfl
  | succ k => simp only [skB]; rw [if_neg h]
theorem skB_le (f : Nat → Int32) (n : Nat) : ∀ (k j : Nat), j ≤ skB f n k j ∧ skB f n k j ≤ max j n := by
  intro k
  induction k with
  | zero => intro j; simp only [skB]; omega
  | succ k ih =>
    intro j
    simp only [skB]
    split
    · next h => have := ih (j + 1); omega
    · omega
theorem skipB_le (f : Nat → Int32) (n i : Nat) : i ≤ skipB f n i ∧ skipB f n i ≤ max i n := skB_le f n _ i
def byteV (f : Nat → Int32) (n i : Nat) : Int32 := if i < n then f i else -1
def hexV (x : Int32) : Int32 := if ¬ x < 48 ∧ ¬ 57 < x then x - 48 else if ¬ x < 97 ∧ ¬ 102 < x then x - 97 + 10 else if ¬ x < 65 ∧ ¬ 70 < x then x - 65 + 10 else -1
def hex4 (f : Nat → Int32) (n : Nat) : Nat → Nat → Int32 → Int32 × Nat
  | 0, j, a => (a, j)
  | k + 1, j, a => if 0 ≤ hexV (byteV f n j) then hex4 f n k (j + 1) (a * 16 + hexV (byteV f n j)) else (-1, j)
theorem hex4_s {f : Nat → Int32} {n k j : Nat} {a d : Int32} (hd : hexV (byteV f n j) = d) (h : 0 ≤ d) : hex4 f n (k + 1) j a = hex4 f n k (j + 1) (a * 16 + d) := by
  subst hd; simp only [hex4]; rw [if_pos h]
theorem hex4_f {f : Nat → Int32} {n k j : Nat} {a d : Int32} (hd : hexV (byteV f n j) = d) (h : ¬ 0 ≤ d) : hex4 f n (k + 1) j a = (-1, j) := by
  subst hd; simp only [hex4]; rw [if_neg h]
abbrev b_Tape_skipBlanks : ByteArray := prog_10_method_9_code
def y_Tape_skipBlanks : MethodName := ⟨"QueryBench$Tape", "skipBlanks", "()V"⟩
abbrev k_Tape_skipBlanks : Cond := .code y_Tape_skipBlanks b_Tape_skipBlanks 2 none
theorem i_Tape_skipBlanks : k_Tape_skipBlanks ∈ gtbl := gt_in 301 (by decide +kernel) (by decide +kernel)
theorem d_Tape_skipBlanks_0 : decode b_Tape_skipBlanks 0 = .ok (.aload_n 0, 1) := by decide +kernel
theorem d_Tape_skipBlanks_1 : decode b_Tape_skipBlanks 1 = .ok (.getfield 29, 3) := by decide +kernel
theorem d_Tape_skipBlanks_4 : decode b_Tape_skipBlanks 4 = .ok (.aload_n 0, 1) := by decide +kernel
theorem d_Tape_skipBlanks_5 : decode b_Tape_skipBlanks 5 = .ok (.getfield 26, 3) := by decide +kernel
theorem d_Tape_skipBlanks_8 : decode b_Tape_skipBlanks 8 = .ok (.if_icmp .ge 51, 3) := by decide +kernel
theorem d_Tape_skipBlanks_11 : decode b_Tape_skipBlanks 11 = .ok (.aload_n 0, 1) := by decide +kernel
theorem d_Tape_skipBlanks_12 : decode b_Tape_skipBlanks 12 = .ok (.getfield 9, 3) := by decide +kernel
theorem d_Tape_skipBlanks_15 : decode b_Tape_skipBlanks 15 = .ok (.aload_n 0, 1) := by decide +kernel
theorem d_Tape_skipBlanks_16 : decode b_Tape_skipBlanks 16 = .ok (.getfield 29, 3) := by decide +kernel
theorem d_Tape_skipBlanks_19 : decode b_Tape_skipBlanks 19 = .ok (.baload, 1) := by decide +kernel
theorem d_Tape_skipBlanks_20 : decode b_Tape_skipBlanks 20 = .ok (.istore_n 1, 1) := by decide +kernel
theorem d_Tape_skipBlanks_21 : decode b_Tape_skipBlanks 21 = .ok (.iload_n 1, 1) := by decide +kernel
theorem d_Tape_skipBlanks_22 : decode b_Tape_skipBlanks 22 = .ok (.bipush 32, 2) := by decide +kernel
theorem d_Tape_skipBlanks_24 : decode b_Tape_skipBlanks 24 = .ok (.if_icmp .eq 22, 3) := by decide +kernel
theorem d_Tape_skipBlanks_27 : decode b_Tape_skipBlanks 27 = .ok (.iload_n 1, 1) := by decide +kernel
theorem d_Tape_skipBlanks_28 : decode b_Tape_skipBlanks 28 = .ok (.bipush 9, 2) := by decide +kernel
theorem d_Tape_skipBlanks_30 : decode b_Tape_skipBlanks 30 = .ok (.if_icmp .eq 16, 3) := by decide +kernel
theorem d_Tape_skipBlanks_33 : decode b_Tape_skipBlanks 33 = .ok (.iload_n 1, 1) := by decide +kernel
theorem d_Tape_skipBlanks_34 : decode b_Tape_skipBlanks 34 = .ok (.bipush 10, 2) := by decide +kernel
theorem d_Tape_skipBlanks_36 : decode b_Tape_skipBlanks 36 = .ok (.if_icmp .eq 10, 3) := by decide +kernel
theorem d_Tape_skipBlanks_39 : decode b_Tape_skipBlanks 39 = .ok (.iload_n 1, 1) := by decide +kernel
theorem d_Tape_skipBlanks_40 : decode b_Tape_skipBlanks 40 = .ok (.bipush 13, 2) := by decide +kernel
theorem d_Tape_skipBlanks_42 : decode b_Tape_skipBlanks 42 = .ok (.if_icmp .eq 4, 3) := by decide +kernel
theorem d_Tape_skipBlanks_45 : decode b_Tape_skipBlanks 45 = .ok (.return_, 1) := by decide +kernel
theorem d_Tape_skipBlanks_46 : decode b_Tape_skipBlanks 46 = .ok (.aload_n 0, 1) := by decide +kernel
theorem d_Tape_skipBlanks_47 : decode b_Tape_skipBlanks 47 = .ok (.dup, 1) := by decide +kernel
theorem d_Tape_skipBlanks_48 : decode b_Tape_skipBlanks 48 = .ok (.getfield 29, 3) := by decide +kernel
theorem d_Tape_skipBlanks_51 : decode b_Tape_skipBlanks 51 = .ok (.iconst 1, 1) := by decide +kernel
theorem d_Tape_skipBlanks_52 : decode b_Tape_skipBlanks 52 = .ok (.iadd, 1) := by decide +kernel
theorem d_Tape_skipBlanks_53 : decode b_Tape_skipBlanks 53 = .ok (.putfield 29, 3) := by decide +kernel
theorem d_Tape_skipBlanks_56 : decode b_Tape_skipBlanks 56 = .ok (.goto (-56), 3) := by decide +kernel
theorem d_Tape_skipBlanks_59 : decode b_Tape_skipBlanks 59 = .ok (.return_, 1) := by decide +kernel
set_option maxHeartbeats 4000000 in
set_option maxRecDepth 100000 in
/-- Tape.skipBlanks -/
theorem c_Tape_skipBlanks (l : Launch) (dC : Nat → ClassId) (dI : Nat → Nat → Nat) (cB : ClassId) (h0 qb : Nat) (sz : Heap) (ru : Value) (uc ln pl : Int32) (f : Nat → Int32) (n i : Nat) (hn0 : n ≤ 4096) (hi0 : i ≤ 1000000) : Met l y_Tape_skipBlanks (k_Tape_skipBlanks :: gtbl) ({ frames := 0, cells := 0, slots := 0, locals := 0 }) (va_Pc [.ref h0] (mp dC dI [(h0, .inr (8, [.ref qb, ru, .int uc, .int ln, .int (nI n), .int (nI i), .int pl])), (qb, .inl (cB, 4096, .inl f))] [(cB, .byte)] sz)) (va_Qv (fun (_ : Unit) => True) (fun _ => mz dC dI [(h0, .inr (8, [.ref qb, ru, .int uc, .int ln, .int (nI n), .int (nI (skipB f n i)), .int pl])), (qb, .inl (cB, 4096, .inl f))] [(cB, .byte)] (va_A [(h0, .inr (8, [.ref qb, ru, .int uc, .int ln, .int (nI n), .int (nI i), .int pl])), (qb, .inl (cB, 4096, .inl f))] sz.size)) (va_A [(h0, .inr (8, [.ref qb, ru, .int uc, .int ln, .int (nI n), .int (nI i), .int pl])), (qb, .inl (cB, 4096, .inl f))] sz.size)) 0 0 (va_A [(h0, .inr (8, [.ref qb, ru, .int uc, .int ln, .int (nI n), .int (nI i), .int pl])), (qb, .inl (cB, 4096, .inl f))] sz.size) := by
  refine Met.ofW (cc := b_Tape_skipBlanks) (maxL := 2) (ret := none) (by decide) rfl ?_
  intro p e s m args below meth c s₁ B hml hv
  obtain ⟨rfl, hsz, hP, hK, hD0⟩ := hv
  have hx := B.exec
  have hb := B.bytes
  have hr := B.returns
  have hts0 := atoms_spec (ws := k_Tape_skipBlanks :: gtbl) B.pre
  have hts := fun w h => hts0 w (List.mem_cons_of_mem _ h)
  have hown : s.vm.findClass R_Tape = some m.cls := findClass_of_methodNamed B.named
  have hlocks := B.notSynchronized
  subst hsz
  have hD := hD0.self (sz := s.heap.size)
  generalize hAe : va_A [(h0, .inr (8, [.ref qb, ru, .int uc, .int ln, .int (nI n), .int (nI i), .int pl])), (qb, .inl (cB, 4096, .inl f))] s.heap.size = A at hD ⊢
  have hA : ∀ q : Nat, s.heap.size ≤ q → A q := fun q h => by rw [← hAe]; exact Or.inr h
  have hS : va_S A s.heap s.heap [] := va_S.rf
  have hP : va_P (dC, dI) classes [(h0, .inr (8, [.ref qb, ru, .int uc, .int ln, .int (nI n), .int (nI i), .int pl])), (qb, .inl (cB, 4096, .inl f))] s.heap := hP
  have hl := lv_entry ([.ref h0]) (n := 2) (Nat.le_of_ble_eq_true rfl)
  rw [lg_entry_eq]
  generalize (lg_sl ([.ref h0]) ++ List.replicate (2 - (lg_sl ([.ref h0])).length) Slot.unset).toArray = ls at hl ⊢
  have hl : lv_has ls 2 [(0, .ref h0)] := hl
  refine w_loop (D := (dC, dI)) (cl := classes) (A := A) (H0 := s.heap) (nL := 2) 0 (σ := Nat) (fun j => j ≤ 1000000 + n ∧ skipB f n j = skipB f n i) (fun j => n - j) (fun j => [(h0, .inr (8, [.ref qb, ru, .int uc, .int ln, .int (nI n), .int (nI j), .int pl])), (qb, .inl (cB, 4096, .inl f))]) (fun j => [(0, .ref h0)]) ?_ i ⟨by omega, rfl⟩ hP hD hS (lv_sub hl [0] rfl)
  rintro j H locs ls hI ih hP hD hS hl
  have hP : va_P (dC, dI) classes [(h0, .inr (8, [.ref qb, ru, .int uc, .int ln, .int (nI n), .int (nI j), .int pl])), (qb, .inl (cB, 4096, .inl f))] H := hP
  have hD : va_D A [(h0, .inr (8, [.ref qb, ru, .int uc, .int ln, .int (nI n), .int (nI j), .int pl])), (qb, .inl (cB, 4096, .inl f))] := hD
  have hl : lv_has ls 2 [(0, .ref h0)] := hl
  refine lv_aload_n hx hb d_Tape_skipBlanks_0 rfl (lv_at hl 0 rfl) ?_
  refine va_get (D := (dC, dI)) (ci := 8) (v := .int (nI j)) (C := R_Tape) (T := F_Tape) (N := 7) hx hb hts in_Tape hown hK hP 0 rfl rfl 5 (by decide) (hts _ w_54) (fun _ h9 => h9) rfl d_Tape_skipBlanks_1 ?_
  refine lv_aload_n hx hb d_Tape_skipBlanks_4 rfl (lv_at hl 0 rfl) ?_
  refine va_get (D := (dC, dI)) (ci := 8) (v := .int (nI n)) (C := R_Tape) (T := F_Tape) (N := 7) hx hb hts in_Tape hown hK hP 0 rfl rfl 4 (by decide) (hts _ w_51) (fun _ h9 => h9) rfl d_Tape_skipBlanks_5 ?_
  refine lv_icmp_ge (tgt := 59) hx hb d_Tape_skipBlanks_8 (by decide) (fun c8 => ?_) (fun c8 => ?_)
  · have he : skipB f n i = j := by rw [← hI.2]; exact skipB_e (fun h => absurd c8 (by rw [nI_leI (by omega) (by omega)]; omega))
    exact W.vret hx hb hr (fun t ht hW => ⟨⟨(), rfl, trivial, by rw [ht, he]; exact hP, va_K.moved hW.alike hK, by rw [he]; exact hD⟩, hS.F ht⟩) hS.2.2 d_Tape_skipBlanks_59
  · refine lv_aload_n hx hb d_Tape_skipBlanks_11 rfl (lv_at hl 0 rfl) ?_
    refine va_get (D := (dC, dI)) (ci := 8) (v := .ref qb) (C := R_Tape) (T := F_Tape) (N := 7) hx hb hts in_Tape hown hK hP 0 rfl rfl 0 (by decide) (hts _ w_43) (fun _ h9 => h9) rfl d_Tape_skipBlanks_12 ?_
    refine lv_aload_n hx hb d_Tape_skipBlanks_15 rfl (lv_at hl 0 rfl) ?_
    refine va_get (D := (dC, dI)) (ci := 8) (v := .int (nI j)) (C := R_Tape) (T := F_Tape) (N := 7) hx hb hts in_Tape hown hK hP 0 rfl rfl 5 (by decide) (hts _ w_54) (fun _ h9 => h9) rfl d_Tape_skipBlanks_16 ?_
    have hj : j < n := by rw [nI_leI (by omega) (by omega)] at c8; omega
    refine va_bald hx hb hK hP 1 0 rfl rfl (vp_in_nI (show j < 4096 by omega) (by decide)) d_Tape_skipBlanks_19 ?_
    rw [show (nI j).toNatClampNeg = j from nI_clamp (by omega)]
    refine lv_istore_n (lv' := [(1, .int (f j)), (0, .ref h0)]) hx hb d_Tape_skipBlanks_20 rfl hl (by decide) rfl (fun ls hl => ?_)
    refine lv_iload_n hx hb d_Tape_skipBlanks_21 rfl (lv_at hl 0 rfl) ?_
    refine lv_bipush (v := 32) hx hb d_Tape_skipBlanks_22 (by decide) ?_
    refine lv_icmp_eq (tgt := 46) hx hb d_Tape_skipBlanks_24 (by decide) (fun c24 => ?_) (fun c24 => ?_)
    · refine lv_aload_n hx hb d_Tape_skipBlanks_46 rfl (lv_at hl 1 rfl) ?_
      refine lv_dup hx hb d_Tape_skipBlanks_47 rfl ?_
      refine va_get (D := (dC, dI)) (ci := 8) (v := .int (nI j)) (C := R_Tape) (T := F_Tape) (N := 7) hx hb hts in_Tape hown hK hP 0 rfl rfl 5 (by decide) (hts _ w_54) (fun _ h9 => h9) rfl d_Tape_skipBlanks_48 ?_
      refine lv_iconst (v := 1) hx hb d_Tape_skipBlanks_51 (by decide) ?_
      refine lv_iadd hx hb d_Tape_skipBlanks_52 ?_
      refine W.eq (g2 := F0 m 53 ls [.int (nI (j + 1)), .ref h0]) (by rw [show ((nI j) + 1) = (nI (j + 1)) from nI_1 _]) ?_
      refine va_put (D := (dC, dI)) (ci := 8) (v := .int (nI (j + 1))) (ty := .int) (C := R_Tape) (T := F_Tape) (N := 7) hx hb hts in_Tape t_Tape t_Tape_ok n_Tape hown hK hP hD hS 0 rfl rfl 5 (by decide) (hts _ w_54) (fun _ h9 => h9) rfl (by decide +kernel) rfl rfl (Nat.le_of_ble_eq_true rfl) d_Tape_skipBlanks_53 (fun H locs hP hD hS => ?_)
      have hP : va_P (dC, dI) classes [(h0, .inr (8, [.ref qb, ru, .int uc, .int ln, .int (nI n), .int (nI (j + 1)), .int pl])), (qb, .inl (cB, 4096, .inl f))] H := hP
      have hD : va_D A [(h0, .inr (8, [.ref qb, ru, .int uc, .int ln, .int (nI n), .int (nI (j + 1)), .int pl])), (qb, .inl (cB, 4096, .inl f))] := hD
      refine lv_goto (tgt := 0) hx hb d_Tape_skipBlanks_56 (by decide) ?_
      exact ih (j + 1) _ _ _ ⟨by omega, by rw [← hI.2]; exact (skipB_s hj (by unfold blk; simp [c24])).symm⟩ (by show n - (j + 1) < n - j; omega) hP hD hS (lv_sub hl [1] rfl)
    · refine lv_iload_n hx hb d_Tape_skipBlanks_27 rfl (lv_at hl 0 rfl) ?_
      refine lv_bipush (v := 9) hx hb d_Tape_skipBlanks_28 (by decide) ?_
      refine lv_icmp_eq (tgt := 46) hx hb d_Tape_skipBlanks_30 (by decide) (fun c30 => ?_) (fun c30 => ?_)
      · refine lv_aload_n hx hb d_Tape_skipBlanks_46 rfl (lv_at hl 1 rfl) ?_
        refine lv_dup hx hb d_Tape_skipBlanks_47 rfl ?_
        refine va_get (D := (dC, dI)) (ci := 8) (v := .int (nI j)) (C := R_Tape) (T := F_Tape) (N := 7) hx hb hts in_Tape hown hK hP 0 rfl rfl 5 (by decide) (hts _ w_54) (fun _ h9 => h9) rfl d_Tape_skipBlanks_48 ?_
        refine lv_iconst (v := 1) hx hb d_Tape_skipBlanks_51 (by decide) ?_
        refine lv_iadd hx hb d_Tape_skipBlanks_52 ?_
        refine W.eq (g2 := F0 m 53 ls [.int (nI (j + 1)), .ref h0]) (by rw [show ((nI j) + 1) = (nI (j + 1)) from nI_1 _]) ?_
        refine va_put (D := (dC, dI)) (ci := 8) (v := .int (nI (j + 1))) (ty := .int) (C := R_Tape) (T := F_Tape) (N := 7) hx hb hts in_Tape t_Tape t_Tape_ok n_Tape hown hK hP hD hS 0 rfl rfl 5 (by decide) (hts _ w_54) (fun _ h9 => h9) rfl (by decide +kernel) rfl rfl (Nat.le_of_ble_eq_true rfl) d_Tape_skipBlanks_53 (fun H locs hP hD hS => ?_)
        have hP : va_P (dC, dI) classes [(h0, .inr (8, [.ref qb, ru, .int uc, .int ln, .int (nI n), .int (nI (j + 1)), .int pl])), (qb, .inl (cB, 4096, .inl f))] H := hP
        have hD : va_D A [(h0, .inr (8, [.ref qb, ru, .int uc, .int ln, .int (nI n), .int (nI (j + 1)), .int pl])), (qb, .inl (cB, 4096, .inl f))] := hD
        refine lv_goto (tgt := 0) hx hb d_Tape_skipBlanks_56 (by decide) ?_
        exact ih (j + 1) _ _ _ ⟨by omega, by rw [← hI.2]; exact (skipB_s hj (by unfold blk; simp [c24, c30])).symm⟩ (by show n - (j + 1) < n - j; omega) hP hD hS (lv_sub hl [1] rfl)
      · refine lv_iload_n hx hb d_Tape_skipBlanks_33 rfl (lv_at hl 0 rfl) ?_
        refine lv_bipush (v := 10) hx hb d_Tape_skipBlanks_34 (by decide) ?_
        refine lv_icmp_eq (tgt := 46) hx hb d_Tape_skipBlanks_36 (by decide) (fun c36 => ?_) (fun c36 => ?_)
        · refine lv_aload_n hx hb d_Tape_skipBlanks_46 rfl (lv_at hl 1 rfl) ?_
          refine lv_dup hx hb d_Tape_skipBlanks_47 rfl ?_
          refine va_get (D := (dC, dI)) (ci := 8) (v := .int (nI j)) (C := R_Tape) (T := F_Tape) (N := 7) hx hb hts in_Tape hown hK hP 0 rfl rfl 5 (by decide) (hts _ w_54) (fun _ h9 => h9) rfl d_Tape_skipBlanks_48 ?_
          refine lv_iconst (v := 1) hx hb d_Tape_skipBlanks_51 (by decide) ?_
          refine lv_iadd hx hb d_Tape_skipBlanks_52 ?_
          refine W.eq (g2 := F0 m 53 ls [.int (nI (j + 1)), .ref h0]) (by rw [show ((nI j) + 1) = (nI (j + 1)) from nI_1 _]) ?_
          refine va_put (D := (dC, dI)) (ci := 8) (v := .int (nI (j + 1))) (ty := .int) (C := R_Tape) (T := F_Tape) (N := 7) hx hb hts in_Tape t_Tape t_Tape_ok n_Tape hown hK hP hD hS 0 rfl rfl 5 (by decide) (hts _ w_54) (fun _ h9 => h9) rfl (by decide +kernel) rfl rfl (Nat.le_of_ble_eq_true rfl) d_Tape_skipBlanks_53 (fun H locs hP hD hS => ?_)
          have hP : va_P (dC, dI) classes [(h0, .inr (8, [.ref qb, ru, .int uc, .int ln, .int (nI n), .int (nI (j + 1)), .int pl])), (qb, .inl (cB, 4096, .inl f))] H := hP
          have hD : va_D A [(h0, .inr (8, [.ref qb, ru, .int uc, .int ln, .int (nI n), .int (nI (j + 1)), .int pl])), (qb, .inl (cB, 4096, .inl f))] := hD
          refine lv_goto (tgt := 0) hx hb d_Tape_skipBlanks_56 (by decide) ?_
          exact ih (j + 1) _ _ _ ⟨by omega, by rw [← hI.2]; exact (skipB_s hj (by unfold blk; simp [c24, c30, c36])).symm⟩ (by show n - (j + 1) < n - j; omega) hP hD hS (lv_sub hl [1] rfl)
        · refine lv_iload_n hx hb d_Tape_skipBlanks_39 rfl (lv_at hl 0 rfl) ?_
          refine lv_bipush (v := 13) hx hb d_Tape_skipBlanks_40 (by decide) ?_
          refine lv_icmp_eq (tgt := 46) hx hb d_Tape_skipBlanks_42 (by decide) (fun c42 => ?_) (fun c42 => ?_)
          · refine lv_aload_n hx hb d_Tape_skipBlanks_46 rfl (lv_at hl 1 rfl) ?_
            refine lv_dup hx hb d_Tape_skipBlanks_47 rfl ?_
            refine va_get (D := (dC, dI)) (ci := 8) (v := .int (nI j)) (C := R_Tape) (T := F_Tape) (N := 7) hx hb hts in_Tape hown hK hP 0 rfl rfl 5 (by decide) (hts _ w_54) (fun _ h9 => h9) rfl d_Tape_skipBlanks_48 ?_
            refine lv_iconst (v := 1) hx hb d_Tape_skipBlanks_51 (by decide) ?_
            refine lv_iadd hx hb d_Tape_skipBlanks_52 ?_
            refine W.eq (g2 := F0 m 53 ls [.int (nI (j + 1)), .ref h0]) (by rw [show ((nI j) + 1) = (nI (j + 1)) from nI_1 _]) ?_
            refine va_put (D := (dC, dI)) (ci := 8) (v := .int (nI (j + 1))) (ty := .int) (C := R_Tape) (T := F_Tape) (N := 7) hx hb hts in_Tape t_Tape t_Tape_ok n_Tape hown hK hP hD hS 0 rfl rfl 5 (by decide) (hts _ w_54) (fun _ h9 => h9) rfl (by decide +kernel) rfl rfl (Nat.le_of_ble_eq_true rfl) d_Tape_skipBlanks_53 (fun H locs hP hD hS => ?_)
            have hP : va_P (dC, dI) classes [(h0, .inr (8, [.ref qb, ru, .int uc, .int ln, .int (nI n), .int (nI (j + 1)), .int pl])), (qb, .inl (cB, 4096, .inl f))] H := hP
            have hD : va_D A [(h0, .inr (8, [.ref qb, ru, .int uc, .int ln, .int (nI n), .int (nI (j + 1)), .int pl])), (qb, .inl (cB, 4096, .inl f))] := hD
            refine lv_goto (tgt := 0) hx hb d_Tape_skipBlanks_56 (by decide) ?_
            exact ih (j + 1) _ _ _ ⟨by omega, by rw [← hI.2]; exact (skipB_s hj (by unfold blk; simp [c24, c30, c36, c42])).symm⟩ (by show n - (j + 1) < n - j; omega) hP hD hS (lv_sub hl [1] rfl)
          · have he : skipB f n i = j := by rw [← hI.2]; exact skipB_e (fun h => by have h2 := h.2; unfold blk at h2; simp [c24, c30, c36, c42] at h2)
            exact W.vret hx hb hr (fun t ht hW => ⟨⟨(), rfl, trivial, by rw [ht, he]; exact hP, va_K.moved hW.alike hK, by rw [he]; exact hD⟩, hS.F ht⟩) hS.2.2 d_Tape_skipBlanks_45
abbrev b_Tape_fourHexDigits : ByteArray := prog_10_method_15_code
def y_Tape_fourHexDigits : MethodName := ⟨"QueryBench$Tape", "fourHexDigits", "()I"⟩
abbrev k_Tape_fourHexDigits : Cond := .code y_Tape_fourHexDigits b_Tape_fourHexDigits 5 (some .int)
theorem i_Tape_fourHexDigits : k_Tape_fourHexDigits ∈ gtbl := gt_in 425 (by decide +kernel) (by decide +kernel)
theorem d_Tape_fourHexDigits_0 : decode b_Tape_fourHexDigits 0 = .ok (.iconst 0, 1) := by decide +kernel
theorem d_Tape_fourHexDigits_1 : decode b_Tape_fourHexDigits 1 = .ok (.istore_n 1, 1) := by decide +kernel
theorem d_Tape_fourHexDigits_2 : decode b_Tape_fourHexDigits 2 = .ok (.iconst 0, 1) := by decide +kernel
theorem d_Tape_fourHexDigits_3 : decode b_Tape_fourHexDigits 3 = .ok (.istore_n 2, 1) := by decide +kernel
theorem d_Tape_fourHexDigits_4 : decode b_Tape_fourHexDigits 4 = .ok (.iload_n 2, 1) := by decide +kernel
theorem d_Tape_fourHexDigits_5 : decode b_Tape_fourHexDigits 5 = .ok (.iconst 4, 1) := by decide +kernel
theorem d_Tape_fourHexDigits_6 : decode b_Tape_fourHexDigits 6 = .ok (.if_icmp .ge 125, 3) := by decide +kernel
theorem d_Tape_fourHexDigits_9 : decode b_Tape_fourHexDigits 9 = .ok (.aload_n 0, 1) := by decide +kernel
theorem d_Tape_fourHexDigits_10 : decode b_Tape_fourHexDigits 10 = .ok (.getfield 29, 3) := by decide +kernel
theorem d_Tape_fourHexDigits_13 : decode b_Tape_fourHexDigits 13 = .ok (.aload_n 0, 1) := by decide +kernel
theorem d_Tape_fourHexDigits_14 : decode b_Tape_fourHexDigits 14 = .ok (.getfield 26, 3) := by decide +kernel
theorem d_Tape_fourHexDigits_17 : decode b_Tape_fourHexDigits 17 = .ok (.if_icmp .ge 15, 3) := by decide +kernel
theorem d_Tape_fourHexDigits_20 : decode b_Tape_fourHexDigits 20 = .ok (.aload_n 0, 1) := by decide +kernel
theorem d_Tape_fourHexDigits_21 : decode b_Tape_fourHexDigits 21 = .ok (.getfield 9, 3) := by decide +kernel
theorem d_Tape_fourHexDigits_24 : decode b_Tape_fourHexDigits 24 = .ok (.aload_n 0, 1) := by decide +kernel
theorem d_Tape_fourHexDigits_25 : decode b_Tape_fourHexDigits 25 = .ok (.getfield 29, 3) := by decide +kernel
theorem d_Tape_fourHexDigits_28 : decode b_Tape_fourHexDigits 28 = .ok (.baload, 1) := by decide +kernel
theorem d_Tape_fourHexDigits_29 : decode b_Tape_fourHexDigits 29 = .ok (.goto 4, 3) := by decide +kernel
theorem d_Tape_fourHexDigits_32 : decode b_Tape_fourHexDigits 32 = .ok (.iconst (-1), 1) := by decide +kernel
theorem d_Tape_fourHexDigits_33 : decode b_Tape_fourHexDigits 33 = .ok (.istore_n 3, 1) := by decide +kernel
theorem d_Tape_fourHexDigits_34 : decode b_Tape_fourHexDigits 34 = .ok (.iload_n 3, 1) := by decide +kernel
theorem d_Tape_fourHexDigits_35 : decode b_Tape_fourHexDigits 35 = .ok (.bipush 48, 2) := by decide +kernel
theorem d_Tape_fourHexDigits_37 : decode b_Tape_fourHexDigits 37 = .ok (.if_icmp .lt 16, 3) := by decide +kernel
theorem d_Tape_fourHexDigits_40 : decode b_Tape_fourHexDigits 40 = .ok (.iload_n 3, 1) := by decide +kernel
theorem d_Tape_fourHexDigits_41 : decode b_Tape_fourHexDigits 41 = .ok (.bipush 57, 2) := by decide +kernel
theorem d_Tape_fourHexDigits_43 : decode b_Tape_fourHexDigits 43 = .ok (.if_icmp .gt 10, 3) := by decide +kernel
theorem d_Tape_fourHexDigits_46 : decode b_Tape_fourHexDigits 46 = .ok (.iload_n 3, 1) := by decide +kernel
theorem d_Tape_fourHexDigits_47 : decode b_Tape_fourHexDigits 47 = .ok (.bipush 48, 2) := by decide +kernel
theorem d_Tape_fourHexDigits_49 : decode b_Tape_fourHexDigits 49 = .ok (.isub, 1) := by decide +kernel
theorem d_Tape_fourHexDigits_50 : decode b_Tape_fourHexDigits 50 = .ok (.goto 48, 3) := by decide +kernel
theorem d_Tape_fourHexDigits_53 : decode b_Tape_fourHexDigits 53 = .ok (.iload_n 3, 1) := by decide +kernel
theorem d_Tape_fourHexDigits_54 : decode b_Tape_fourHexDigits 54 = .ok (.bipush 97, 2) := by decide +kernel
theorem d_Tape_fourHexDigits_56 : decode b_Tape_fourHexDigits 56 = .ok (.if_icmp .lt 19, 3) := by decide +kernel
theorem d_Tape_fourHexDigits_59 : decode b_Tape_fourHexDigits 59 = .ok (.iload_n 3, 1) := by decide +kernel
theorem d_Tape_fourHexDigits_60 : decode b_Tape_fourHexDigits 60 = .ok (.bipush 102, 2) := by decide +kernel
theorem d_Tape_fourHexDigits_62 : decode b_Tape_fourHexDigits 62 = .ok (.if_icmp .gt 13, 3) := by decide +kernel
theorem d_Tape_fourHexDigits_65 : decode b_Tape_fourHexDigits 65 = .ok (.iload_n 3, 1) := by decide +kernel
theorem d_Tape_fourHexDigits_66 : decode b_Tape_fourHexDigits 66 = .ok (.bipush 97, 2) := by decide +kernel
theorem d_Tape_fourHexDigits_68 : decode b_Tape_fourHexDigits 68 = .ok (.isub, 1) := by decide +kernel
theorem d_Tape_fourHexDigits_69 : decode b_Tape_fourHexDigits 69 = .ok (.bipush 10, 2) := by decide +kernel
theorem d_Tape_fourHexDigits_71 : decode b_Tape_fourHexDigits 71 = .ok (.iadd, 1) := by decide +kernel
theorem d_Tape_fourHexDigits_72 : decode b_Tape_fourHexDigits 72 = .ok (.goto 26, 3) := by decide +kernel
theorem d_Tape_fourHexDigits_75 : decode b_Tape_fourHexDigits 75 = .ok (.iload_n 3, 1) := by decide +kernel
theorem d_Tape_fourHexDigits_76 : decode b_Tape_fourHexDigits 76 = .ok (.bipush 65, 2) := by decide +kernel
theorem d_Tape_fourHexDigits_78 : decode b_Tape_fourHexDigits 78 = .ok (.if_icmp .lt 19, 3) := by decide +kernel
theorem d_Tape_fourHexDigits_81 : decode b_Tape_fourHexDigits 81 = .ok (.iload_n 3, 1) := by decide +kernel
theorem d_Tape_fourHexDigits_82 : decode b_Tape_fourHexDigits 82 = .ok (.bipush 70, 2) := by decide +kernel
theorem d_Tape_fourHexDigits_84 : decode b_Tape_fourHexDigits 84 = .ok (.if_icmp .gt 13, 3) := by decide +kernel
theorem d_Tape_fourHexDigits_87 : decode b_Tape_fourHexDigits 87 = .ok (.iload_n 3, 1) := by decide +kernel
theorem d_Tape_fourHexDigits_88 : decode b_Tape_fourHexDigits 88 = .ok (.bipush 65, 2) := by decide +kernel
theorem d_Tape_fourHexDigits_90 : decode b_Tape_fourHexDigits 90 = .ok (.isub, 1) := by decide +kernel
theorem d_Tape_fourHexDigits_91 : decode b_Tape_fourHexDigits 91 = .ok (.bipush 10, 2) := by decide +kernel
theorem d_Tape_fourHexDigits_93 : decode b_Tape_fourHexDigits 93 = .ok (.iadd, 1) := by decide +kernel
theorem d_Tape_fourHexDigits_94 : decode b_Tape_fourHexDigits 94 = .ok (.goto 4, 3) := by decide +kernel
theorem d_Tape_fourHexDigits_97 : decode b_Tape_fourHexDigits 97 = .ok (.iconst (-1), 1) := by decide +kernel
theorem d_Tape_fourHexDigits_98 : decode b_Tape_fourHexDigits 98 = .ok (.istore 4, 2) := by decide +kernel
theorem d_Tape_fourHexDigits_100 : decode b_Tape_fourHexDigits 100 = .ok (.iload 4, 2) := by decide +kernel
theorem d_Tape_fourHexDigits_102 : decode b_Tape_fourHexDigits 102 = .ok (.ifCond .ge 5, 3) := by decide +kernel
theorem d_Tape_fourHexDigits_105 : decode b_Tape_fourHexDigits 105 = .ok (.iconst (-1), 1) := by decide +kernel
theorem d_Tape_fourHexDigits_106 : decode b_Tape_fourHexDigits 106 = .ok (.ireturn, 1) := by decide +kernel
theorem d_Tape_fourHexDigits_107 : decode b_Tape_fourHexDigits 107 = .ok (.iload_n 1, 1) := by decide +kernel
theorem d_Tape_fourHexDigits_108 : decode b_Tape_fourHexDigits 108 = .ok (.bipush 16, 2) := by decide +kernel
theorem d_Tape_fourHexDigits_110 : decode b_Tape_fourHexDigits 110 = .ok (.imul, 1) := by decide +kernel
theorem d_Tape_fourHexDigits_111 : decode b_Tape_fourHexDigits 111 = .ok (.iload 4, 2) := by decide +kernel
theorem d_Tape_fourHexDigits_113 : decode b_Tape_fourHexDigits 113 = .ok (.iadd, 1) := by decide +kernel
theorem d_Tape_fourHexDigits_114 : decode b_Tape_fourHexDigits 114 = .ok (.istore_n 1, 1) := by decide +kernel
theorem d_Tape_fourHexDigits_115 : decode b_Tape_fourHexDigits 115 = .ok (.aload_n 0, 1) := by decide +kernel
theorem d_Tape_fourHexDigits_116 : decode b_Tape_fourHexDigits 116 = .ok (.dup, 1) := by decide +kernel
theorem d_Tape_fourHexDigits_117 : decode b_Tape_fourHexDigits 117 = .ok (.getfield 29, 3) := by decide +kernel
theorem d_Tape_fourHexDigits_120 : decode b_Tape_fourHexDigits 120 = .ok (.iconst 1, 1) := by decide +kernel
theorem d_Tape_fourHexDigits_121 : decode b_Tape_fourHexDigits 121 = .ok (.iadd, 1) := by decide +kernel
theorem d_Tape_fourHexDigits_122 : decode b_Tape_fourHexDigits 122 = .ok (.putfield 29, 3) := by decide +kernel
theorem d_Tape_fourHexDigits_125 : decode b_Tape_fourHexDigits 125 = .ok (.iinc 2 1, 3) := by decide +kernel
theorem d_Tape_fourHexDigits_128 : decode b_Tape_fourHexDigits 128 = .ok (.goto (-124), 3) := by decide +kernel
theorem d_Tape_fourHexDigits_131 : decode b_Tape_fourHexDigits 131 = .ok (.iload_n 1, 1) := by decide +kernel
theorem d_Tape_fourHexDigits_132 : decode b_Tape_fourHexDigits 132 = .ok (.ireturn, 1) := by decide +kernel
set_option maxHeartbeats 4000000 in
set_option maxRecDepth 100000 in
/-- Tape.fourHexDigits -/
theorem c_Tape_fourHexDigits (l : Launch) (dC : Nat → ClassId) (dI : Nat → Nat → Nat) (cB : ClassId) (h0 qb : Nat) (sz : Heap) (ru : Value) (uc ln pl : Int32) (f : Nat → Int32) (n i : Nat) (hn0 : n ≤ 4096) (hi0 : i ≤ 1000000) : Met l y_Tape_fourHexDigits (k_Tape_fourHexDigits :: gtbl) ({ frames := 0, cells := 0, slots := 0, locals := 0 }) (va_Pc [.ref h0] (mp dC dI [(h0, .inr (8, [.ref qb, ru, .int uc, .int ln, .int (nI n), .int (nI i), .int pl])), (qb, .inl (cB, 4096, .inl f))] [(cB, .byte)] sz)) (va_Qi (fun (r : Int32) (u : Nat) => (r, u) = hex4 f n 4 i 0) (fun u => mz dC dI [(h0, .inr (8, [.ref qb, ru, .int uc, .int ln, .int (nI n), .int (nI u), .int pl])), (qb, .inl (cB, 4096, .inl f))] [(cB, .byte)] (va_A [(h0, .inr (8, [.ref qb, ru, .int uc, .int ln, .int (nI n), .int (nI i), .int pl])), (qb, .inl (cB, 4096, .inl f))] sz.size)) (va_A [(h0, .inr (8, [.ref qb, ru, .int uc, .int ln, .int (nI n), .int (nI i), .int pl])), (qb, .inl (cB, 4096, .inl f))] sz.size)) 0 0 (va_A [(h0, .inr (8, [.ref qb, ru, .int uc, .int ln, .int (nI n), .int (nI i), .int pl])), (qb, .inl (cB, 4096, .inl f))] sz.size) := by
  refine Met.ofW (cc := b_Tape_fourHexDigits) (maxL := 5) (ret := (some .int)) (by decide) rfl ?_
  intro p e s m args below meth c s₁ B hml hv
  obtain ⟨rfl, hsz, hP, hK, hD0⟩ := hv
  have hx := B.exec
  have hb := B.bytes
  have hr := B.returns
  have hts0 := atoms_spec (ws := k_Tape_fourHexDigits :: gtbl) B.pre
  have hts := fun w h => hts0 w (List.mem_cons_of_mem _ h)
  have hown : s.vm.findClass R_Tape = some m.cls := findClass_of_methodNamed B.named
  have hlocks := B.notSynchronized
  subst hsz
  have hD := hD0.self (sz := s.heap.size)
  generalize hAe : va_A [(h0, .inr (8, [.ref qb, ru, .int uc, .int ln, .int (nI n), .int (nI i), .int pl])), (qb, .inl (cB, 4096, .inl f))] s.heap.size = A at hD ⊢
  have hA : ∀ q : Nat, s.heap.size ≤ q → A q := fun q h => by rw [← hAe]; exact Or.inr h
  have hS : va_S A s.heap s.heap [] := va_S.rf
  have hP : va_P (dC, dI) classes [(h0, .inr (8, [.ref qb, ru, .int uc, .int ln, .int (nI n), .int (nI i), .int pl])), (qb, .inl (cB, 4096, .inl f))] s.heap := hP
  have hl := lv_entry ([.ref h0]) (n := 5) (Nat.le_of_ble_eq_true rfl)
  rw [lg_entry_eq]
  generalize (lg_sl ([.ref h0]) ++ List.replicate (5 - (lg_sl ([.ref h0])).length) Slot.unset).toArray = ls at hl ⊢
  have hl : lv_has ls 5 [(0, .ref h0)] := hl
  refine lv_iconst (v := 0) hx hb d_Tape_fourHexDigits_0 (by decide) ?_
  refine lv_istore_n (lv' := [(1, .int 0), (0, .ref h0)]) hx hb d_Tape_fourHexDigits_1 rfl hl (by decide) rfl (fun ls hl => ?_)
  refine lv_iconst (v := 0) hx hb d_Tape_fourHexDigits_2 (by decide) ?_
  refine lv_istore_n (lv' := [(2, .int 0), (1, .int 0), (0, .ref h0)]) hx hb d_Tape_fourHexDigits_3 rfl hl (by decide) rfl (fun ls hl => ?_)
  refine w_loop (D := (dC, dI)) (cl := classes) (A := A) (H0 := s.heap) (nL := 5) 4 (σ := Nat × Nat × Int32) (fun ⟨k, j, a⟩ => k ≤ 4 ∧ j + k = i + 4 ∧ hex4 f n k j a = hex4 f n 4 i 0) (fun ⟨k, j, a⟩ => k) (fun ⟨k, j, a⟩ => [(h0, .inr (8, [.ref qb, ru, .int uc, .int ln, .int (nI n), .int (nI j), .int pl])), (qb, .inl (cB, 4096, .inl f))]) (fun ⟨k, j, a⟩ => [(0, .ref h0), (1, .int a), (2, .int (nI (4 - k)))]) ?_ (4, i, 0) ⟨by omega, by omega, rfl⟩ hP hD hS (lv_sub hl [2, 1, 0] rfl)
  rintro ⟨k, j, a⟩ H locs ls hI ih hP hD hS hl
  have hP : va_P (dC, dI) classes [(h0, .inr (8, [.ref qb, ru, .int uc, .int ln, .int (nI n), .int (nI j), .int pl])), (qb, .inl (cB, 4096, .inl f))] H := hP
  have hD : va_D A [(h0, .inr (8, [.ref qb, ru, .int uc, .int ln, .int (nI n), .int (nI j), .int pl])), (qb, .inl (cB, 4096, .inl f))] := hD
  have hl : lv_has ls 5 [(0, .ref h0), (1, .int a), (2, .int (nI (4 - k)))] := hl
  refine lv_iload_n hx hb d_Tape_fourHexDigits_4 rfl (lv_at hl 2 rfl) ?_
  refine lv_iconst (v := 4) hx hb d_Tape_fourHexDigits_5 (by decide) ?_
  refine lv_icmp_ge (tgt := 131) hx hb d_Tape_fourHexDigits_6 (by decide) (fun c6 => ?_) (fun c6 => ?_)
  · refine lv_iload_n hx hb d_Tape_fourHexDigits_131 rfl (lv_at hl 1 rfl) ?_
    have hk : k = 0 := Nat.eq_zero_of_not_pos (fun h => absurd c6 (by rw [show (4 : Int32) = nI 4 from rfl, nI_leI (by omega) (by omega)]; omega))
    subst hk
    exact W.iret (v := a) hx hb hr (fun t ht hW => ⟨⟨a, j, rfl, by rw [← hI.2.2]; rfl, by rw [ht]; exact hP, va_K.moved hW.alike hK, hD⟩, hS.F ht⟩) hS.2.2 d_Tape_fourHexDigits_132
  · refine lv_aload_n hx hb d_Tape_fourHexDigits_9 rfl (lv_at hl 0 rfl) ?_
    refine va_get (D := (dC, dI)) (ci := 8) (v := .int (nI j)) (C := R_Tape) (T := F_Tape) (N := 7) hx hb hts in_Tape hown hK hP 0 rfl rfl 5 (by decide) (hts _ w_54) (fun _ h9 => h9) rfl d_Tape_fourHexDigits_10 ?_
    refine lv_aload_n hx hb d_Tape_fourHexDigits_13 rfl (lv_at hl 0 rfl) ?_
    refine va_get (D := (dC, dI)) (ci := 8) (v := .int (nI n)) (C := R_Tape) (T := F_Tape) (N := 7) hx hb hts in_Tape hown hK hP 0 rfl rfl 4 (by decide) (hts _ w_51) (fun _ h9 => h9) rfl d_Tape_fourHexDigits_14 ?_
    refine lv_icmp_ge (tgt := 32) hx hb d_Tape_fourHexDigits_17 (by decide) (fun c17 => ?_) (fun c17 => ?_)
    · refine lv_iconst (v := (-1)) hx hb d_Tape_fourHexDigits_32 (by decide) ?_
      have hk : 0 < k := Nat.pos_of_ne_zero (fun h => by subst h; exact c6 (by decide))
      have hv : byteV f n j = -1 := by unfold byteV; rw [if_neg (fun h => absurd c17 (by rw [nI_leI (by omega) (by omega)]; omega))]
      refine lv_istore_n (lv' := [(3, .int (-1)), (0, .ref h0), (1, .int a), (2, .int (nI (4 - k)))]) hx hb d_Tape_fourHexDigits_33 rfl hl (by decide) rfl (fun ls hl => ?_)
      refine lv_iload_n hx hb d_Tape_fourHexDigits_34 rfl (lv_at hl 0 rfl) ?_
      refine lv_bipush (v := 48) hx hb d_Tape_fourHexDigits_35 (by decide) ?_
      refine lv_icmp_lt (tgt := 53) hx hb d_Tape_fourHexDigits_37 (by decide) (fun c37 => ?_) (fun c37 => ?_)
      · refine lv_iload_n hx hb d_Tape_fourHexDigits_53 rfl (lv_at hl 0 rfl) ?_
        refine lv_bipush (v := 97) hx hb d_Tape_fourHexDigits_54 (by decide) ?_
        refine lv_icmp_lt (tgt := 75) hx hb d_Tape_fourHexDigits_56 (by decide) (fun c56 => ?_) (fun c56 => ?_)
        · refine lv_iload_n hx hb d_Tape_fourHexDigits_75 rfl (lv_at hl 0 rfl) ?_
          refine lv_bipush (v := 65) hx hb d_Tape_fourHexDigits_76 (by decide) ?_
          refine lv_icmp_lt (tgt := 97) hx hb d_Tape_fourHexDigits_78 (by decide) (fun c78 => ?_) (fun c78 => ?_)
          · refine lv_iconst (v := (-1)) hx hb d_Tape_fourHexDigits_97 (by decide) ?_
            have hd : hexV (byteV f n j) = (-1) := by rw [hv]; unfold hexV; rw [if_neg (fun h => h.1 c37), if_neg (fun h => h.1 c56), if_neg (fun h => h.1 c78)]
            refine lv_istore (lv' := [(4, .int (-1)), (3, .int (-1)), (0, .ref h0), (1, .int a), (2, .int (nI (4 - k)))]) hx hb d_Tape_fourHexDigits_98 hl (by decide) rfl (fun ls hl => ?_)
            refine lv_iload hx hb d_Tape_fourHexDigits_100 (lv_at hl 0 rfl) ?_
            refine lv_if_ge (tgt := 107) hx hb d_Tape_fourHexDigits_102 (by decide) (fun c102 => ?_) (fun c102 => ?_)
            · refine lv_iload_n hx hb d_Tape_fourHexDigits_107 rfl (lv_at hl 3 rfl) ?_
              refine lv_bipush (v := 16) hx hb d_Tape_fourHexDigits_108 (by decide) ?_
              refine lv_imul hx hb d_Tape_fourHexDigits_110 ?_
              refine lv_iload hx hb d_Tape_fourHexDigits_111 (lv_at hl 0 rfl) ?_
              refine lv_iadd hx hb d_Tape_fourHexDigits_113 ?_
              refine lv_istore_n (lv' := [(1, .int ((a * 16) + (-1))), (4, .int (-1)), (3, .int (-1)), (0, .ref h0), (2, .int (nI (4 - k)))]) hx hb d_Tape_fourHexDigits_114 rfl hl (by decide) rfl (fun ls hl => ?_)
              refine lv_aload_n hx hb d_Tape_fourHexDigits_115 rfl (lv_at hl 3 rfl) ?_
              refine lv_dup hx hb d_Tape_fourHexDigits_116 rfl ?_
              refine va_get (D := (dC, dI)) (ci := 8) (v := .int (nI j)) (C := R_Tape) (T := F_Tape) (N := 7) hx hb hts in_Tape hown hK hP 0 rfl rfl 5 (by decide) (hts _ w_54) (fun _ h9 => h9) rfl d_Tape_fourHexDigits_117 ?_
              refine lv_iconst (v := 1) hx hb d_Tape_fourHexDigits_120 (by decide) ?_
              refine lv_iadd hx hb d_Tape_fourHexDigits_121 ?_
              refine W.eq (g2 := F0 m 122 ls [.int (nI (j + 1)), .ref h0]) (by rw [show ((nI j) + 1) = (nI (j + 1)) from nI_1 _]) ?_
              refine va_put (D := (dC, dI)) (ci := 8) (v := .int (nI (j + 1))) (ty := .int) (C := R_Tape) (T := F_Tape) (N := 7) hx hb hts in_Tape t_Tape t_Tape_ok n_Tape hown hK hP hD hS 0 rfl rfl 5 (by decide) (hts _ w_54) (fun _ h9 => h9) rfl (by decide +kernel) rfl rfl (Nat.le_of_ble_eq_true rfl) d_Tape_fourHexDigits_122 (fun H locs hP hD hS => ?_)
              have hP : va_P (dC, dI) classes [(h0, .inr (8, [.ref qb, ru, .int uc, .int ln, .int (nI n), .int (nI (j + 1)), .int pl])), (qb, .inl (cB, 4096, .inl f))] H := hP
              have hD : va_D A [(h0, .inr (8, [.ref qb, ru, .int uc, .int ln, .int (nI n), .int (nI (j + 1)), .int pl])), (qb, .inl (cB, 4096, .inl f))] := hD
              refine lv_iinc (v := nI (4 - k) + 1) (lv' := [(2, .int (nI (4 - k) + 1)), (1, .int ((a * 16) + (-1))), (4, .int (-1)), (3, .int (-1)), (0, .ref h0)]) hx hb d_Tape_fourHexDigits_125 hl (k := 4) rfl rfl (by decide) rfl (fun ls hl => ?_)
              refine lv_goto (tgt := 4) hx hb d_Tape_fourHexDigits_128 (by decide) ?_
              rw [show (nI (4 - k) + 1 : Int32) = nI (4 - (k - 1)) by rw [nI_1]; congr 1; omega] at hl
              exact ih (k - 1, j + 1, ((a * 16) + (-1))) _ _ _ ⟨by omega, by omega, by rw [← hI.2.2]; obtain ⟨k0, rfl⟩ : ∃ k0, k = k0 + 1 := ⟨k - 1, by omega⟩; exact (hex4_s hd c102).symm⟩ (by show k - 1 < k; omega) hP hD hS (lv_sub hl [4, 1, 0] rfl)
            · refine lv_iconst (v := (-1)) hx hb d_Tape_fourHexDigits_105 (by decide) ?_
              exact W.iret (v := (-1)) hx hb hr (fun t ht hW => ⟨⟨(-1), j, rfl, by rw [← hI.2.2]; obtain ⟨k0, rfl⟩ : ∃ k0, k = k0 + 1 := ⟨k - 1, by omega⟩; exact (hex4_f hd c102).symm, by rw [ht]; exact hP, va_K.moved hW.alike hK, hD⟩, hS.F ht⟩) hS.2.2 d_Tape_fourHexDigits_106
          · refine lv_iload_n hx hb d_Tape_fourHexDigits_81 rfl (lv_at hl 0 rfl) ?_
            refine lv_bipush (v := 70) hx hb d_Tape_fourHexDigits_82 (by decide) ?_
            refine lv_icmp_gt (tgt := 97) hx hb d_Tape_fourHexDigits_84 (by decide) (fun c84 => ?_) (fun c84 => ?_)
            · refine lv_iconst (v := (-1)) hx hb d_Tape_fourHexDigits_97 (by decide) ?_
              have hd : hexV (byteV f n j) = (-1) := by rw [hv]; unfold hexV; rw [if_neg (fun h => h.1 c37), if_neg (fun h => h.1 c56), if_neg (fun h => h.2 c84)]
              refine lv_istore (lv' := [(4, .int (-1)), (3, .int (-1)), (0, .ref h0), (1, .int a), (2, .int (nI (4 - k)))]) hx hb d_Tape_fourHexDigits_98 hl (by decide) rfl (fun ls hl => ?_)
              refine lv_iload hx hb d_Tape_fourHexDigits_100 (lv_at hl 0 rfl) ?_
              refine lv_if_ge (tgt := 107) hx hb d_Tape_fourHexDigits_102 (by decide) (fun c102 => ?_) (fun c102 => ?_)
              · refine lv_iload_n hx hb d_Tape_fourHexDigits_107 rfl (lv_at hl 3 rfl) ?_
                refine lv_bipush (v := 16) hx hb d_Tape_fourHexDigits_108 (by decide) ?_
                refine lv_imul hx hb d_Tape_fourHexDigits_110 ?_
                refine lv_iload hx hb d_Tape_fourHexDigits_111 (lv_at hl 0 rfl) ?_
                refine lv_iadd hx hb d_Tape_fourHexDigits_113 ?_
                refine lv_istore_n (lv' := [(1, .int ((a * 16) + (-1))), (4, .int (-1)), (3, .int (-1)), (0, .ref h0), (2, .int (nI (4 - k)))]) hx hb d_Tape_fourHexDigits_114 rfl hl (by decide) rfl (fun ls hl => ?_)
                refine lv_aload_n hx hb d_Tape_fourHexDigits_115 rfl (lv_at hl 3 rfl) ?_
                refine lv_dup hx hb d_Tape_fourHexDigits_116 rfl ?_
                refine va_get (D := (dC, dI)) (ci := 8) (v := .int (nI j)) (C := R_Tape) (T := F_Tape) (N := 7) hx hb hts in_Tape hown hK hP 0 rfl rfl 5 (by decide) (hts _ w_54) (fun _ h9 => h9) rfl d_Tape_fourHexDigits_117 ?_
                refine lv_iconst (v := 1) hx hb d_Tape_fourHexDigits_120 (by decide) ?_
                refine lv_iadd hx hb d_Tape_fourHexDigits_121 ?_
                refine W.eq (g2 := F0 m 122 ls [.int (nI (j + 1)), .ref h0]) (by rw [show ((nI j) + 1) = (nI (j + 1)) from nI_1 _]) ?_
                refine va_put (D := (dC, dI)) (ci := 8) (v := .int (nI (j + 1))) (ty := .int) (C := R_Tape) (T := F_Tape) (N := 7) hx hb hts in_Tape t_Tape t_Tape_ok n_Tape hown hK hP hD hS 0 rfl rfl 5 (by decide) (hts _ w_54) (fun _ h9 => h9) rfl (by decide +kernel) rfl rfl (Nat.le_of_ble_eq_true rfl) d_Tape_fourHexDigits_122 (fun H locs hP hD hS => ?_)
                have hP : va_P (dC, dI) classes [(h0, .inr (8, [.ref qb, ru, .int uc, .int ln, .int (nI n), .int (nI (j + 1)), .int pl])), (qb, .inl (cB, 4096, .inl f))] H := hP
                have hD : va_D A [(h0, .inr (8, [.ref qb, ru, .int uc, .int ln, .int (nI n), .int (nI (j + 1)), .int pl])), (qb, .inl (cB, 4096, .inl f))] := hD
                refine lv_iinc (v := nI (4 - k) + 1) (lv' := [(2, .int (nI (4 - k) + 1)), (1, .int ((a * 16) + (-1))), (4, .int (-1)), (3, .int (-1)), (0, .ref h0)]) hx hb d_Tape_fourHexDigits_125 hl (k := 4) rfl rfl (by decide) rfl (fun ls hl => ?_)
                refine lv_goto (tgt := 4) hx hb d_Tape_fourHexDigits_128 (by decide) ?_
                rw [show (nI (4 - k) + 1 : Int32) = nI (4 - (k - 1)) by rw [nI_1]; congr 1; omega] at hl
                exact ih (k - 1, j + 1, ((a * 16) + (-1))) _ _ _ ⟨by omega, by omega, by rw [← hI.2.2]; obtain ⟨k0, rfl⟩ : ∃ k0, k = k0 + 1 := ⟨k - 1, by omega⟩; exact (hex4_s hd c102).symm⟩ (by show k - 1 < k; omega) hP hD hS (lv_sub hl [4, 1, 0] rfl)
              · refine lv_iconst (v := (-1)) hx hb d_Tape_fourHexDigits_105 (by decide) ?_
                exact W.iret (v := (-1)) hx hb hr (fun t ht hW => ⟨⟨(-1), j, rfl, by rw [← hI.2.2]; obtain ⟨k0, rfl⟩ : ∃ k0, k = k0 + 1 := ⟨k - 1, by omega⟩; exact (hex4_f hd c102).symm, by rw [ht]; exact hP, va_K.moved hW.alike hK, hD⟩, hS.F ht⟩) hS.2.2 d_Tape_fourHexDigits_106
            · refine lv_iload_n hx hb d_Tape_fourHexDigits_87 rfl (lv_at hl 0 rfl) ?_
              refine lv_bipush (v := 65) hx hb d_Tape_fourHexDigits_88 (by decide) ?_
              refine lv_isub hx hb d_Tape_fourHexDigits_90 ?_
              refine lv_bipush (v := 10) hx hb d_Tape_fourHexDigits_91 (by decide) ?_
              refine lv_iadd hx hb d_Tape_fourHexDigits_93 ?_
              refine lv_goto (tgt := 98) hx hb d_Tape_fourHexDigits_94 (by decide) ?_
              have hd : hexV (byteV f n j) = (((-1) - 65) + 10) := by rw [hv]; unfold hexV; rw [if_neg (fun h => h.1 c37), if_neg (fun h => h.1 c56), if_pos ⟨c78, c84⟩]
              refine lv_istore (lv' := [(4, .int (((-1) - 65) + 10)), (3, .int (-1)), (0, .ref h0), (1, .int a), (2, .int (nI (4 - k)))]) hx hb d_Tape_fourHexDigits_98 hl (by decide) rfl (fun ls hl => ?_)
              refine lv_iload hx hb d_Tape_fourHexDigits_100 (lv_at hl 0 rfl) ?_
              refine lv_if_ge (tgt := 107) hx hb d_Tape_fourHexDigits_102 (by decide) (fun c102 => ?_) (fun c102 => ?_)
              · refine lv_iload_n hx hb d_Tape_fourHexDigits_107 rfl (lv_at hl 3 rfl) ?_
                refine lv_bipush (v := 16) hx hb d_Tape_fourHexDigits_108 (by decide) ?_
                refine lv_imul hx hb d_Tape_fourHexDigits_110 ?_
                refine lv_iload hx hb d_Tape_fourHexDigits_111 (lv_at hl 0 rfl) ?_
                refine lv_iadd hx hb d_Tape_fourHexDigits_113 ?_
                refine lv_istore_n (lv' := [(1, .int ((a * 16) + (((-1) - 65) + 10))), (4, .int (((-1) - 65) + 10)), (3, .int (-1)), (0, .ref h0), (2, .int (nI (4 - k)))]) hx hb d_Tape_fourHexDigits_114 rfl hl (by decide) rfl (fun ls hl => ?_)
                refine lv_aload_n hx hb d_Tape_fourHexDigits_115 rfl (lv_at hl 3 rfl) ?_
                refine lv_dup hx hb d_Tape_fourHexDigits_116 rfl ?_
                refine va_get (D := (dC, dI)) (ci := 8) (v := .int (nI j)) (C := R_Tape) (T := F_Tape) (N := 7) hx hb hts in_Tape hown hK hP 0 rfl rfl 5 (by decide) (hts _ w_54) (fun _ h9 => h9) rfl d_Tape_fourHexDigits_117 ?_
                refine lv_iconst (v := 1) hx hb d_Tape_fourHexDigits_120 (by decide) ?_
                refine lv_iadd hx hb d_Tape_fourHexDigits_121 ?_
                refine W.eq (g2 := F0 m 122 ls [.int (nI (j + 1)), .ref h0]) (by rw [show ((nI j) + 1) = (nI (j + 1)) from nI_1 _]) ?_
                refine va_put (D := (dC, dI)) (ci := 8) (v := .int (nI (j + 1))) (ty := .int) (C := R_Tape) (T := F_Tape) (N := 7) hx hb hts in_Tape t_Tape t_Tape_ok n_Tape hown hK hP hD hS 0 rfl rfl 5 (by decide) (hts _ w_54) (fun _ h9 => h9) rfl (by decide +kernel) rfl rfl (Nat.le_of_ble_eq_true rfl) d_Tape_fourHexDigits_122 (fun H locs hP hD hS => ?_)
                have hP : va_P (dC, dI) classes [(h0, .inr (8, [.ref qb, ru, .int uc, .int ln, .int (nI n), .int (nI (j + 1)), .int pl])), (qb, .inl (cB, 4096, .inl f))] H := hP
                have hD : va_D A [(h0, .inr (8, [.ref qb, ru, .int uc, .int ln, .int (nI n), .int (nI (j + 1)), .int pl])), (qb, .inl (cB, 4096, .inl f))] := hD
                refine lv_iinc (v := nI (4 - k) + 1) (lv' := [(2, .int (nI (4 - k) + 1)), (1, .int ((a * 16) + (((-1) - 65) + 10))), (4, .int (((-1) - 65) + 10)), (3, .int (-1)), (0, .ref h0)]) hx hb d_Tape_fourHexDigits_125 hl (k := 4) rfl rfl (by decide) rfl (fun ls hl => ?_)
                refine lv_goto (tgt := 4) hx hb d_Tape_fourHexDigits_128 (by decide) ?_
                rw [show (nI (4 - k) + 1 : Int32) = nI (4 - (k - 1)) by rw [nI_1]; congr 1; omega] at hl
                exact ih (k - 1, j + 1, ((a * 16) + (((-1) - 65) + 10))) _ _ _ ⟨by omega, by omega, by rw [← hI.2.2]; obtain ⟨k0, rfl⟩ : ∃ k0, k = k0 + 1 := ⟨k - 1, by omega⟩; exact (hex4_s hd c102).symm⟩ (by show k - 1 < k; omega) hP hD hS (lv_sub hl [4, 1, 0] rfl)
              · refine lv_iconst (v := (-1)) hx hb d_Tape_fourHexDigits_105 (by decide) ?_
                exact W.iret (v := (-1)) hx hb hr (fun t ht hW => ⟨⟨(-1), j, rfl, by rw [← hI.2.2]; obtain ⟨k0, rfl⟩ : ∃ k0, k = k0 + 1 := ⟨k - 1, by omega⟩; exact (hex4_f hd c102).symm, by rw [ht]; exact hP, va_K.moved hW.alike hK, hD⟩, hS.F ht⟩) hS.2.2 d_Tape_fourHexDigits_106
        · refine lv_iload_n hx hb d_Tape_fourHexDigits_59 rfl (lv_at hl 0 rfl) ?_
          refine lv_bipush (v := 102) hx hb d_Tape_fourHexDigits_60 (by decide) ?_
          refine lv_icmp_gt (tgt := 75) hx hb d_Tape_fourHexDigits_62 (by decide) (fun c62 => ?_) (fun c62 => ?_)
          · refine lv_iload_n hx hb d_Tape_fourHexDigits_75 rfl (lv_at hl 0 rfl) ?_
            refine lv_bipush (v := 65) hx hb d_Tape_fourHexDigits_76 (by decide) ?_
            refine lv_icmp_lt (tgt := 97) hx hb d_Tape_fourHexDigits_78 (by decide) (fun c78 => ?_) (fun c78 => ?_)
            · refine lv_iconst (v := (-1)) hx hb d_Tape_fourHexDigits_97 (by decide) ?_
              have hd : hexV (byteV f n j) = (-1) := by rw [hv]; unfold hexV; rw [if_neg (fun h => h.1 c37), if_neg (fun h => h.2 c62), if_neg (fun h => h.1 c78)]
              refine lv_istore (lv' := [(4, .int (-1)), (3, .int (-1)), (0, .ref h0), (1, .int a), (2, .int (nI (4 - k)))]) hx hb d_Tape_fourHexDigits_98 hl (by decide) rfl (fun ls hl => ?_)
              refine lv_iload hx hb d_Tape_fourHexDigits_100 (lv_at hl 0 rfl) ?_
              refine lv_if_ge (tgt := 107) hx hb d_Tape_fourHexDigits_102 (by decide) (fun c102 => ?_) (fun c102 => ?_)
              · refine lv_iload_n hx hb d_Tape_fourHexDigits_107 rfl (lv_at hl 3 rfl) ?_
                refine lv_bipush (v := 16) hx hb d_Tape_fourHexDigits_108 (by decide) ?_
                refine lv_imul hx hb d_Tape_fourHexDigits_110 ?_
                refine lv_iload hx hb d_Tape_fourHexDigits_111 (lv_at hl 0 rfl) ?_
                refine lv_iadd hx hb d_Tape_fourHexDigits_113 ?_
                refine lv_istore_n (lv' := [(1, .int ((a * 16) + (-1))), (4, .int (-1)), (3, .int (-1)), (0, .ref h0), (2, .int (nI (4 - k)))]) hx hb d_Tape_fourHexDigits_114 rfl hl (by decide) rfl (fun ls hl => ?_)
                refine lv_aload_n hx hb d_Tape_fourHexDigits_115 rfl (lv_at hl 3 rfl) ?_
                refine lv_dup hx hb d_Tape_fourHexDigits_116 rfl ?_
                refine va_get (D := (dC, dI)) (ci := 8) (v := .int (nI j)) (C := R_Tape) (T := F_Tape) (N := 7) hx hb hts in_Tape hown hK hP 0 rfl rfl 5 (by decide) (hts _ w_54) (fun _ h9 => h9) rfl d_Tape_fourHexDigits_117 ?_
                refine lv_iconst (v := 1) hx hb d_Tape_fourHexDigits_120 (by decide) ?_
                refine lv_iadd hx hb d_Tape_fourHexDigits_121 ?_
                refine W.eq (g2 := F0 m 122 ls [.int (nI (j + 1)), .ref h0]) (by rw [show ((nI j) + 1) = (nI (j + 1)) from nI_1 _]) ?_
                refine va_put (D := (dC, dI)) (ci := 8) (v := .int (nI (j + 1))) (ty := .int) (C := R_Tape) (T := F_Tape) (N := 7) hx hb hts in_Tape t_Tape t_Tape_ok n_Tape hown hK hP hD hS 0 rfl rfl 5 (by decide) (hts _ w_54) (fun _ h9 => h9) rfl (by decide +kernel) rfl rfl (Nat.le_of_ble_eq_true rfl) d_Tape_fourHexDigits_122 (fun H locs hP hD hS => ?_)
                have hP : va_P (dC, dI) classes [(h0, .inr (8, [.ref qb, ru, .int uc, .int ln, .int (nI n), .int (nI (j + 1)), .int pl])), (qb, .inl (cB, 4096, .inl f))] H := hP
                have hD : va_D A [(h0, .inr (8, [.ref qb, ru, .int uc, .int ln, .int (nI n), .int (nI (j + 1)), .int pl])), (qb, .inl (cB, 4096, .inl f))] := hD
                refine lv_iinc (v := nI (4 - k) + 1) (lv' := [(2, .int (nI (4 - k) + 1)), (1, .int ((a * 16) + (-1))), (4, .int (-1)), (3, .int (-1)), (0, .ref h0)]) hx hb d_Tape_fourHexDigits_125 hl (k := 4) rfl rfl (by decide) rfl (fun ls hl => ?_)
                refine lv_goto (tgt := 4) hx hb d_Tape_fourHexDigits_128 (by decide) ?_
                rw [show (nI (4 - k) + 1 : Int32) = nI (4 - (k - 1)) by rw [nI_1]; congr 1; omega] at hl
                exact ih (k - 1, j + 1, ((a * 16) + (-1))) _ _ _ ⟨by omega, by omega, by rw [← hI.2.2]; obtain ⟨k0, rfl⟩ : ∃ k0, k = k0 + 1 := ⟨k - 1, by omega⟩; exact (hex4_s hd c102).symm⟩ (by show k - 1 < k; omega) hP hD hS (lv_sub hl [4, 1, 0] rfl)
              · refine lv_iconst (v := (-1)) hx hb d_Tape_fourHexDigits_105 (by decide) ?_
                exact W.iret (v := (-1)) hx hb hr (fun t ht hW => ⟨⟨(-1), j, rfl, by rw [← hI.2.2]; obtain ⟨k0, rfl⟩ : ∃ k0, k = k0 + 1 := ⟨k - 1, by omega⟩; exact (hex4_f hd c102).symm, by rw [ht]; exact hP, va_K.moved hW.alike hK, hD⟩, hS.F ht⟩) hS.2.2 d_Tape_fourHexDigits_106
            · refine lv_iload_n hx hb d_Tape_fourHexDigits_81 rfl (lv_at hl 0 rfl) ?_
              refine lv_bipush (v := 70) hx hb d_Tape_fourHexDigits_82 (by decide) ?_
              refine lv_icmp_gt (tgt := 97) hx hb d_Tape_fourHexDigits_84 (by decide) (fun c84 => ?_) (fun c84 => ?_)
              · refine lv_iconst (v := (-1)) hx hb d_Tape_fourHexDigits_97 (by decide) ?_
                have hd : hexV (byteV f n j) = (-1) := by rw [hv]; unfold hexV; rw [if_neg (fun h => h.1 c37), if_neg (fun h => h.2 c62), if_neg (fun h => h.2 c84)]
                refine lv_istore (lv' := [(4, .int (-1)), (3, .int (-1)), (0, .ref h0), (1, .int a), (2, .int (nI (4 - k)))]) hx hb d_Tape_fourHexDigits_98 hl (by decide) rfl (fun ls hl => ?_)
                refine lv_iload hx hb d_Tape_fourHexDigits_100 (lv_at hl 0 rfl) ?_
                refine lv_if_ge (tgt := 107) hx hb d_Tape_fourHexDigits_102 (by decide) (fun c102 => ?_) (fun c102 => ?_)
                · refine lv_iload_n hx hb d_Tape_fourHexDigits_107 rfl (lv_at hl 3 rfl) ?_
                  refine lv_bipush (v := 16) hx hb d_Tape_fourHexDigits_108 (by decide) ?_
                  refine lv_imul hx hb d_Tape_fourHexDigits_110 ?_
                  refine lv_iload hx hb d_Tape_fourHexDigits_111 (lv_at hl 0 rfl) ?_
                  refine lv_iadd hx hb d_Tape_fourHexDigits_113 ?_
                  refine lv_istore_n (lv' := [(1, .int ((a * 16) + (-1))), (4, .int (-1)), (3, .int (-1)), (0, .ref h0), (2, .int (nI (4 - k)))]) hx hb d_Tape_fourHexDigits_114 rfl hl (by decide) rfl (fun ls hl => ?_)
                  refine lv_aload_n hx hb d_Tape_fourHexDigits_115 rfl (lv_at hl 3 rfl) ?_
                  refine lv_dup hx hb d_Tape_fourHexDigits_116 rfl ?_
                  refine va_get (D := (dC, dI)) (ci := 8) (v := .int (nI j)) (C := R_Tape) (T := F_Tape) (N := 7) hx hb hts in_Tape hown hK hP 0 rfl rfl 5 (by decide) (hts _ w_54) (fun _ h9 => h9) rfl d_Tape_fourHexDigits_117 ?_
                  refine lv_iconst (v := 1) hx hb d_Tape_fourHexDigits_120 (by decide) ?_
                  refine lv_iadd hx hb d_Tape_fourHexDigits_121 ?_
                  refine W.eq (g2 := F0 m 122 ls [.int (nI (j + 1)), .ref h0]) (by rw [show ((nI j) + 1) = (nI (j + 1)) from nI_1 _]) ?_
                  refine va_put (D := (dC, dI)) (ci := 8) (v := .int (nI (j + 1))) (ty := .int) (C := R_Tape) (T := F_Tape) (N := 7) hx hb hts in_Tape t_Tape t_Tape_ok n_Tape hown hK hP hD hS 0 rfl rfl 5 (by decide) (hts _ w_54) (fun _ h9 => h9) rfl (by decide +kernel) rfl rfl (Nat.le_of_ble_eq_true rfl) d_Tape_fourHexDigits_122 (fun H locs hP hD hS => ?_)
                  have hP : va_P (dC, dI) classes [(h0, .inr (8, [.ref qb, ru, .int uc, .int ln, .int (nI n), .int (nI (j + 1)), .int pl])), (qb, .inl (cB, 4096, .inl f))] H := hP
                  have hD : va_D A [(h0, .inr (8, [.ref qb, ru, .int uc, .int ln, .int (nI n), .int (nI (j + 1)), .int pl])), (qb, .inl (cB, 4096, .inl f))] := hD
                  refine lv_iinc (v := nI (4 - k) + 1) (lv' := [(2, .int (nI (4 - k) + 1)), (1, .int ((a * 16) + (-1))), (4, .int (-1)), (3, .int (-1)), (0, .ref h0)]) hx hb d_Tape_fourHexDigits_125 hl (k := 4) rfl rfl (by decide) rfl (fun ls hl => ?_)
                  refine lv_goto (tgt := 4) hx hb d_Tape_fourHexDigits_128 (by decide) ?_
                  rw [show (nI (4 - k) + 1 : Int32) = nI (4 - (k - 1)) by rw [nI_1]; congr 1; omega] at hl
                  exact ih (k - 1, j + 1, ((a * 16) + (-1))) _ _ _ ⟨by omega, by omega, by rw [← hI.2.2]; obtain ⟨k0, rfl⟩ : ∃ k0, k = k0 + 1 := ⟨k - 1, by omega⟩; exact (hex4_s hd c102).symm⟩ (by show k - 1 < k; omega) hP hD hS (lv_sub hl [4, 1, 0] rfl)
                · refine lv_iconst (v := (-1)) hx hb d_Tape_fourHexDigits_105 (by decide) ?_
                  exact W.iret (v := (-1)) hx hb hr (fun t ht hW => ⟨⟨(-1), j, rfl, by rw [← hI.2.2]; obtain ⟨k0, rfl⟩ : ∃ k0, k = k0 + 1 := ⟨k - 1, by omega⟩; exact (hex4_f hd c102).symm, by rw [ht]; exact hP, va_K.moved hW.alike hK, hD⟩, hS.F ht⟩) hS.2.2 d_Tape_fourHexDigits_106
              · refine lv_iload_n hx hb d_Tape_fourHexDigits_87 rfl (lv_at hl 0 rfl) ?_
                refine lv_bipush (v := 65) hx hb d_Tape_fourHexDigits_88 (by decide) ?_
                refine lv_isub hx hb d_Tape_fourHexDigits_90 ?_
                refine lv_bipush (v := 10) hx hb d_Tape_fourHexDigits_91 (by decide) ?_
                refine lv_iadd hx hb d_Tape_fourHexDigits_93 ?_
                refine lv_goto (tgt := 98) hx hb d_Tape_fourHexDigits_94 (by decide) ?_
                have hd : hexV (byteV f n j) = (((-1) - 65) + 10) := by rw [hv]; unfold hexV; rw [if_neg (fun h => h.1 c37), if_neg (fun h => h.2 c62), if_pos ⟨c78, c84⟩]
                refine lv_istore (lv' := [(4, .int (((-1) - 65) + 10)), (3, .int (-1)), (0, .ref h0), (1, .int a), (2, .int (nI (4 - k)))]) hx hb d_Tape_fourHexDigits_98 hl (by decide) rfl (fun ls hl => ?_)
                refine lv_iload hx hb d_Tape_fourHexDigits_100 (lv_at hl 0 rfl) ?_
                refine lv_if_ge (tgt := 107) hx hb d_Tape_fourHexDigits_102 (by decide) (fun c102 => ?_) (fun c102 => ?_)
                · refine lv_iload_n hx hb d_Tape_fourHexDigits_107 rfl (lv_at hl 3 rfl) ?_
                  refine lv_bipush (v := 16) hx hb d_Tape_fourHexDigits_108 (by decide) ?_
                  refine lv_imul hx hb d_Tape_fourHexDigits_110 ?_
                  refine lv_iload hx hb d_Tape_fourHexDigits_111 (lv_at hl 0 rfl) ?_
                  refine lv_iadd hx hb d_Tape_fourHexDigits_113 ?_
                  refine lv_istore_n (lv' := [(1, .int ((a * 16) + (((-1) - 65) + 10))), (4, .int (((-1) - 65) + 10)), (3, .int (-1)), (0, .ref h0), (2, .int (nI (4 - k)))]) hx hb d_Tape_fourHexDigits_114 rfl hl (by decide) rfl (fun ls hl => ?_)
                  refine lv_aload_n hx hb d_Tape_fourHexDigits_115 rfl (lv_at hl 3 rfl) ?_
                  refine lv_dup hx hb d_Tape_fourHexDigits_116 rfl ?_
                  refine va_get (D := (dC, dI)) (ci := 8) (v := .int (nI j)) (C := R_Tape) (T := F_Tape) (N := 7) hx hb hts in_Tape hown hK hP 0 rfl rfl 5 (by decide) (hts _ w_54) (fun _ h9 => h9) rfl d_Tape_fourHexDigits_117 ?_
                  refine lv_iconst (v := 1) hx hb d_Tape_fourHexDigits_120 (by decide) ?_
                  refine lv_iadd hx hb d_Tape_fourHexDigits_121 ?_
                  refine W.eq (g2 := F0 m 122 ls [.int (nI (j + 1)), .ref h0]) (by rw [show ((nI j) + 1) = (nI (j + 1)) from nI_1 _]) ?_
                  refine va_put (D := (dC, dI)) (ci := 8) (v := .int (nI (j + 1))) (ty := .int) (C := R_Tape) (T := F_Tape) (N := 7) hx hb hts in_Tape t_Tape t_Tape_ok n_Tape hown hK hP hD hS 0 rfl rfl 5 (by decide) (hts _ w_54) (fun _ h9 => h9) rfl (by decide +kernel) rfl rfl (Nat.le_of_ble_eq_true rfl) d_Tape_fourHexDigits_122 (fun H locs hP hD hS => ?_)
                  have hP : va_P (dC, dI) classes [(h0, .inr (8, [.ref qb, ru, .int uc, .int ln, .int (nI n), .int (nI (j + 1)), .int pl])), (qb, .inl (cB, 4096, .inl f))] H := hP
                  have hD : va_D A [(h0, .inr (8, [.ref qb, ru, .int uc, .int ln, .int (nI n), .int (nI (j + 1)), .int pl])), (qb, .inl (cB, 4096, .inl f))] := hD
                  refine lv_iinc (v := nI (4 - k) + 1) (lv' := [(2, .int (nI (4 - k) + 1)), (1, .int ((a * 16) + (((-1) - 65) + 10))), (4, .int (((-1) - 65) + 10)), (3, .int (-1)), (0, .ref h0)]) hx hb d_Tape_fourHexDigits_125 hl (k := 4) rfl rfl (by decide) rfl (fun ls hl => ?_)
                  refine lv_goto (tgt := 4) hx hb d_Tape_fourHexDigits_128 (by decide) ?_
                  rw [show (nI (4 - k) + 1 : Int32) = nI (4 - (k - 1)) by rw [nI_1]; congr 1; omega] at hl
                  exact ih (k - 1, j + 1, ((a * 16) + (((-1) - 65) + 10))) _ _ _ ⟨by omega, by omega, by rw [← hI.2.2]; obtain ⟨k0, rfl⟩ : ∃ k0, k = k0 + 1 := ⟨k - 1, by omega⟩; exact (hex4_s hd c102).symm⟩ (by show k - 1 < k; omega) hP hD hS (lv_sub hl [4, 1, 0] rfl)
                · refine lv_iconst (v := (-1)) hx hb d_Tape_fourHexDigits_105 (by decide) ?_
                  exact W.iret (v := (-1)) hx hb hr (fun t ht hW => ⟨⟨(-1), j, rfl, by rw [← hI.2.2]; obtain ⟨k0, rfl⟩ : ∃ k0, k = k0 + 1 := ⟨k - 1, by omega⟩; exact (hex4_f hd c102).symm, by rw [ht]; exact hP, va_K.moved hW.alike hK, hD⟩, hS.F ht⟩) hS.2.2 d_Tape_fourHexDigits_106
          · refine lv_iload_n hx hb d_Tape_fourHexDigits_65 rfl (lv_at hl 0 rfl) ?_
            refine lv_bipush (v := 97) hx hb d_Tape_fourHexDigits_66 (by decide) ?_
            refine lv_isub hx hb d_Tape_fourHexDigits_68 ?_
            refine lv_bipush (v := 10) hx hb d_Tape_fourHexDigits_69 (by decide) ?_
            refine lv_iadd hx hb d_Tape_fourHexDigits_71 ?_
            refine lv_goto (tgt := 98) hx hb d_Tape_fourHexDigits_72 (by decide) ?_
            have hd : hexV (byteV f n j) = (((-1) - 97) + 10) := by rw [hv]; unfold hexV; rw [if_neg (fun h => h.1 c37), if_pos ⟨c56, c62⟩]
            refine lv_istore (lv' := [(4, .int (((-1) - 97) + 10)), (3, .int (-1)), (0, .ref h0), (1, .int a), (2, .int (nI (4 - k)))]) hx hb d_Tape_fourHexDigits_98 hl (by decide) rfl (fun ls hl => ?_)
            refine lv_iload hx hb d_Tape_fourHexDigits_100 (lv_at hl 0 rfl) ?_
            refine lv_if_ge (tgt := 107) hx hb d_Tape_fourHexDigits_102 (by decide) (fun c102 => ?_) (fun c102 => ?_)
            · refine lv_iload_n hx hb d_Tape_fourHexDigits_107 rfl (lv_at hl 3 rfl) ?_
              refine lv_bipush (v := 16) hx hb d_Tape_fourHexDigits_108 (by decide) ?_
              refine lv_imul hx hb d_Tape_fourHexDigits_110 ?_
              refine lv_iload hx hb d_Tape_fourHexDigits_111 (lv_at hl 0 rfl) ?_
              refine lv_iadd hx hb d_Tape_fourHexDigits_113 ?_
              refine lv_istore_n (lv' := [(1, .int ((a * 16) + (((-1) - 97) + 10))), (4, .int (((-1) - 97) + 10)), (3, .int (-1)), (0, .ref h0), (2, .int (nI (4 - k)))]) hx hb d_Tape_fourHexDigits_114 rfl hl (by decide) rfl (fun ls hl => ?_)
              refine lv_aload_n hx hb d_Tape_fourHexDigits_115 rfl (lv_at hl 3 rfl) ?_
              refine lv_dup hx hb d_Tape_fourHexDigits_116 rfl ?_
              refine va_get (D := (dC, dI)) (ci := 8) (v := .int (nI j)) (C := R_Tape) (T := F_Tape) (N := 7) hx hb hts in_Tape hown hK hP 0 rfl rfl 5 (by decide) (hts _ w_54) (fun _ h9 => h9) rfl d_Tape_fourHexDigits_117 ?_
              refine lv_iconst (v := 1) hx hb d_Tape_fourHexDigits_120 (by decide) ?_
              refine lv_iadd hx hb d_Tape_fourHexDigits_121 ?_
              refine W.eq (g2 := F0 m 122 ls [.int (nI (j + 1)), .ref h0]) (by rw [show ((nI j) + 1) = (nI (j + 1)) from nI_1 _]) ?_
              refine va_put (D := (dC, dI)) (ci := 8) (v := .int (nI (j + 1))) (ty := .int) (C := R_Tape) (T := F_Tape) (N := 7) hx hb hts in_Tape t_Tape t_Tape_ok n_Tape hown hK hP hD hS 0 rfl rfl 5 (by decide) (hts _ w_54) (fun _ h9 => h9) rfl (by decide +kernel) rfl rfl (Nat.le_of_ble_eq_true rfl) d_Tape_fourHexDigits_122 (fun H locs hP hD hS => ?_)
              have hP : va_P (dC, dI) classes [(h0, .inr (8, [.ref qb, ru, .int uc, .int ln, .int (nI n), .int (nI (j + 1)), .int pl])), (qb, .inl (cB, 4096, .inl f))] H := hP
              have hD : va_D A [(h0, .inr (8, [.ref qb, ru, .int uc, .int ln, .int (nI n), .int (nI (j + 1)), .int pl])), (qb, .inl (cB, 4096, .inl f))] := hD
              refine lv_iinc (v := nI (4 - k) + 1) (lv' := [(2, .int (nI (4 - k) + 1)), (1, .int ((a * 16) + (((-1) - 97) + 10))), (4, .int (((-1) - 97) + 10)), (3, .int (-1)), (0, .ref h0)]) hx hb d_Tape_fourHexDigits_125 hl (k := 4) rfl rfl (by decide) rfl (fun ls hl => ?_)
              refine lv_goto (tgt := 4) hx hb d_Tape_fourHexDigits_128 (by decide) ?_
              rw [show (nI (4 - k) + 1 : Int32) = nI (4 - (k - 1)) by rw [nI_1]; congr 1; omega] at hl
              exact ih (k - 1, j + 1, ((a * 16) + (((-1) - 97) + 10))) _ _ _ ⟨by omega, by omega, by rw [← hI.2.2]; obtain ⟨k0, rfl⟩ : ∃ k0, k = k0 + 1 := ⟨k - 1, by omega⟩; exact (hex4_s hd c102).symm⟩ (by show k - 1 < k; omega) hP hD hS (lv_sub hl [4, 1, 0] rfl)
            · refine lv_iconst (v := (-1)) hx hb d_Tape_fourHexDigits_105 (by decide) ?_
              exact W.iret (v := (-1)) hx hb hr (fun t ht hW => ⟨⟨(-1), j, rfl, by rw [← hI.2.2]; obtain ⟨k0, rfl⟩ : ∃ k0, k = k0 + 1 := ⟨k - 1, by omega⟩; exact (hex4_f hd c102).symm, by rw [ht]; exact hP, va_K.moved hW.alike hK, hD⟩, hS.F ht⟩) hS.2.2 d_Tape_fourHexDigits_106
      · refine lv_iload_n hx hb d_Tape_fourHexDigits_40 rfl (lv_at hl 0 rfl) ?_
        refine lv_bipush (v := 57) hx hb d_Tape_fourHexDigits_41 (by decide) ?_
        refine lv_icmp_gt (tgt := 53) hx hb d_Tape_fourHexDigits_43 (by decide) (fun c43 => ?_) (fun c43 => ?_)
        · refine lv_iload_n hx hb d_Tape_fourHexDigits_53 rfl (lv_at hl 0 rfl) ?_
          refine lv_bipush (v := 97) hx hb d_Tape_fourHexDigits_54 (by decide) ?_
          refine lv_icmp_lt (tgt := 75) hx hb d_Tape_fourHexDigits_56 (by decide) (fun c56 => ?_) (fun c56 => ?_)
          · refine lv_iload_n hx hb d_Tape_fourHexDigits_75 rfl (lv_at hl 0 rfl) ?_
            refine lv_bipush (v := 65) hx hb d_Tape_fourHexDigits_76 (by decide) ?_
            refine lv_icmp_lt (tgt := 97) hx hb d_Tape_fourHexDigits_78 (by decide) (fun c78 => ?_) (fun c78 => ?_)
            · refine lv_iconst (v := (-1)) hx hb d_Tape_fourHexDigits_97 (by decide) ?_
              have hd : hexV (byteV f n j) = (-1) := by rw [hv]; unfold hexV; rw [if_neg (fun h => h.2 c43), if_neg (fun h => h.1 c56), if_neg (fun h => h.1 c78)]
              refine lv_istore (lv' := [(4, .int (-1)), (3, .int (-1)), (0, .ref h0), (1, .int a), (2, .int (nI (4 - k)))]) hx hb d_Tape_fourHexDigits_98 hl (by decide) rfl (fun ls hl => ?_)
              refine lv_iload hx hb d_Tape_fourHexDigits_100 (lv_at hl 0 rfl) ?_
              refine lv_if_ge (tgt := 107) hx hb d_Tape_fourHexDigits_102 (by decide) (fun c102 => ?_) (fun c102 => ?_)
              · refine lv_iload_n hx hb d_Tape_fourHexDigits_107 rfl (lv_at hl 3 rfl) ?_
                refine lv_bipush (v := 16) hx hb d_Tape_fourHexDigits_108 (by decide) ?_
                refine lv_imul hx hb d_Tape_fourHexDigits_110 ?_
                refine lv_iload hx hb d_Tape_fourHexDigits_111 (lv_at hl 0 rfl) ?_
                refine lv_iadd hx hb d_Tape_fourHexDigits_113 ?_
                refine lv_istore_n (lv' := [(1, .int ((a * 16) + (-1))), (4, .int (-1)), (3, .int (-1)), (0, .ref h0), (2, .int (nI (4 - k)))]) hx hb d_Tape_fourHexDigits_114 rfl hl (by decide) rfl (fun ls hl => ?_)
                refine lv_aload_n hx hb d_Tape_fourHexDigits_115 rfl (lv_at hl 3 rfl) ?_
                refine lv_dup hx hb d_Tape_fourHexDigits_116 rfl ?_
                refine va_get (D := (dC, dI)) (ci := 8) (v := .int (nI j)) (C := R_Tape) (T := F_Tape) (N := 7) hx hb hts in_Tape hown hK hP 0 rfl rfl 5 (by decide) (hts _ w_54) (fun _ h9 => h9) rfl d_Tape_fourHexDigits_117 ?_
                refine lv_iconst (v := 1) hx hb d_Tape_fourHexDigits_120 (by decide) ?_
                refine lv_iadd hx hb d_Tape_fourHexDigits_121 ?_
                refine W.eq (g2 := F0 m 122 ls [.int (nI (j + 1)), .ref h0]) (by rw [show ((nI j) + 1) = (nI (j + 1)) from nI_1 _]) ?_
                refine va_put (D := (dC, dI)) (ci := 8) (v := .int (nI (j + 1))) (ty := .int) (C := R_Tape) (T := F_Tape) (N := 7) hx hb hts in_Tape t_Tape t_Tape_ok n_Tape hown hK hP hD hS 0 rfl rfl 5 (by decide) (hts _ w_54) (fun _ h9 => h9) rfl (by decide +kernel) rfl rfl (Nat.le_of_ble_eq_true rfl) d_Tape_fourHexDigits_122 (fun H locs hP hD hS => ?_)
                have hP : va_P (dC, dI) classes [(h0, .inr (8, [.ref qb, ru, .int uc, .int ln, .int (nI n), .int (nI (j + 1)), .int pl])), (qb, .inl (cB, 4096, .inl f))] H := hP
                have hD : va_D A [(h0, .inr (8, [.ref qb, ru, .int uc, .int ln, .int (nI n), .int (nI (j + 1)), .int pl])), (qb, .inl (cB, 4096, .inl f))] := hD
                refine lv_iinc (v := nI (4 - k) + 1) (lv' := [(2, .int (nI (4 - k) + 1)), (1, .int ((a * 16) + (-1))), (4, .int (-1)), (3, .int (-1)), (0, .ref h0)]) hx hb d_Tape_fourHexDigits_125 hl (k := 4) rfl rfl (by decide) rfl (fun ls hl => ?_)
                refine lv_goto (tgt := 4) hx hb d_Tape_fourHexDigits_128 (by decide) ?_
                rw [show (nI (4 - k) + 1 : Int32) = nI (4 - (k - 1)) by rw [nI_1]; congr 1; omega] at hl
                exact ih (k - 1, j + 1, ((a * 16) + (-1))) _ _ _ ⟨by omega, by omega, by rw [← hI.2.2]; obtain ⟨k0, rfl⟩ : ∃ k0, k = k0 + 1 := ⟨k - 1, by omega⟩; exact (hex4_s hd c102).symm⟩ (by show k - 1 < k; omega) hP hD hS (lv_sub hl [4, 1, 0] rfl)
              · refine lv_iconst (v := (-1)) hx hb d_Tape_fourHexDigits_105 (by decide) ?_
                exact W.iret (v := (-1)) hx hb hr (fun t ht hW => ⟨⟨(-1), j, rfl, by rw [← hI.2.2]; obtain ⟨k0, rfl⟩ : ∃ k0, k = k0 + 1 := ⟨k - 1, by omega⟩; exact (hex4_f hd c102).symm, by rw [ht]; exact hP, va_K.moved hW.alike hK, hD⟩, hS.F ht⟩) hS.2.2 d_Tape_fourHexDigits_106
            · refine lv_iload_n hx hb d_Tape_fourHexDigits_81 rfl (lv_at hl 0 rfl) ?_
              refine lv_bipush (v := 70) hx hb d_Tape_fourHexDigits_82 (by decide) ?_
              refine lv_icmp_gt (tgt := 97) hx hb d_Tape_fourHexDigits_84 (by decide) (fun c84 => ?_) (fun c84 => ?_)
              · refine lv_iconst (v := (-1)) hx hb d_Tape_fourHexDigits_97 (by decide) ?_
                have hd : hexV (byteV f n j) = (-1) := by rw [hv]; unfold hexV; rw [if_neg (fun h => h.2 c43), if_neg (fun h => h.1 c56), if_neg (fun h => h.2 c84)]
                refine lv_istore (lv' := [(4, .int (-1)), (3, .int (-1)), (0, .ref h0), (1, .int a), (2, .int (nI (4 - k)))]) hx hb d_Tape_fourHexDigits_98 hl (by decide) rfl (fun ls hl => ?_)
                refine lv_iload hx hb d_Tape_fourHexDigits_100 (lv_at hl 0 rfl) ?_
                refine lv_if_ge (tgt := 107) hx hb d_Tape_fourHexDigits_102 (by decide) (fun c102 => ?_) (fun c102 => ?_)
                · refine lv_iload_n hx hb d_Tape_fourHexDigits_107 rfl (lv_at hl 3 rfl) ?_
                  refine lv_bipush (v := 16) hx hb d_Tape_fourHexDigits_108 (by decide) ?_
                  refine lv_imul hx hb d_Tape_fourHexDigits_110 ?_
                  refine lv_iload hx hb d_Tape_fourHexDigits_111 (lv_at hl 0 rfl) ?_
                  refine lv_iadd hx hb d_Tape_fourHexDigits_113 ?_
                  refine lv_istore_n (lv' := [(1, .int ((a * 16) + (-1))), (4, .int (-1)), (3, .int (-1)), (0, .ref h0), (2, .int (nI (4 - k)))]) hx hb d_Tape_fourHexDigits_114 rfl hl (by decide) rfl (fun ls hl => ?_)
                  refine lv_aload_n hx hb d_Tape_fourHexDigits_115 rfl (lv_at hl 3 rfl) ?_
                  refine lv_dup hx hb d_Tape_fourHexDigits_116 rfl ?_
                  refine va_get (D := (dC, dI)) (ci := 8) (v := .int (nI j)) (C := R_Tape) (T := F_Tape) (N := 7) hx hb hts in_Tape hown hK hP 0 rfl rfl 5 (by decide) (hts _ w_54) (fun _ h9 => h9) rfl d_Tape_fourHexDigits_117 ?_
                  refine lv_iconst (v := 1) hx hb d_Tape_fourHexDigits_120 (by decide) ?_
                  refine lv_iadd hx hb d_Tape_fourHexDigits_121 ?_
                  refine W.eq (g2 := F0 m 122 ls [.int (nI (j + 1)), .ref h0]) (by rw [show ((nI j) + 1) = (nI (j + 1)) from nI_1 _]) ?_
                  refine va_put (D := (dC, dI)) (ci := 8) (v := .int (nI (j + 1))) (ty := .int) (C := R_Tape) (T := F_Tape) (N := 7) hx hb hts in_Tape t_Tape t_Tape_ok n_Tape hown hK hP hD hS 0 rfl rfl 5 (by decide) (hts _ w_54) (fun _ h9 => h9) rfl (by decide +kernel) rfl rfl (Nat.le_of_ble_eq_true rfl) d_Tape_fourHexDigits_122 (fun H locs hP hD hS => ?_)
                  have hP : va_P (dC, dI) classes [(h0, .inr (8, [.ref qb, ru, .int uc, .int ln, .int (nI n), .int (nI (j + 1)), .int pl])), (qb, .inl (cB, 4096, .inl f))] H := hP
                  have hD : va_D A [(h0, .inr (8, [.ref qb, ru, .int uc, .int ln, .int (nI n), .int (nI (j + 1)), .int pl])), (qb, .inl (cB, 4096, .inl f))] := hD
                  refine lv_iinc (v := nI (4 - k) + 1) (lv' := [(2, .int (nI (4 - k) + 1)), (1, .int ((a * 16) + (-1))), (4, .int (-1)), (3, .int (-1)), (0, .ref h0)]) hx hb d_Tape_fourHexDigits_125 hl (k := 4) rfl rfl (by decide) rfl (fun ls hl => ?_)
                  refine lv_goto (tgt := 4) hx hb d_Tape_fourHexDigits_128 (by decide) ?_
                  rw [show (nI (4 - k) + 1 : Int32) = nI (4 - (k - 1)) by rw [nI_1]; congr 1; omega] at hl
                  exact ih (k - 1, j + 1, ((a * 16) + (-1))) _ _ _ ⟨by omega, by omega, by rw [← hI.2.2]; obtain ⟨k0, rfl⟩ : ∃ k0, k = k0 + 1 := ⟨k - 1, by omega⟩; exact (hex4_s hd c102).symm⟩ (by show k - 1 < k; omega) hP hD hS (lv_sub hl [4, 1, 0] rfl)
                · refine lv_iconst (v := (-1)) hx hb d_Tape_fourHexDigits_105 (by decide) ?_
                  exact W.iret (v := (-1)) hx hb hr (fun t ht hW => ⟨⟨(-1), j, rfl, by rw [← hI.2.2]; obtain ⟨k0, rfl⟩ : ∃ k0, k = k0 + 1 := ⟨k - 1, by omega⟩; exact (hex4_f hd c102).symm, by rw [ht]; exact hP, va_K.moved hW.alike hK, hD⟩, hS.F ht⟩) hS.2.2 d_Tape_fourHexDigits_106
              · refine lv_iload_n hx hb d_Tape_fourHexDigits_87 rfl (lv_at hl 0 rfl) ?_
                refine lv_bipush (v := 65) hx hb d_Tape_fourHexDigits_88 (by decide) ?_
                refine lv_isub hx hb d_Tape_fourHexDigits_90 ?_
                refine lv_bipush (v := 10) hx hb d_Tape_fourHexDigits_91 (by decide) ?_
                refine lv_iadd hx hb d_Tape_fourHexDigits_93 ?_
                refine lv_goto (tgt := 98) hx hb d_Tape_fourHexDigits_94 (by decide) ?_
                have hd : hexV (byteV f n j) = (((-1) - 65) + 10) := by rw [hv]; unfold hexV; rw [if_neg (fun h => h.2 c43), if_neg (fun h => h.1 c56), if_pos ⟨c78, c84⟩]
                refine lv_istore (lv' := [(4, .int (((-1) - 65) + 10)), (3, .int (-1)), (0, .ref h0), (1, .int a), (2, .int (nI (4 - k)))]) hx hb d_Tape_fourHexDigits_98 hl (by decide) rfl (fun ls hl => ?_)
                refine lv_iload hx hb d_Tape_fourHexDigits_100 (lv_at hl 0 rfl) ?_
                refine lv_if_ge (tgt := 107) hx hb d_Tape_fourHexDigits_102 (by decide) (fun c102 => ?_) (fun c102 => ?_)
                · refine lv_iload_n hx hb d_Tape_fourHexDigits_107 rfl (lv_at hl 3 rfl) ?_
                  refine lv_bipush (v := 16) hx hb d_Tape_fourHexDigits_108 (by decide) ?_
                  refine lv_imul hx hb d_Tape_fourHexDigits_110 ?_
                  refine lv_iload hx hb d_Tape_fourHexDigits_111 (lv_at hl 0 rfl) ?_
                  refine lv_iadd hx hb d_Tape_fourHexDigits_113 ?_
                  refine lv_istore_n (lv' := [(1, .int ((a * 16) + (((-1) - 65) + 10))), (4, .int (((-1) - 65) + 10)), (3, .int (-1)), (0, .ref h0), (2, .int (nI (4 - k)))]) hx hb d_Tape_fourHexDigits_114 rfl hl (by decide) rfl (fun ls hl => ?_)
                  refine lv_aload_n hx hb d_Tape_fourHexDigits_115 rfl (lv_at hl 3 rfl) ?_
                  refine lv_dup hx hb d_Tape_fourHexDigits_116 rfl ?_
                  refine va_get (D := (dC, dI)) (ci := 8) (v := .int (nI j)) (C := R_Tape) (T := F_Tape) (N := 7) hx hb hts in_Tape hown hK hP 0 rfl rfl 5 (by decide) (hts _ w_54) (fun _ h9 => h9) rfl d_Tape_fourHexDigits_117 ?_
                  refine lv_iconst (v := 1) hx hb d_Tape_fourHexDigits_120 (by decide) ?_
                  refine lv_iadd hx hb d_Tape_fourHexDigits_121 ?_
                  refine W.eq (g2 := F0 m 122 ls [.int (nI (j + 1)), .ref h0]) (by rw [show ((nI j) + 1) = (nI (j + 1)) from nI_1 _]) ?_
                  refine va_put (D := (dC, dI)) (ci := 8) (v := .int (nI (j + 1))) (ty := .int) (C := R_Tape) (T := F_Tape) (N := 7) hx hb hts in_Tape t_Tape t_Tape_ok n_Tape hown hK hP hD hS 0 rfl rfl 5 (by decide) (hts _ w_54) (fun _ h9 => h9) rfl (by decide +kernel) rfl rfl (Nat.le_of_ble_eq_true rfl) d_Tape_fourHexDigits_122 (fun H locs hP hD hS => ?_)
                  have hP : va_P (dC, dI) classes [(h0, .inr (8, [.ref qb, ru, .int uc, .int ln, .int (nI n), .int (nI (j + 1)), .int pl])), (qb, .inl (cB, 4096, .inl f))] H := hP
                  have hD : va_D A [(h0, .inr (8, [.ref qb, ru, .int uc, .int ln, .int (nI n), .int (nI (j + 1)), .int pl])), (qb, .inl (cB, 4096, .inl f))] := hD
                  refine lv_iinc (v := nI (4 - k) + 1) (lv' := [(2, .int (nI (4 - k) + 1)), (1, .int ((a * 16) + (((-1) - 65) + 10))), (4, .int (((-1) - 65) + 10)), (3, .int (-1)), (0, .ref h0)]) hx hb d_Tape_fourHexDigits_125 hl (k := 4) rfl rfl (by decide) rfl (fun ls hl => ?_)
                  refine lv_goto (tgt := 4) hx hb d_Tape_fourHexDigits_128 (by decide) ?_
                  rw [show (nI (4 - k) + 1 : Int32) = nI (4 - (k - 1)) by rw [nI_1]; congr 1; omega] at hl
                  exact ih (k - 1, j + 1, ((a * 16) + (((-1) - 65) + 10))) _ _ _ ⟨by omega, by omega, by rw [← hI.2.2]; obtain ⟨k0, rfl⟩ : ∃ k0, k = k0 + 1 := ⟨k - 1, by omega⟩; exact (hex4_s hd c102).symm⟩ (by show k - 1 < k; omega) hP hD hS (lv_sub hl [4, 1, 0] rfl)
                · refine lv_iconst (v := (-1)) hx hb d_Tape_fourHexDigits_105 (by decide) ?_
                  exact W.iret (v := (-1)) hx hb hr (fun t ht hW => ⟨⟨(-1), j, rfl, by rw [← hI.2.2]; obtain ⟨k0, rfl⟩ : ∃ k0, k = k0 + 1 := ⟨k - 1, by omega⟩; exact (hex4_f hd c102).symm, by rw [ht]; exact hP, va_K.moved hW.alike hK, hD⟩, hS.F ht⟩) hS.2.2 d_Tape_fourHexDigits_106
          · refine lv_iload_n hx hb d_Tape_fourHexDigits_59 rfl (lv_at hl 0 rfl) ?_
            refine lv_bipush (v := 102) hx hb d_Tape_fourHexDigits_60 (by decide) ?_
            refine lv_icmp_gt (tgt := 75) hx hb d_Tape_fourHexDigits_62 (by decide) (fun c62 => ?_) (fun c62 => ?_)
            · refine lv_iload_n hx hb d_Tape_fourHexDigits_75 rfl (lv_at hl 0 rfl) ?_
              refine lv_bipush (v := 65) hx hb d_Tape_fourHexDigits_76 (by decide) ?_
              refine lv_icmp_lt (tgt := 97) hx hb d_Tape_fourHexDigits_78 (by decide) (fun c78 => ?_) (fun c78 => ?_)
              · refine lv_iconst (v := (-1)) hx hb d_Tape_fourHexDigits_97 (by decide) ?_
                have hd : hexV (byteV f n j) = (-1) := by rw [hv]; unfold hexV; rw [if_neg (fun h => h.2 c43), if_neg (fun h => h.2 c62), if_neg (fun h => h.1 c78)]
                refine lv_istore (lv' := [(4, .int (-1)), (3, .int (-1)), (0, .ref h0), (1, .int a), (2, .int (nI (4 - k)))]) hx hb d_Tape_fourHexDigits_98 hl (by decide) rfl (fun ls hl => ?_)
                refine lv_iload hx hb d_Tape_fourHexDigits_100 (lv_at hl 0 rfl) ?_
                refine lv_if_ge (tgt := 107) hx hb d_Tape_fourHexDigits_102 (by decide) (fun c102 => ?_) (fun c102 => ?_)
                · refine lv_iload_n hx hb d_Tape_fourHexDigits_107 rfl (lv_at hl 3 rfl) ?_
                  refine lv_bipush (v := 16) hx hb d_Tape_fourHexDigits_108 (by decide) ?_
                  refine lv_imul hx hb d_Tape_fourHexDigits_110 ?_
                  refine lv_iload hx hb d_Tape_fourHexDigits_111 (lv_at hl 0 rfl) ?_
                  refine lv_iadd hx hb d_Tape_fourHexDigits_113 ?_
                  refine lv_istore_n (lv' := [(1, .int ((a * 16) + (-1))), (4, .int (-1)), (3, .int (-1)), (0, .ref h0), (2, .int (nI (4 - k)))]) hx hb d_Tape_fourHexDigits_114 rfl hl (by decide) rfl (fun ls hl => ?_)
                  refine lv_aload_n hx hb d_Tape_fourHexDigits_115 rfl (lv_at hl 3 rfl) ?_
                  refine lv_dup hx hb d_Tape_fourHexDigits_116 rfl ?_
                  refine va_get (D := (dC, dI)) (ci := 8) (v := .int (nI j)) (C := R_Tape) (T := F_Tape) (N := 7) hx hb hts in_Tape hown hK hP 0 rfl rfl 5 (by decide) (hts _ w_54) (fun _ h9 => h9) rfl d_Tape_fourHexDigits_117 ?_
                  refine lv_iconst (v := 1) hx hb d_Tape_fourHexDigits_120 (by decide) ?_
                  refine lv_iadd hx hb d_Tape_fourHexDigits_121 ?_
                  refine W.eq (g2 := F0 m 122 ls [.int (nI (j + 1)), .ref h0]) (by rw [show ((nI j) + 1) = (nI (j + 1)) from nI_1 _]) ?_
                  refine va_put (D := (dC, dI)) (ci := 8) (v := .int (nI (j + 1))) (ty := .int) (C := R_Tape) (T := F_Tape) (N := 7) hx hb hts in_Tape t_Tape t_Tape_ok n_Tape hown hK hP hD hS 0 rfl rfl 5 (by decide) (hts _ w_54) (fun _ h9 => h9) rfl (by decide +kernel) rfl rfl (Nat.le_of_ble_eq_true rfl) d_Tape_fourHexDigits_122 (fun H locs hP hD hS => ?_)
                  have hP : va_P (dC, dI) classes [(h0, .inr (8, [.ref qb, ru, .int uc, .int ln, .int (nI n), .int (nI (j + 1)), .int pl])), (qb, .inl (cB, 4096, .inl f))] H := hP
                  have hD : va_D A [(h0, .inr (8, [.ref qb, ru, .int uc, .int ln, .int (nI n), .int (nI (j + 1)), .int pl])), (qb, .inl (cB, 4096, .inl f))] := hD
                  refine lv_iinc (v := nI (4 - k) + 1) (lv' := [(2, .int (nI (4 - k) + 1)), (1, .int ((a * 16) + (-1))), (4, .int (-1)), (3, .int (-1)), (0, .ref h0)]) hx hb d_Tape_fourHexDigits_125 hl (k := 4) rfl rfl (by decide) rfl (fun ls hl => ?_)
                  refine lv_goto (tgt := 4) hx hb d_Tape_fourHexDigits_128 (by decide) ?_
                  rw [show (nI (4 - k) + 1 : Int32) = nI (4 - (k - 1)) by rw [nI_1]; congr 1; omega] at hl
                  exact ih (k - 1, j + 1, ((a * 16) + (-1))) _ _ _ ⟨by omega, by omega, by rw [← hI.2.2]; obtain ⟨k0, rfl⟩ : ∃ k0, k = k0 + 1 := ⟨k - 1, by omega⟩; exact (hex4_s hd c102).symm⟩ (by show k - 1 < k; omega) hP hD hS (lv_sub hl [4, 1, 0] rfl)
                · refine lv_iconst (v := (-1)) hx hb d_Tape_fourHexDigits_105 (by decide) ?_
                  exact W.iret (v := (-1)) hx hb hr (fun t ht hW => ⟨⟨(-1), j, rfl, by rw [← hI.2.2]; obtain ⟨k0, rfl⟩ : ∃ k0, k = k0 + 1 := ⟨k - 1, by omega⟩; exact (hex4_f hd c102).symm, by rw [ht]; exact hP, va_K.moved hW.alike hK, hD⟩, hS.F ht⟩) hS.2.2 d_Tape_fourHexDigits_106
              · refine lv_iload_n hx hb d_Tape_fourHexDigits_81 rfl (lv_at hl 0 rfl) ?_
                refine lv_bipush (v := 70) hx hb d_Tape_fourHexDigits_82 (by decide) ?_
                refine lv_icmp_gt (tgt := 97) hx hb d_Tape_fourHexDigits_84 (by decide) (fun c84 => ?_) (fun c84 => ?_)
                · refine lv_iconst (v := (-1)) hx hb d_Tape_fourHexDigits_97 (by decide) ?_
                  have hd : hexV (byteV f n j) = (-1) := by rw [hv]; unfold hexV; rw [if_neg (fun h => h.2 c43), if_neg (fun h => h.2 c62), if_neg (fun h => h.2 c84)]
                  refine lv_istore (lv' := [(4, .int (-1)), (3, .int (-1)), (0, .ref h0), (1, .int a), (2, .int (nI (4 - k)))]) hx hb d_Tape_fourHexDigits_98 hl (by decide) rfl (fun ls hl => ?_)
                  refine lv_iload hx hb d_Tape_fourHexDigits_100 (lv_at hl 0 rfl) ?_
                  refine lv_if_ge (tgt := 107) hx hb d_Tape_fourHexDigits_102 (by decide) (fun c102 => ?_) (fun c102 => ?_)
                  · refine lv_iload_n hx hb d_Tape_fourHexDigits_107 rfl (lv_at hl 3 rfl) ?_
                    refine lv_bipush (v := 16) hx hb d_Tape_fourHexDigits_108 (by decide) ?_
                    refine lv_imul hx hb d_Tape_fourHexDigits_110 ?_
                    refine lv_iload hx hb d_Tape_fourHexDigits_111 (lv_at hl 0 rfl) ?_
                    refine lv_iadd hx hb d_Tape_fourHexDigits_113 ?_
                    refine lv_istore_n (lv' := [(1, .int ((a * 16) + (-1))), (4, .int (-1)), (3, .int (-1)), (0, .ref h0), (2, .int (nI (4 - k)))]) hx hb d_Tape_fourHexDigits_114 rfl hl (by decide) rfl (fun ls hl => ?_)
                    refine lv_aload_n hx hb d_Tape_fourHexDigits_115 rfl (lv_at hl 3 rfl) ?_
                    refine lv_dup hx hb d_Tape_fourHexDigits_116 rfl ?_
                    refine va_get (D := (dC, dI)) (ci := 8) (v := .int (nI j)) (C := R_Tape) (T := F_Tape) (N := 7) hx hb hts in_Tape hown hK hP 0 rfl rfl 5 (by decide) (hts _ w_54) (fun _ h9 => h9) rfl d_Tape_fourHexDigits_117 ?_
                    refine lv_iconst (v := 1) hx hb d_Tape_fourHexDigits_120 (by decide) ?_
                    refine lv_iadd hx hb d_Tape_fourHexDigits_121 ?_
                    refine W.eq (g2 := F0 m 122 ls [.int (nI (j + 1)), .ref h0]) (by rw [show ((nI j) + 1) = (nI (j + 1)) from nI_1 _]) ?_
                    refine va_put (D := (dC, dI)) (ci := 8) (v := .int (nI (j + 1))) (ty := .int) (C := R_Tape) (T := F_Tape) (N := 7) hx hb hts in_Tape t_Tape t_Tape_ok n_Tape hown hK hP hD hS 0 rfl rfl 5 (by decide) (hts _ w_54) (fun _ h9 => h9) rfl (by decide +kernel) rfl rfl (Nat.le_of_ble_eq_true rfl) d_Tape_fourHexDigits_122 (fun H locs hP hD hS => ?_)
                    have hP : va_P (dC, dI) classes [(h0, .inr (8, [.ref qb, ru, .int uc, .int ln, .int (nI n), .int (nI (j + 1)), .int pl])), (qb, .inl (cB, 4096, .inl f))] H := hP
                    have hD : va_D A [(h0, .inr (8, [.ref qb, ru, .int uc, .int ln, .int (nI n), .int (nI (j + 1)), .int pl])), (qb, .inl (cB, 4096, .inl f))] := hD
                    refine lv_iinc (v := nI (4 - k) + 1) (lv' := [(2, .int (nI (4 - k) + 1)), (1, .int ((a * 16) + (-1))), (4, .int (-1)), (3, .int (-1)), (0, .ref h0)]) hx hb d_Tape_fourHexDigits_125 hl (k := 4) rfl rfl (by decide) rfl (fun ls hl => ?_)
                    refine lv_goto (tgt := 4) hx hb d_Tape_fourHexDigits_128 (by decide) ?_
                    rw [show (nI (4 - k) + 1 : Int32) = nI (4 - (k - 1)) by rw [nI_1]; congr 1; omega] at hl
                    exact ih (k - 1, j + 1, ((a * 16) + (-1))) _ _ _ ⟨by omega, by omega, by rw [← hI.2.2]; obtain ⟨k0, rfl⟩ : ∃ k0, k = k0 + 1 := ⟨k - 1, by omega⟩; exact (hex4_s hd c102).symm⟩ (by show k - 1 < k; omega) hP hD hS (lv_sub hl [4, 1, 0] rfl)
                  · refine lv_iconst (v := (-1)) hx hb d_Tape_fourHexDigits_105 (by decide) ?_
                    exact W.iret (v := (-1)) hx hb hr (fun t ht hW => ⟨⟨(-1), j, rfl, by rw [← hI.2.2]; obtain ⟨k0, rfl⟩ : ∃ k0, k = k0 + 1 := ⟨k - 1, by omega⟩; exact (hex4_f hd c102).symm, by rw [ht]; exact hP, va_K.moved hW.alike hK, hD⟩, hS.F ht⟩) hS.2.2 d_Tape_fourHexDigits_106
                · refine lv_iload_n hx hb d_Tape_fourHexDigits_87 rfl (lv_at hl 0 rfl) ?_
                  refine lv_bipush (v := 65) hx hb d_Tape_fourHexDigits_88 (by decide) ?_
                  refine lv_isub hx hb d_Tape_fourHexDigits_90 ?_
                  refine lv_bipush (v := 10) hx hb d_Tape_fourHexDigits_91 (by decide) ?_
                  refine lv_iadd hx hb d_Tape_fourHexDigits_93 ?_
                  refine lv_goto (tgt := 98) hx hb d_Tape_fourHexDigits_94 (by decide) ?_
                  have hd : hexV (byteV f n j) = (((-1) - 65) + 10) := by rw [hv]; unfold hexV; rw [if_neg (fun h => h.2 c43), if_neg (fun h => h.2 c62), if_pos ⟨c78, c84⟩]
                  refine lv_istore (lv' := [(4, .int (((-1) - 65) + 10)), (3, .int (-1)), (0, .ref h0), (1, .int a), (2, .int (nI (4 - k)))]) hx hb d_Tape_fourHexDigits_98 hl (by decide) rfl (fun ls hl => ?_)
                  refine lv_iload hx hb d_Tape_fourHexDigits_100 (lv_at hl 0 rfl) ?_
                  refine lv_if_ge (tgt := 107) hx hb d_Tape_fourHexDigits_102 (by decide) (fun c102 => ?_) (fun c102 => ?_)
                  · refine lv_iload_n hx hb d_Tape_fourHexDigits_107 rfl (lv_at hl 3 rfl) ?_
                    refine lv_bipush (v := 16) hx hb d_Tape_fourHexDigits_108 (by decide) ?_
                    refine lv_imul hx hb d_Tape_fourHexDigits_110 ?_
                    refine lv_iload hx hb d_Tape_fourHexDigits_111 (lv_at hl 0 rfl) ?_
                    refine lv_iadd hx hb d_Tape_fourHexDigits_113 ?_
                    refine lv_istore_n (lv' := [(1, .int ((a * 16) + (((-1) - 65) + 10))), (4, .int (((-1) - 65) + 10)), (3, .int (-1)), (0, .ref h0), (2, .int (nI (4 - k)))]) hx hb d_Tape_fourHexDigits_114 rfl hl (by decide) rfl (fun ls hl => ?_)
                    refine lv_aload_n hx hb d_Tape_fourHexDigits_115 rfl (lv_at hl 3 rfl) ?_
                    refine lv_dup hx hb d_Tape_fourHexDigits_116 rfl ?_
                    refine va_get (D := (dC, dI)) (ci := 8) (v := .int (nI j)) (C := R_Tape) (T := F_Tape) (N := 7) hx hb hts in_Tape hown hK hP 0 rfl rfl 5 (by decide) (hts _ w_54) (fun _ h9 => h9) rfl d_Tape_fourHexDigits_117 ?_
                    refine lv_iconst (v := 1) hx hb d_Tape_fourHexDigits_120 (by decide) ?_
                    refine lv_iadd hx hb d_Tape_fourHexDigits_121 ?_
                    refine W.eq (g2 := F0 m 122 ls [.int (nI (j + 1)), .ref h0]) (by rw [show ((nI j) + 1) = (nI (j + 1)) from nI_1 _]) ?_
                    refine va_put (D := (dC, dI)) (ci := 8) (v := .int (nI (j + 1))) (ty := .int) (C := R_Tape) (T := F_Tape) (N := 7) hx hb hts in_Tape t_Tape t_Tape_ok n_Tape hown hK hP hD hS 0 rfl rfl 5 (by decide) (hts _ w_54) (fun _ h9 => h9) rfl (by decide +kernel) rfl rfl (Nat.le_of_ble_eq_true rfl) d_Tape_fourHexDigits_122 (fun H locs hP hD hS => ?_)
                    have hP : va_P (dC, dI) classes [(h0, .inr (8, [.ref qb, ru, .int uc, .int ln, .int (nI n), .int (nI (j + 1)), .int pl])), (qb, .inl (cB, 4096, .inl f))] H := hP
                    have hD : va_D A [(h0, .inr (8, [.ref qb, ru, .int uc, .int ln, .int (nI n), .int (nI (j + 1)), .int pl])), (qb, .inl (cB, 4096, .inl f))] := hD
                    refine lv_iinc (v := nI (4 - k) + 1) (lv' := [(2, .int (nI (4 - k) + 1)), (1, .int ((a * 16) + (((-1) - 65) + 10))), (4, .int (((-1) - 65) + 10)), (3, .int (-1)), (0, .ref h0)]) hx hb d_Tape_fourHexDigits_125 hl (k := 4) rfl rfl (by decide) rfl (fun ls hl => ?_)
                    refine lv_goto (tgt := 4) hx hb d_Tape_fourHexDigits_128 (by decide) ?_
                    rw [show (nI (4 - k) + 1 : Int32) = nI (4 - (k - 1)) by rw [nI_1]; congr 1; omega] at hl
                    exact ih (k - 1, j + 1, ((a * 16) + (((-1) - 65) + 10))) _ _ _ ⟨by omega, by omega, by rw [← hI.2.2]; obtain ⟨k0, rfl⟩ : ∃ k0, k = k0 + 1 := ⟨k - 1, by omega⟩; exact (hex4_s hd c102).symm⟩ (by show k - 1 < k; omega) hP hD hS (lv_sub hl [4, 1, 0] rfl)
                  · refine lv_iconst (v := (-1)) hx hb d_Tape_fourHexDigits_105 (by decide) ?_
                    exact W.iret (v := (-1)) hx hb hr (fun t ht hW => ⟨⟨(-1), j, rfl, by rw [← hI.2.2]; obtain ⟨k0, rfl⟩ : ∃ k0, k = k0 + 1 := ⟨k - 1, by omega⟩; exact (hex4_f hd c102).symm, by rw [ht]; exact hP, va_K.moved hW.alike hK, hD⟩, hS.F ht⟩) hS.2.2 d_Tape_fourHexDigits_106
            · refine lv_iload_n hx hb d_Tape_fourHexDigits_65 rfl (lv_at hl 0 rfl) ?_
              refine lv_bipush (v := 97) hx hb d_Tape_fourHexDigits_66 (by decide) ?_
              refine lv_isub hx hb d_Tape_fourHexDigits_68 ?_
              refine lv_bipush (v := 10) hx hb d_Tape_fourHexDigits_69 (by decide) ?_
              refine lv_iadd hx hb d_Tape_fourHexDigits_71 ?_
              refine lv_goto (tgt := 98) hx hb d_Tape_fourHexDigits_72 (by decide) ?_
              have hd : hexV (byteV f n j) = (((-1) - 97) + 10) := by rw [hv]; unfold hexV; rw [if_neg (fun h => h.2 c43), if_pos ⟨c56, c62⟩]
              refine lv_istore (lv' := [(4, .int (((-1) - 97) + 10)), (3, .int (-1)), (0, .ref h0), (1, .int a), (2, .int (nI (4 - k)))]) hx hb d_Tape_fourHexDigits_98 hl (by decide) rfl (fun ls hl => ?_)
              refine lv_iload hx hb d_Tape_fourHexDigits_100 (lv_at hl 0 rfl) ?_
              refine lv_if_ge (tgt := 107) hx hb d_Tape_fourHexDigits_102 (by decide) (fun c102 => ?_) (fun c102 => ?_)
              · refine lv_iload_n hx hb d_Tape_fourHexDigits_107 rfl (lv_at hl 3 rfl) ?_
                refine lv_bipush (v := 16) hx hb d_Tape_fourHexDigits_108 (by decide) ?_
                refine lv_imul hx hb d_Tape_fourHexDigits_110 ?_
                refine lv_iload hx hb d_Tape_fourHexDigits_111 (lv_at hl 0 rfl) ?_
                refine lv_iadd hx hb d_Tape_fourHexDigits_113 ?_
                refine lv_istore_n (lv' := [(1, .int ((a * 16) + (((-1) - 97) + 10))), (4, .int (((-1) - 97) + 10)), (3, .int (-1)), (0, .ref h0), (2, .int (nI (4 - k)))]) hx hb d_Tape_fourHexDigits_114 rfl hl (by decide) rfl (fun ls hl => ?_)
                refine lv_aload_n hx hb d_Tape_fourHexDigits_115 rfl (lv_at hl 3 rfl) ?_
                refine lv_dup hx hb d_Tape_fourHexDigits_116 rfl ?_
                refine va_get (D := (dC, dI)) (ci := 8) (v := .int (nI j)) (C := R_Tape) (T := F_Tape) (N := 7) hx hb hts in_Tape hown hK hP 0 rfl rfl 5 (by decide) (hts _ w_54) (fun _ h9 => h9) rfl d_Tape_fourHexDigits_117 ?_
                refine lv_iconst (v := 1) hx hb d_Tape_fourHexDigits_120 (by decide) ?_
                refine lv_iadd hx hb d_Tape_fourHexDigits_121 ?_
                refine W.eq (g2 := F0 m 122 ls [.int (nI (j + 1)), .ref h0]) (by rw [show ((nI j) + 1) = (nI (j + 1)) from nI_1 _]) ?_
                refine va_put (D := (dC, dI)) (ci := 8) (v := .int (nI (j + 1))) (ty := .int) (C := R_Tape) (T := F_Tape) (N := 7) hx hb hts in_Tape t_Tape t_Tape_ok n_Tape hown hK hP hD hS 0 rfl rfl 5 (by decide) (hts _ w_54) (fun _ h9 => h9) rfl (by decide +kernel) rfl rfl (Nat.le_of_ble_eq_true rfl) d_Tape_fourHexDigits_122 (fun H locs hP hD hS => ?_)
                have hP : va_P (dC, dI) classes [(h0, .inr (8, [.ref qb, ru, .int uc, .int ln, .int (nI n), .int (nI (j + 1)), .int pl])), (qb, .inl (cB, 4096, .inl f))] H := hP
                have hD : va_D A [(h0, .inr (8, [.ref qb, ru, .int uc, .int ln, .int (nI n), .int (nI (j + 1)), .int pl])), (qb, .inl (cB, 4096, .inl f))] := hD
                refine lv_iinc (v := nI (4 - k) + 1) (lv' := [(2, .int (nI (4 - k) + 1)), (1, .int ((a * 16) + (((-1) - 97) + 10))), (4, .int (((-1) - 97) + 10)), (3, .int (-1)), (0, .ref h0)]) hx hb d_Tape_fourHexDigits_125 hl (k := 4) rfl rfl (by decide) rfl (fun ls hl => ?_)
                refine lv_goto (tgt := 4) hx hb d_Tape_fourHexDigits_128 (by decide) ?_
                rw [show (nI (4 - k) + 1 : Int32) = nI (4 - (k - 1)) by rw [nI_1]; congr 1; omega] at hl
                exact ih (k - 1, j + 1, ((a * 16) + (((-1) - 97) + 10))) _ _ _ ⟨by omega, by omega, by rw [← hI.2.2]; obtain ⟨k0, rfl⟩ : ∃ k0, k = k0 + 1 := ⟨k - 1, by omega⟩; exact (hex4_s hd c102).symm⟩ (by show k - 1 < k; omega) hP hD hS (lv_sub hl [4, 1, 0] rfl)
              · refine lv_iconst (v := (-1)) hx hb d_Tape_fourHexDigits_105 (by decide) ?_
                exact W.iret (v := (-1)) hx hb hr (fun t ht hW => ⟨⟨(-1), j, rfl, by rw [← hI.2.2]; obtain ⟨k0, rfl⟩ : ∃ k0, k = k0 + 1 := ⟨k - 1, by omega⟩; exact (hex4_f hd c102).symm, by rw [ht]; exact hP, va_K.moved hW.alike hK, hD⟩, hS.F ht⟩) hS.2.2 d_Tape_fourHexDigits_106
        · refine lv_iload_n hx hb d_Tape_fourHexDigits_46 rfl (lv_at hl 0 rfl) ?_
          refine lv_bipush (v := 48) hx hb d_Tape_fourHexDigits_47 (by decide) ?_
          refine lv_isub hx hb d_Tape_fourHexDigits_49 ?_
          refine lv_goto (tgt := 98) hx hb d_Tape_fourHexDigits_50 (by decide) ?_
          have hd : hexV (byteV f n j) = ((-1) - 48) := by rw [hv]; unfold hexV; rw [if_pos ⟨c37, c43⟩]
          refine lv_istore (lv' := [(4, .int ((-1) - 48)), (3, .int (-1)), (0, .ref h0), (1, .int a), (2, .int (nI (4 - k)))]) hx hb d_Tape_fourHexDigits_98 hl (by decide) rfl (fun ls hl => ?_)
          refine lv_iload hx hb d_Tape_fourHexDigits_100 (lv_at hl 0 rfl) ?_
          refine lv_if_ge (tgt := 107) hx hb d_Tape_fourHexDigits_102 (by decide) (fun c102 => ?_) (fun c102 => ?_)
          · refine lv_iload_n hx hb d_Tape_fourHexDigits_107 rfl (lv_at hl 3 rfl) ?_
            refine lv_bipush (v := 16) hx hb d_Tape_fourHexDigits_108 (by decide) ?_
            refine lv_imul hx hb d_Tape_fourHexDigits_110 ?_
            refine lv_iload hx hb d_Tape_fourHexDigits_111 (lv_at hl 0 rfl) ?_
            refine lv_iadd hx hb d_Tape_fourHexDigits_113 ?_
            refine lv_istore_n (lv' := [(1, .int ((a * 16) + ((-1) - 48))), (4, .int ((-1) - 48)), (3, .int (-1)), (0, .ref h0), (2, .int (nI (4 - k)))]) hx hb d_Tape_fourHexDigits_114 rfl hl (by decide) rfl (fun ls hl => ?_)
            refine lv_aload_n hx hb d_Tape_fourHexDigits_115 rfl (lv_at hl 3 rfl) ?_
            refine lv_dup hx hb d_Tape_fourHexDigits_116 rfl ?_
            refine va_get (D := (dC, dI)) (ci := 8) (v := .int (nI j)) (C := R_Tape) (T := F_Tape) (N := 7) hx hb hts in_Tape hown hK hP 0 rfl rfl 5 (by decide) (hts _ w_54) (fun _ h9 => h9) rfl d_Tape_fourHexDigits_117 ?_
            refine lv_iconst (v := 1) hx hb d_Tape_fourHexDigits_120 (by decide) ?_
            refine lv_iadd hx hb d_Tape_fourHexDigits_121 ?_
            refine W.eq (g2 := F0 m 122 ls [.int (nI (j + 1)), .ref h0]) (by rw [show ((nI j) + 1) = (nI (j + 1)) from nI_1 _]) ?_
            refine va_put (D := (dC, dI)) (ci := 8) (v := .int (nI (j + 1))) (ty := .int) (C := R_Tape) (T := F_Tape) (N := 7) hx hb hts in_Tape t_Tape t_Tape_ok n_Tape hown hK hP hD hS 0 rfl rfl 5 (by decide) (hts _ w_54) (fun _ h9 => h9) rfl (by decide +kernel) rfl rfl (Nat.le_of_ble_eq_true rfl) d_Tape_fourHexDigits_122 (fun H locs hP hD hS => ?_)
            have hP : va_P (dC, dI) classes [(h0, .inr (8, [.ref qb, ru, .int uc, .int ln, .int (nI n), .int (nI (j + 1)), .int pl])), (qb, .inl (cB, 4096, .inl f))] H := hP
            have hD : va_D A [(h0, .inr (8, [.ref qb, ru, .int uc, .int ln, .int (nI n), .int (nI (j + 1)), .int pl])), (qb, .inl (cB, 4096, .inl f))] := hD
            refine lv_iinc (v := nI (4 - k) + 1) (lv' := [(2, .int (nI (4 - k) + 1)), (1, .int ((a * 16) + ((-1) - 48))), (4, .int ((-1) - 48)), (3, .int (-1)), (0, .ref h0)]) hx hb d_Tape_fourHexDigits_125 hl (k := 4) rfl rfl (by decide) rfl (fun ls hl => ?_)
            refine lv_goto (tgt := 4) hx hb d_Tape_fourHexDigits_128 (by decide) ?_
            rw [show (nI (4 - k) + 1 : Int32) = nI (4 - (k - 1)) by rw [nI_1]; congr 1; omega] at hl
            exact ih (k - 1, j + 1, ((a * 16) + ((-1) - 48))) _ _ _ ⟨by omega, by omega, by rw [← hI.2.2]; obtain ⟨k0, rfl⟩ : ∃ k0, k = k0 + 1 := ⟨k - 1, by omega⟩; exact (hex4_s hd c102).symm⟩ (by show k - 1 < k; omega) hP hD hS (lv_sub hl [4, 1, 0] rfl)
          · refine lv_iconst (v := (-1)) hx hb d_Tape_fourHexDigits_105 (by decide) ?_
            exact W.iret (v := (-1)) hx hb hr (fun t ht hW => ⟨⟨(-1), j, rfl, by rw [← hI.2.2]; obtain ⟨k0, rfl⟩ : ∃ k0, k = k0 + 1 := ⟨k - 1, by omega⟩; exact (hex4_f hd c102).symm, by rw [ht]; exact hP, va_K.moved hW.alike hK, hD⟩, hS.F ht⟩) hS.2.2 d_Tape_fourHexDigits_106
    · refine lv_aload_n hx hb d_Tape_fourHexDigits_20 rfl (lv_at hl 0 rfl) ?_
      refine va_get (D := (dC, dI)) (ci := 8) (v := .ref qb) (C := R_Tape) (T := F_Tape) (N := 7) hx hb hts in_Tape hown hK hP 0 rfl rfl 0 (by decide) (hts _ w_43) (fun _ h9 => h9) rfl d_Tape_fourHexDigits_21 ?_
      refine lv_aload_n hx hb d_Tape_fourHexDigits_24 rfl (lv_at hl 0 rfl) ?_
      refine va_get (D := (dC, dI)) (ci := 8) (v := .int (nI j)) (C := R_Tape) (T := F_Tape) (N := 7) hx hb hts in_Tape hown hK hP 0 rfl rfl 5 (by decide) (hts _ w_54) (fun _ h9 => h9) rfl d_Tape_fourHexDigits_25 ?_
      have hj : j < n := by rw [nI_leI (by omega) (by omega)] at c17; omega
      refine va_bald hx hb hK hP 1 0 rfl rfl (vp_in_nI (show j < 4096 by omega) (by decide)) d_Tape_fourHexDigits_28 ?_
      rw [show (nI j).toNatClampNeg = j from nI_clamp (by omega)]
      refine lv_goto (tgt := 33) hx hb d_Tape_fourHexDigits_29 (by decide) ?_
      have hk : 0 < k := Nat.pos_of_ne_zero (fun h => by subst h; exact c6 (by decide))
      have hv : byteV f n j = f j := by unfold byteV; rw [if_pos hj]
      refine lv_istore_n (lv' := [(3, .int (f j)), (0, .ref h0), (1, .int a), (2, .int (nI (4 - k)))]) hx hb d_Tape_fourHexDigits_33 rfl hl (by decide) rfl (fun ls hl => ?_)
      refine lv_iload_n hx hb d_Tape_fourHexDigits_34 rfl (lv_at hl 0 rfl) ?_
      refine lv_bipush (v := 48) hx hb d_Tape_fourHexDigits_35 (by decide) ?_
      refine lv_icmp_lt (tgt := 53) hx hb d_Tape_fourHexDigits_37 (by decide) (fun c37 => ?_) (fun c37 => ?_)
      · refine lv_iload_n hx hb d_Tape_fourHexDigits_53 rfl (lv_at hl 0 rfl) ?_
        refine lv_bipush (v := 97) hx hb d_Tape_fourHexDigits_54 (by decide) ?_
        refine lv_icmp_lt (tgt := 75) hx hb d_Tape_fourHexDigits_56 (by decide) (fun c56 => ?_) (fun c56 => ?_)
        · refine lv_iload_n hx hb d_Tape_fourHexDigits_75 rfl (lv_at hl 0 rfl) ?_
          refine lv_bipush (v := 65) hx hb d_Tape_fourHexDigits_76 (by decide) ?_
          refine lv_icmp_lt (tgt := 97) hx hb d_Tape_fourHexDigits_78 (by decide) (fun c78 => ?_) (fun c78 => ?_)
          · refine lv_iconst (v := (-1)) hx hb d_Tape_fourHexDigits_97 (by decide) ?_
            have hd : hexV (byteV f n j) = (-1) := by rw [hv]; unfold hexV; rw [if_neg (fun h => h.1 c37), if_neg (fun h => h.1 c56), if_neg (fun h => h.1 c78)]
            refine lv_istore (lv' := [(4, .int (-1)), (3, .int (f j)), (0, .ref h0), (1, .int a), (2, .int (nI (4 - k)))]) hx hb d_Tape_fourHexDigits_98 hl (by decide) rfl (fun ls hl => ?_)
            refine lv_iload hx hb d_Tape_fourHexDigits_100 (lv_at hl 0 rfl) ?_
            refine lv_if_ge (tgt := 107) hx hb d_Tape_fourHexDigits_102 (by decide) (fun c102 => ?_) (fun c102 => ?_)
            · refine lv_iload_n hx hb d_Tape_fourHexDigits_107 rfl (lv_at hl 3 rfl) ?_
              refine lv_bipush (v := 16) hx hb d_Tape_fourHexDigits_108 (by decide) ?_
              refine lv_imul hx hb d_Tape_fourHexDigits_110 ?_
              refine lv_iload hx hb d_Tape_fourHexDigits_111 (lv_at hl 0 rfl) ?_
              refine lv_iadd hx hb d_Tape_fourHexDigits_113 ?_
              refine lv_istore_n (lv' := [(1, .int ((a * 16) + (-1))), (4, .int (-1)), (3, .int (f j)), (0, .ref h0), (2, .int (nI (4 - k)))]) hx hb d_Tape_fourHexDigits_114 rfl hl (by decide) rfl (fun ls hl => ?_)
              refine lv_aload_n hx hb d_Tape_fourHexDigits_115 rfl (lv_at hl 3 rfl) ?_
              refine lv_dup hx hb d_Tape_fourHexDigits_116 rfl ?_
              refine va_get (D := (dC, dI)) (ci := 8) (v := .int (nI j)) (C := R_Tape) (T := F_Tape) (N := 7) hx hb hts in_Tape hown hK hP 0 rfl rfl 5 (by decide) (hts _ w_54) (fun _ h9 => h9) rfl d_Tape_fourHexDigits_117 ?_
              refine lv_iconst (v := 1) hx hb d_Tape_fourHexDigits_120 (by decide) ?_
              refine lv_iadd hx hb d_Tape_fourHexDigits_121 ?_
              refine W.eq (g2 := F0 m 122 ls [.int (nI (j + 1)), .ref h0]) (by rw [show ((nI j) + 1) = (nI (j + 1)) from nI_1 _]) ?_
              refine va_put (D := (dC, dI)) (ci := 8) (v := .int (nI (j + 1))) (ty := .int) (C := R_Tape) (T := F_Tape) (N := 7) hx hb hts in_Tape t_Tape t_Tape_ok n_Tape hown hK hP hD hS 0 rfl rfl 5 (by decide) (hts _ w_54) (fun _ h9 => h9) rfl (by decide +kernel) rfl rfl (Nat.le_of_ble_eq_true rfl) d_Tape_fourHexDigits_122 (fun H locs hP hD hS => ?_)
              have hP : va_P (dC, dI) classes [(h0, .inr (8, [.ref qb, ru, .int uc, .int ln, .int (nI n), .int (nI (j + 1)), .int pl])), (qb, .inl (cB, 4096, .inl f))] H := hP
              have hD : va_D A [(h0, .inr (8, [.ref qb, ru, .int uc, .int ln, .int (nI n), .int (nI (j + 1)), .int pl])), (qb, .inl (cB, 4096, .inl f))] := hD
              refine lv_iinc (v := nI (4 - k) + 1) (lv' := [(2, .int (nI (4 - k) + 1)), (1, .int ((a * 16) + (-1))), (4, .int (-1)), (3, .int (f j)), (0, .ref h0)]) hx hb d_Tape_fourHexDigits_125 hl (k := 4) rfl rfl (by decide) rfl (fun ls hl => ?_)
              refine lv_goto (tgt := 4) hx hb d_Tape_fourHexDigits_128 (by decide) ?_
              rw [show (nI (4 - k) + 1 : Int32) = nI (4 - (k - 1)) by rw [nI_1]; congr 1; omega] at hl
              exact ih (k - 1, j + 1, ((a * 16) + (-1))) _ _ _ ⟨by omega, by omega, by rw [← hI.2.2]; obtain ⟨k0, rfl⟩ : ∃ k0, k = k0 + 1 := ⟨k - 1, by omega⟩; exact (hex4_s hd c102).symm⟩ (by show k - 1 < k; omega) hP hD hS (lv_sub hl [4, 1, 0] rfl)
            · refine lv_iconst (v := (-1)) hx hb d_Tape_fourHexDigits_105 (by decide) ?_
              exact W.iret (v := (-1)) hx hb hr (fun t ht hW => ⟨⟨(-1), j, rfl, by rw [← hI.2.2]; obtain ⟨k0, rfl⟩ : ∃ k0, k = k0 + 1 := ⟨k - 1, by omega⟩; exact (hex4_f hd c102).symm, by rw [ht]; exact hP, va_K.moved hW.alike hK, hD⟩, hS.F ht⟩) hS.2.2 d_Tape_fourHexDigits_106
          · refine lv_iload_n hx hb d_Tape_fourHexDigits_81 rfl (lv_at hl 0 rfl) ?_
            refine lv_bipush (v := 70) hx hb d_Tape_fourHexDigits_82 (by decide) ?_
            refine lv_icmp_gt (tgt := 97) hx hb d_Tape_fourHexDigits_84 (by decide) (fun c84 => ?_) (fun c84 => ?_)
            · refine lv_iconst (v := (-1)) hx hb d_Tape_fourHexDigits_97 (by decide) ?_
              have hd : hexV (byteV f n j) = (-1) := by rw [hv]; unfold hexV; rw [if_neg (fun h => h.1 c37), if_neg (fun h => h.1 c56), if_neg (fun h => h.2 c84)]
              refine lv_istore (lv' := [(4, .int (-1)), (3, .int (f j)), (0, .ref h0), (1, .int a), (2, .int (nI (4 - k)))]) hx hb d_Tape_fourHexDigits_98 hl (by decide) rfl (fun ls hl => ?_)
              refine lv_iload hx hb d_Tape_fourHexDigits_100 (lv_at hl 0 rfl) ?_
              refine lv_if_ge (tgt := 107) hx hb d_Tape_fourHexDigits_102 (by decide) (fun c102 => ?_) (fun c102 => ?_)
              · refine lv_iload_n hx hb d_Tape_fourHexDigits_107 rfl (lv_at hl 3 rfl) ?_
                refine lv_bipush (v := 16) hx hb d_Tape_fourHexDigits_108 (by decide) ?_
                refine lv_imul hx hb d_Tape_fourHexDigits_110 ?_
                refine lv_iload hx hb d_Tape_fourHexDigits_111 (lv_at hl 0 rfl) ?_
                refine lv_iadd hx hb d_Tape_fourHexDigits_113 ?_
                refine lv_istore_n (lv' := [(1, .int ((a * 16) + (-1))), (4, .int (-1)), (3, .int (f j)), (0, .ref h0), (2, .int (nI (4 - k)))]) hx hb d_Tape_fourHexDigits_114 rfl hl (by decide) rfl (fun ls hl => ?_)
                refine lv_aload_n hx hb d_Tape_fourHexDigits_115 rfl (lv_at hl 3 rfl) ?_
                refine lv_dup hx hb d_Tape_fourHexDigits_116 rfl ?_
                refine va_get (D := (dC, dI)) (ci := 8) (v := .int (nI j)) (C := R_Tape) (T := F_Tape) (N := 7) hx hb hts in_Tape hown hK hP 0 rfl rfl 5 (by decide) (hts _ w_54) (fun _ h9 => h9) rfl d_Tape_fourHexDigits_117 ?_
                refine lv_iconst (v := 1) hx hb d_Tape_fourHexDigits_120 (by decide) ?_
                refine lv_iadd hx hb d_Tape_fourHexDigits_121 ?_
                refine W.eq (g2 := F0 m 122 ls [.int (nI (j + 1)), .ref h0]) (by rw [show ((nI j) + 1) = (nI (j + 1)) from nI_1 _]) ?_
                refine va_put (D := (dC, dI)) (ci := 8) (v := .int (nI (j + 1))) (ty := .int) (C := R_Tape) (T := F_Tape) (N := 7) hx hb hts in_Tape t_Tape t_Tape_ok n_Tape hown hK hP hD hS 0 rfl rfl 5 (by decide) (hts _ w_54) (fun _ h9 => h9) rfl (by decide +kernel) rfl rfl (Nat.le_of_ble_eq_true rfl) d_Tape_fourHexDigits_122 (fun H locs hP hD hS => ?_)
                have hP : va_P (dC, dI) classes [(h0, .inr (8, [.ref qb, ru, .int uc, .int ln, .int (nI n), .int (nI (j + 1)), .int pl])), (qb, .inl (cB, 4096, .inl f))] H := hP
                have hD : va_D A [(h0, .inr (8, [.ref qb, ru, .int uc, .int ln, .int (nI n), .int (nI (j + 1)), .int pl])), (qb, .inl (cB, 4096, .inl f))] := hD
                refine lv_iinc (v := nI (4 - k) + 1) (lv' := [(2, .int (nI (4 - k) + 1)), (1, .int ((a * 16) + (-1))), (4, .int (-1)), (3, .int (f j)), (0, .ref h0)]) hx hb d_Tape_fourHexDigits_125 hl (k := 4) rfl rfl (by decide) rfl (fun ls hl => ?_)
                refine lv_goto (tgt := 4) hx hb d_Tape_fourHexDigits_128 (by decide) ?_
                rw [show (nI (4 - k) + 1 : Int32) = nI (4 - (k - 1)) by rw [nI_1]; congr 1; omega] at hl
                exact ih (k - 1, j + 1, ((a * 16) + (-1))) _ _ _ ⟨by omega, by omega, by rw [← hI.2.2]; obtain ⟨k0, rfl⟩ : ∃ k0, k = k0 + 1 := ⟨k - 1, by omega⟩; exact (hex4_s hd c102).symm⟩ (by show k - 1 < k; omega) hP hD hS (lv_sub hl [4, 1, 0] rfl)
              · refine lv_iconst (v := (-1)) hx hb d_Tape_fourHexDigits_105 (by decide) ?_
                exact W.iret (v := (-1)) hx hb hr (fun t ht hW => ⟨⟨(-1), j, rfl, by rw [← hI.2.2]; obtain ⟨k0, rfl⟩ : ∃ k0, k = k0 + 1 := ⟨k - 1, by omega⟩; exact (hex4_f hd c102).symm, by rw [ht]; exact hP, va_K.moved hW.alike hK, hD⟩, hS.F ht⟩) hS.2.2 d_Tape_fourHexDigits_106
            · refine lv_iload_n hx hb d_Tape_fourHexDigits_87 rfl (lv_at hl 0 rfl) ?_
              refine lv_bipush (v := 65) hx hb d_Tape_fourHexDigits_88 (by decide) ?_
              refine lv_isub hx hb d_Tape_fourHexDigits_90 ?_
              refine lv_bipush (v := 10) hx hb d_Tape_fourHexDigits_91 (by decide) ?_
              refine lv_iadd hx hb d_Tape_fourHexDigits_93 ?_
              refine lv_goto (tgt := 98) hx hb d_Tape_fourHexDigits_94 (by decide) ?_
              have hd : hexV (byteV f n j) = (((f j) - 65) + 10) := by rw [hv]; unfold hexV; rw [if_neg (fun h => h.1 c37), if_neg (fun h => h.1 c56), if_pos ⟨c78, c84⟩]
              refine lv_istore (lv' := [(4, .int (((f j) - 65) + 10)), (3, .int (f j)), (0, .ref h0), (1, .int a), (2, .int (nI (4 - k)))]) hx hb d_Tape_fourHexDigits_98 hl (by decide) rfl (fun ls hl => ?_)
              refine lv_iload hx hb d_Tape_fourHexDigits_100 (lv_at hl 0 rfl) ?_
              refine lv_if_ge (tgt := 107) hx hb d_Tape_fourHexDigits_102 (by decide) (fun c102 => ?_) (fun c102 => ?_)
              · refine lv_iload_n hx hb d_Tape_fourHexDigits_107 rfl (lv_at hl 3 rfl) ?_
                refine lv_bipush (v := 16) hx hb d_Tape_fourHexDigits_108 (by decide) ?_
                refine lv_imul hx hb d_Tape_fourHexDigits_110 ?_
                refine lv_iload hx hb d_Tape_fourHexDigits_111 (lv_at hl 0 rfl) ?_
                refine lv_iadd hx hb d_Tape_fourHexDigits_113 ?_
                refine lv_istore_n (lv' := [(1, .int ((a * 16) + (((f j) - 65) + 10))), (4, .int (((f j) - 65) + 10)), (3, .int (f j)), (0, .ref h0), (2, .int (nI (4 - k)))]) hx hb d_Tape_fourHexDigits_114 rfl hl (by decide) rfl (fun ls hl => ?_)
                refine lv_aload_n hx hb d_Tape_fourHexDigits_115 rfl (lv_at hl 3 rfl) ?_
                refine lv_dup hx hb d_Tape_fourHexDigits_116 rfl ?_
                refine va_get (D := (dC, dI)) (ci := 8) (v := .int (nI j)) (C := R_Tape) (T := F_Tape) (N := 7) hx hb hts in_Tape hown hK hP 0 rfl rfl 5 (by decide) (hts _ w_54) (fun _ h9 => h9) rfl d_Tape_fourHexDigits_117 ?_
                refine lv_iconst (v := 1) hx hb d_Tape_fourHexDigits_120 (by decide) ?_
                refine lv_iadd hx hb d_Tape_fourHexDigits_121 ?_
                refine W.eq (g2 := F0 m 122 ls [.int (nI (j + 1)), .ref h0]) (by rw [show ((nI j) + 1) = (nI (j + 1)) from nI_1 _]) ?_
                refine va_put (D := (dC, dI)) (ci := 8) (v := .int (nI (j + 1))) (ty := .int) (C := R_Tape) (T := F_Tape) (N := 7) hx hb hts in_Tape t_Tape t_Tape_ok n_Tape hown hK hP hD hS 0 rfl rfl 5 (by decide) (hts _ w_54) (fun _ h9 => h9) rfl (by decide +kernel) rfl rfl (Nat.le_of_ble_eq_true rfl) d_Tape_fourHexDigits_122 (fun H locs hP hD hS => ?_)
                have hP : va_P (dC, dI) classes [(h0, .inr (8, [.ref qb, ru, .int uc, .int ln, .int (nI n), .int (nI (j + 1)), .int pl])), (qb, .inl (cB, 4096, .inl f))] H := hP
                have hD : va_D A [(h0, .inr (8, [.ref qb, ru, .int uc, .int ln, .int (nI n), .int (nI (j + 1)), .int pl])), (qb, .inl (cB, 4096, .inl f))] := hD
                refine lv_iinc (v := nI (4 - k) + 1) (lv' := [(2, .int (nI (4 - k) + 1)), (1, .int ((a * 16) + (((f j) - 65) + 10))), (4, .int (((f j) - 65) + 10)), (3, .int (f j)), (0, .ref h0)]) hx hb d_Tape_fourHexDigits_125 hl (k := 4) rfl rfl (by decide) rfl (fun ls hl => ?_)
                refine lv_goto (tgt := 4) hx hb d_Tape_fourHexDigits_128 (by decide) ?_
                rw [show (nI (4 - k) + 1 : Int32) = nI (4 - (k - 1)) by rw [nI_1]; congr 1; omega] at hl
                exact ih (k - 1, j + 1, ((a * 16) + (((f j) - 65) + 10))) _ _ _ ⟨by omega, by omega, by rw [← hI.2.2]; obtain ⟨k0, rfl⟩ : ∃ k0, k = k0 + 1 := ⟨k - 1, by omega⟩; exact (hex4_s hd c102).symm⟩ (by show k - 1 < k; omega) hP hD hS (lv_sub hl [4, 1, 0] rfl)
              · refine lv_iconst (v := (-1)) hx hb d_Tape_fourHexDigits_105 (by decide) ?_
                exact W.iret (v := (-1)) hx hb hr (fun t ht hW => ⟨⟨(-1), j, rfl, by rw [← hI.2.2]; obtain ⟨k0, rfl⟩ : ∃ k0, k = k0 + 1 := ⟨k - 1, by omega⟩; exact (hex4_f hd c102).symm, by rw [ht]; exact hP, va_K.moved hW.alike hK, hD⟩, hS.F ht⟩) hS.2.2 d_Tape_fourHexDigits_106
        · refine lv_iload_n hx hb d_Tape_fourHexDigits_59 rfl (lv_at hl 0 rfl) ?_
          refine lv_bipush (v := 102) hx hb d_Tape_fourHexDigits_60 (by decide) ?_
          refine lv_icmp_gt (tgt := 75) hx hb d_Tape_fourHexDigits_62 (by decide) (fun c62 => ?_) (fun c62 => ?_)
          · refine lv_iload_n hx hb d_Tape_fourHexDigits_75 rfl (lv_at hl 0 rfl) ?_
            refine lv_bipush (v := 65) hx hb d_Tape_fourHexDigits_76 (by decide) ?_
            refine lv_icmp_lt (tgt := 97) hx hb d_Tape_fourHexDigits_78 (by decide) (fun c78 => ?_) (fun c78 => ?_)
            · refine lv_iconst (v := (-1)) hx hb d_Tape_fourHexDigits_97 (by decide) ?_
              have hd : hexV (byteV f n j) = (-1) := by rw [hv]; unfold hexV; rw [if_neg (fun h => h.1 c37), if_neg (fun h => h.2 c62), if_neg (fun h => h.1 c78)]
              refine lv_istore (lv' := [(4, .int (-1)), (3, .int (f j)), (0, .ref h0), (1, .int a), (2, .int (nI (4 - k)))]) hx hb d_Tape_fourHexDigits_98 hl (by decide) rfl (fun ls hl => ?_)
              refine lv_iload hx hb d_Tape_fourHexDigits_100 (lv_at hl 0 rfl) ?_
              refine lv_if_ge (tgt := 107) hx hb d_Tape_fourHexDigits_102 (by decide) (fun c102 => ?_) (fun c102 => ?_)
              · refine lv_iload_n hx hb d_Tape_fourHexDigits_107 rfl (lv_at hl 3 rfl) ?_
                refine lv_bipush (v := 16) hx hb d_Tape_fourHexDigits_108 (by decide) ?_
                refine lv_imul hx hb d_Tape_fourHexDigits_110 ?_
                refine lv_iload hx hb d_Tape_fourHexDigits_111 (lv_at hl 0 rfl) ?_
                refine lv_iadd hx hb d_Tape_fourHexDigits_113 ?_
                refine lv_istore_n (lv' := [(1, .int ((a * 16) + (-1))), (4, .int (-1)), (3, .int (f j)), (0, .ref h0), (2, .int (nI (4 - k)))]) hx hb d_Tape_fourHexDigits_114 rfl hl (by decide) rfl (fun ls hl => ?_)
                refine lv_aload_n hx hb d_Tape_fourHexDigits_115 rfl (lv_at hl 3 rfl) ?_
                refine lv_dup hx hb d_Tape_fourHexDigits_116 rfl ?_
                refine va_get (D := (dC, dI)) (ci := 8) (v := .int (nI j)) (C := R_Tape) (T := F_Tape) (N := 7) hx hb hts in_Tape hown hK hP 0 rfl rfl 5 (by decide) (hts _ w_54) (fun _ h9 => h9) rfl d_Tape_fourHexDigits_117 ?_
                refine lv_iconst (v := 1) hx hb d_Tape_fourHexDigits_120 (by decide) ?_
                refine lv_iadd hx hb d_Tape_fourHexDigits_121 ?_
                refine W.eq (g2 := F0 m 122 ls [.int (nI (j + 1)), .ref h0]) (by rw [show ((nI j) + 1) = (nI (j + 1)) from nI_1 _]) ?_
                refine va_put (D := (dC, dI)) (ci := 8) (v := .int (nI (j + 1))) (ty := .int) (C := R_Tape) (T := F_Tape) (N := 7) hx hb hts in_Tape t_Tape t_Tape_ok n_Tape hown hK hP hD hS 0 rfl rfl 5 (by decide) (hts _ w_54) (fun _ h9 => h9) rfl (by decide +kernel) rfl rfl (Nat.le_of_ble_eq_true rfl) d_Tape_fourHexDigits_122 (fun H locs hP hD hS => ?_)
                have hP : va_P (dC, dI) classes [(h0, .inr (8, [.ref qb, ru, .int uc, .int ln, .int (nI n), .int (nI (j + 1)), .int pl])), (qb, .inl (cB, 4096, .inl f))] H := hP
                have hD : va_D A [(h0, .inr (8, [.ref qb, ru, .int uc, .int ln, .int (nI n), .int (nI (j + 1)), .int pl])), (qb, .inl (cB, 4096, .inl f))] := hD
                refine lv_iinc (v := nI (4 - k) + 1) (lv' := [(2, .int (nI (4 - k) + 1)), (1, .int ((a * 16) + (-1))), (4, .int (-1)), (3, .int (f j)), (0, .ref h0)]) hx hb d_Tape_fourHexDigits_125 hl (k := 4) rfl rfl (by decide) rfl (fun ls hl => ?_)
                refine lv_goto (tgt := 4) hx hb d_Tape_fourHexDigits_128 (by decide) ?_
                rw [show (nI (4 - k) + 1 : Int32) = nI (4 - (k - 1)) by rw [nI_1]; congr 1; omega] at hl
                exact ih (k - 1, j + 1, ((a * 16) + (-1))) _ _ _ ⟨by omega, by omega, by rw [← hI.2.2]; obtain ⟨k0, rfl⟩ : ∃ k0, k = k0 + 1 := ⟨k - 1, by omega⟩; exact (hex4_s hd c102).symm⟩ (by show k - 1 < k; omega) hP hD hS (lv_sub hl [4, 1, 0] rfl)
              · refine lv_iconst (v := (-1)) hx hb d_Tape_fourHexDigits_105 (by decide) ?_
                exact W.iret (v := (-1)) hx hb hr (fun t ht hW => ⟨⟨(-1), j, rfl, by rw [← hI.2.2]; obtain ⟨k0, rfl⟩ : ∃ k0, k = k0 + 1 := ⟨k - 1, by omega⟩; exact (hex4_f hd c102).symm, by rw [ht]; exact hP, va_K.moved hW.alike hK, hD⟩, hS.F ht⟩) hS.2.2 d_Tape_fourHexDigits_106
            · refine lv_iload_n hx hb d_Tape_fourHexDigits_81 rfl (lv_at hl 0 rfl) ?_
              refine lv_bipush (v := 70) hx hb d_Tape_fourHexDigits_82 (by decide) ?_
              refine lv_icmp_gt (tgt := 97) hx hb d_Tape_fourHexDigits_84 (by decide) (fun c84 => ?_) (fun c84 => ?_)
              · refine lv_iconst (v := (-1)) hx hb d_Tape_fourHexDigits_97 (by decide) ?_
                have hd : hexV (byteV f n j) = (-1) := by rw [hv]; unfold hexV; rw [if_neg (fun h => h.1 c37), if_neg (fun h => h.2 c62), if_neg (fun h => h.2 c84)]
                refine lv_istore (lv' := [(4, .int (-1)), (3, .int (f j)), (0, .ref h0), (1, .int a), (2, .int (nI (4 - k)))]) hx hb d_Tape_fourHexDigits_98 hl (by decide) rfl (fun ls hl => ?_)
                refine lv_iload hx hb d_Tape_fourHexDigits_100 (lv_at hl 0 rfl) ?_
                refine lv_if_ge (tgt := 107) hx hb d_Tape_fourHexDigits_102 (by decide) (fun c102 => ?_) (fun c102 => ?_)
                · refine lv_iload_n hx hb d_Tape_fourHexDigits_107 rfl (lv_at hl 3 rfl) ?_
                  refine lv_bipush (v := 16) hx hb d_Tape_fourHexDigits_108 (by decide) ?_
                  refine lv_imul hx hb d_Tape_fourHexDigits_110 ?_
                  refine lv_iload hx hb d_Tape_fourHexDigits_111 (lv_at hl 0 rfl) ?_
                  refine lv_iadd hx hb d_Tape_fourHexDigits_113 ?_
                  refine lv_istore_n (lv' := [(1, .int ((a * 16) + (-1))), (4, .int (-1)), (3, .int (f j)), (0, .ref h0), (2, .int (nI (4 - k)))]) hx hb d_Tape_fourHexDigits_114 rfl hl (by decide) rfl (fun ls hl => ?_)
                  refine lv_aload_n hx hb d_Tape_fourHexDigits_115 rfl (lv_at hl 3 rfl) ?_
                  refine lv_dup hx hb d_Tape_fourHexDigits_116 rfl ?_
                  refine va_get (D := (dC, dI)) (ci := 8) (v := .int (nI j)) (C := R_Tape) (T := F_Tape) (N := 7) hx hb hts in_Tape hown hK hP 0 rfl rfl 5 (by decide) (hts _ w_54) (fun _ h9 => h9) rfl d_Tape_fourHexDigits_117 ?_
                  refine lv_iconst (v := 1) hx hb d_Tape_fourHexDigits_120 (by decide) ?_
                  refine lv_iadd hx hb d_Tape_fourHexDigits_121 ?_
                  refine W.eq (g2 := F0 m 122 ls [.int (nI (j + 1)), .ref h0]) (by rw [show ((nI j) + 1) = (nI (j + 1)) from nI_1 _]) ?_
                  refine va_put (D := (dC, dI)) (ci := 8) (v := .int (nI (j + 1))) (ty := .int) (C := R_Tape) (T := F_Tape) (N := 7) hx hb hts in_Tape t_Tape t_Tape_ok n_Tape hown hK hP hD hS 0 rfl rfl 5 (by decide) (hts _ w_54) (fun _ h9 => h9) rfl (by decide +kernel) rfl rfl (Nat.le_of_ble_eq_true rfl) d_Tape_fourHexDigits_122 (fun H locs hP hD hS => ?_)
                  have hP : va_P (dC, dI) classes [(h0, .inr (8, [.ref qb, ru, .int uc, .int ln, .int (nI n), .int (nI (j + 1)), .int pl])), (qb, .inl (cB, 4096, .inl f))] H := hP
                  have hD : va_D A [(h0, .inr (8, [.ref qb, ru, .int uc, .int ln, .int (nI n), .int (nI (j + 1)), .int pl])), (qb, .inl (cB, 4096, .inl f))] := hD
                  refine lv_iinc (v := nI (4 - k) + 1) (lv' := [(2, .int (nI (4 - k) + 1)), (1, .int ((a * 16) + (-1))), (4, .int (-1)), (3, .int (f j)), (0, .ref h0)]) hx hb d_Tape_fourHexDigits_125 hl (k := 4) rfl rfl (by decide) rfl (fun ls hl => ?_)
                  refine lv_goto (tgt := 4) hx hb d_Tape_fourHexDigits_128 (by decide) ?_
                  rw [show (nI (4 - k) + 1 : Int32) = nI (4 - (k - 1)) by rw [nI_1]; congr 1; omega] at hl
                  exact ih (k - 1, j + 1, ((a * 16) + (-1))) _ _ _ ⟨by omega, by omega, by rw [← hI.2.2]; obtain ⟨k0, rfl⟩ : ∃ k0, k = k0 + 1 := ⟨k - 1, by omega⟩; exact (hex4_s hd c102).symm⟩ (by show k - 1 < k; omega) hP hD hS (lv_sub hl [4, 1, 0] rfl)
                · refine lv_iconst (v := (-1)) hx hb d_Tape_fourHexDigits_105 (by decide) ?_
                  exact W.iret (v := (-1)) hx hb hr (fun t ht hW => ⟨⟨(-1), j, rfl, by rw [← hI.2.2]; obtain ⟨k0, rfl⟩ : ∃ k0, k = k0 + 1 := ⟨k - 1, by omega⟩; exact (hex4_f hd c102).symm, by rw [ht]; exact hP, va_K.moved hW.alike hK, hD⟩, hS.F ht⟩) hS.2.2 d_Tape_fourHexDigits_106
              · refine lv_iload_n hx hb d_Tape_fourHexDigits_87 rfl (lv_at hl 0 rfl) ?_
                refine lv_bipush (v := 65) hx hb d_Tape_fourHexDigits_88 (by decide) ?_
                refine lv_isub hx hb d_Tape_fourHexDigits_90 ?_
                refine lv_bipush (v := 10) hx hb d_Tape_fourHexDigits_91 (by decide) ?_
                refine lv_iadd hx hb d_Tape_fourHexDigits_93 ?_
                refine lv_goto (tgt := 98) hx hb d_Tape_fourHexDigits_94 (by decide) ?_
                have hd : hexV (byteV f n j) = (((f j) - 65) + 10) := by rw [hv]; unfold hexV; rw [if_neg (fun h => h.1 c37), if_neg (fun h => h.2 c62), if_pos ⟨c78, c84⟩]
                refine lv_istore (lv' := [(4, .int (((f j) - 65) + 10)), (3, .int (f j)), (0, .ref h0), (1, .int a), (2, .int (nI (4 - k)))]) hx hb d_Tape_fourHexDigits_98 hl (by decide) rfl (fun ls hl => ?_)
                refine lv_iload hx hb d_Tape_fourHexDigits_100 (lv_at hl 0 rfl) ?_
                refine lv_if_ge (tgt := 107) hx hb d_Tape_fourHexDigits_102 (by decide) (fun c102 => ?_) (fun c102 => ?_)
                · refine lv_iload_n hx hb d_Tape_fourHexDigits_107 rfl (lv_at hl 3 rfl) ?_
                  refine lv_bipush (v := 16) hx hb d_Tape_fourHexDigits_108 (by decide) ?_
                  refine lv_imul hx hb d_Tape_fourHexDigits_110 ?_
                  refine lv_iload hx hb d_Tape_fourHexDigits_111 (lv_at hl 0 rfl) ?_
                  refine lv_iadd hx hb d_Tape_fourHexDigits_113 ?_
                  refine lv_istore_n (lv' := [(1, .int ((a * 16) + (((f j) - 65) + 10))), (4, .int (((f j) - 65) + 10)), (3, .int (f j)), (0, .ref h0), (2, .int (nI (4 - k)))]) hx hb d_Tape_fourHexDigits_114 rfl hl (by decide) rfl (fun ls hl => ?_)
                  refine lv_aload_n hx hb d_Tape_fourHexDigits_115 rfl (lv_at hl 3 rfl) ?_
                  refine lv_dup hx hb d_Tape_fourHexDigits_116 rfl ?_
                  refine va_get (D := (dC, dI)) (ci := 8) (v := .int (nI j)) (C := R_Tape) (T := F_Tape) (N := 7) hx hb hts in_Tape hown hK hP 0 rfl rfl 5 (by decide) (hts _ w_54) (fun _ h9 => h9) rfl d_Tape_fourHexDigits_117 ?_
                  refine lv_iconst (v := 1) hx hb d_Tape_fourHexDigits_120 (by decide) ?_
                  refine lv_iadd hx hb d_Tape_fourHexDigits_121 ?_
                  refine W.eq (g2 := F0 m 122 ls [.int (nI (j + 1)), .ref h0]) (by rw [show ((nI j) + 1) = (nI (j + 1)) from nI_1 _]) ?_
                  refine va_put (D := (dC, dI)) (ci := 8) (v := .int (nI (j + 1))) (ty := .int) (C := R_Tape) (T := F_Tape) (N := 7) hx hb hts in_Tape t_Tape t_Tape_ok n_Tape hown hK hP hD hS 0 rfl rfl 5 (by decide) (hts _ w_54) (fun _ h9 => h9) rfl (by decide +kernel) rfl rfl (Nat.le_of_ble_eq_true rfl) d_Tape_fourHexDigits_122 (fun H locs hP hD hS => ?_)
                  have hP : va_P (dC, dI) classes [(h0, .inr (8, [.ref qb, ru, .int uc, .int ln, .int (nI n), .int (nI (j + 1)), .int pl])), (qb, .inl (cB, 4096, .inl f))] H := hP
                  have hD : va_D A [(h0, .inr (8, [.ref qb, ru, .int uc, .int ln, .int (nI n), .int (nI (j + 1)), .int pl])), (qb, .inl (cB, 4096, .inl f))] := hD
                  refine lv_iinc (v := nI (4 - k) + 1) (lv' := [(2, .int (nI (4 - k) + 1)), (1, .int ((a * 16) + (((f j) - 65) + 10))), (4, .int (((f j) - 65) + 10)), (3, .int (f j)), (0, .ref h0)]) hx hb d_Tape_fourHexDigits_125 hl (k := 4) rfl rfl (by decide) rfl (fun ls hl => ?_)
                  refine lv_goto (tgt := 4) hx hb d_Tape_fourHexDigits_128 (by decide) ?_
                  rw [show (nI (4 - k) + 1 : Int32) = nI (4 - (k - 1)) by rw [nI_1]; congr 1; omega] at hl
                  exact ih (k - 1, j + 1, ((a * 16) + (((f j) - 65) + 10))) _ _ _ ⟨by omega, by omega, by rw [← hI.2.2]; obtain ⟨k0, rfl⟩ : ∃ k0, k = k0 + 1 := ⟨k - 1, by omega⟩; exact (hex4_s hd c102).symm⟩ (by show k - 1 < k; omega) hP hD hS (lv_sub hl [4, 1, 0] rfl)
                · refine lv_iconst (v := (-1)) hx hb d_Tape_fourHexDigits_105 (by decide) ?_
                  exact W.iret (v := (-1)) hx hb hr (fun t ht hW => ⟨⟨(-1), j, rfl, by rw [← hI.2.2]; obtain ⟨k0, rfl⟩ : ∃ k0, k = k0 + 1 := ⟨k - 1, by omega⟩; exact (hex4_f hd c102).symm, by rw [ht]; exact hP, va_K.moved hW.alike hK, hD⟩, hS.F ht⟩) hS.2.2 d_Tape_fourHexDigits_106
          · refine lv_iload_n hx hb d_Tape_fourHexDigits_65 rfl (lv_at hl 0 rfl) ?_
            refine lv_bipush (v := 97) hx hb d_Tape_fourHexDigits_66 (by decide) ?_
            refine lv_isub hx hb d_Tape_fourHexDigits_68 ?_
            refine lv_bipush (v := 10) hx hb d_Tape_fourHexDigits_69 (by decide) ?_
            refine lv_iadd hx hb d_Tape_fourHexDigits_71 ?_
            refine lv_goto (tgt := 98) hx hb d_Tape_fourHexDigits_72 (by decide) ?_
            have hd : hexV (byteV f n j) = (((f j) - 97) + 10) := by rw [hv]; unfold hexV; rw [if_neg (fun h => h.1 c37), if_pos ⟨c56, c62⟩]
            refine lv_istore (lv' := [(4, .int (((f j) - 97) + 10)), (3, .int (f j)), (0, .ref h0), (1, .int a), (2, .int (nI (4 - k)))]) hx hb d_Tape_fourHexDigits_98 hl (by decide) rfl (fun ls hl => ?_)
            refine lv_iload hx hb d_Tape_fourHexDigits_100 (lv_at hl 0 rfl) ?_
            refine lv_if_ge (tgt := 107) hx hb d_Tape_fourHexDigits_102 (by decide) (fun c102 => ?_) (fun c102 => ?_)
            · refine lv_iload_n hx hb d_Tape_fourHexDigits_107 rfl (lv_at hl 3 rfl) ?_
              refine lv_bipush (v := 16) hx hb d_Tape_fourHexDigits_108 (by decide) ?_
              refine lv_imul hx hb d_Tape_fourHexDigits_110 ?_
              refine lv_iload hx hb d_Tape_fourHexDigits_111 (lv_at hl 0 rfl) ?_
              refine lv_iadd hx hb d_Tape_fourHexDigits_113 ?_
              refine lv_istore_n (lv' := [(1, .int ((a * 16) + (((f j) - 97) + 10))), (4, .int (((f j) - 97) + 10)), (3, .int (f j)), (0, .ref h0), (2, .int (nI (4 - k)))]) hx hb d_Tape_fourHexDigits_114 rfl hl (by decide) rfl (fun ls hl => ?_)
              refine lv_aload_n hx hb d_Tape_fourHexDigits_115 rfl (lv_at hl 3 rfl) ?_
              refine lv_dup hx hb d_Tape_fourHexDigits_116 rfl ?_
              refine va_get (D := (dC, dI)) (ci := 8) (v := .int (nI j)) (C := R_Tape) (T := F_Tape) (N := 7) hx hb hts in_Tape hown hK hP 0 rfl rfl 5 (by decide) (hts _ w_54) (fun _ h9 => h9) rfl d_Tape_fourHexDigits_117 ?_
              refine lv_iconst (v := 1) hx hb d_Tape_fourHexDigits_120 (by decide) ?_
              refine lv_iadd hx hb d_Tape_fourHexDigits_121 ?_
              refine W.eq (g2 := F0 m 122 ls [.int (nI (j + 1)), .ref h0]) (by rw [show ((nI j) + 1) = (nI (j + 1)) from nI_1 _]) ?_
              refine va_put (D := (dC, dI)) (ci := 8) (v := .int (nI (j + 1))) (ty := .int) (C := R_Tape) (T := F_Tape) (N := 7) hx hb hts in_Tape t_Tape t_Tape_ok n_Tape hown hK hP hD hS 0 rfl rfl 5 (by decide) (hts _ w_54) (fun _ h9 => h9) rfl (by decide +kernel) rfl rfl (Nat.le_of_ble_eq_true rfl) d_Tape_fourHexDigits_122 (fun H locs hP hD hS => ?_)
              have hP : va_P (dC, dI) classes [(h0, .inr (8, [.ref qb, ru, .int uc, .int ln, .int (nI n), .int (nI (j + 1)), .int pl])), (qb, .inl (cB, 4096, .inl f))] H := hP
              have hD : va_D A [(h0, .inr (8, [.ref qb, ru, .int uc, .int ln, .int (nI n), .int (nI (j + 1)), .int pl])), (qb, .inl (cB, 4096, .inl f))] := hD
              refine lv_iinc (v := nI (4 - k) + 1) (lv' := [(2, .int (nI (4 - k) + 1)), (1, .int ((a * 16) + (((f j) - 97) + 10))), (4, .int (((f j) - 97) + 10)), (3, .int (f j)), (0, .ref h0)]) hx hb d_Tape_fourHexDigits_125 hl (k := 4) rfl rfl (by decide) rfl (fun ls hl => ?_)
              refine lv_goto (tgt := 4) hx hb d_Tape_fourHexDigits_128 (by decide) ?_
              rw [show (nI (4 - k) + 1 : Int32) = nI (4 - (k - 1)) by rw [nI_1]; congr 1; omega] at hl
              exact ih (k - 1, j + 1, ((a * 16) + (((f j) - 97) + 10))) _ _ _ ⟨by omega, by omega, by rw [← hI.2.2]; obtain ⟨k0, rfl⟩ : ∃ k0, k = k0 + 1 := ⟨k - 1, by omega⟩; exact (hex4_s hd c102).symm⟩ (by show k - 1 < k; omega) hP hD hS (lv_sub hl [4, 1, 0] rfl)
            · refine lv_iconst (v := (-1)) hx hb d_Tape_fourHexDigits_105 (by decide) ?_
              exact W.iret (v := (-1)) hx hb hr (fun t ht hW => ⟨⟨(-1), j, rfl, by rw [← hI.2.2]; obtain ⟨k0, rfl⟩ : ∃ k0, k = k0 + 1 := ⟨k - 1, by omega⟩; exact (hex4_f hd c102).symm, by rw [ht]; exact hP, va_K.moved hW.alike hK, hD⟩, hS.F ht⟩) hS.2.2 d_Tape_fourHexDigits_106
      · refine lv_iload_n hx hb d_Tape_fourHexDigits_40 rfl (lv_at hl 0 rfl) ?_
        refine lv_bipush (v := 57) hx hb d_Tape_fourHexDigits_41 (by decide) ?_
        refine lv_icmp_gt (tgt := 53) hx hb d_Tape_fourHexDigits_43 (by decide) (fun c43 => ?_) (fun c43 => ?_)
        · refine lv_iload_n hx hb d_Tape_fourHexDigits_53 rfl (lv_at hl 0 rfl) ?_
          refine lv_bipush (v := 97) hx hb d_Tape_fourHexDigits_54 (by decide) ?_
          refine lv_icmp_lt (tgt := 75) hx hb d_Tape_fourHexDigits_56 (by decide) (fun c56 => ?_) (fun c56 => ?_)
          · refine lv_iload_n hx hb d_Tape_fourHexDigits_75 rfl (lv_at hl 0 rfl) ?_
            refine lv_bipush (v := 65) hx hb d_Tape_fourHexDigits_76 (by decide) ?_
            refine lv_icmp_lt (tgt := 97) hx hb d_Tape_fourHexDigits_78 (by decide) (fun c78 => ?_) (fun c78 => ?_)
            · refine lv_iconst (v := (-1)) hx hb d_Tape_fourHexDigits_97 (by decide) ?_
              have hd : hexV (byteV f n j) = (-1) := by rw [hv]; unfold hexV; rw [if_neg (fun h => h.2 c43), if_neg (fun h => h.1 c56), if_neg (fun h => h.1 c78)]
              refine lv_istore (lv' := [(4, .int (-1)), (3, .int (f j)), (0, .ref h0), (1, .int a), (2, .int (nI (4 - k)))]) hx hb d_Tape_fourHexDigits_98 hl (by decide) rfl (fun ls hl => ?_)
              refine lv_iload hx hb d_Tape_fourHexDigits_100 (lv_at hl 0 rfl) ?_
              refine lv_if_ge (tgt := 107) hx hb d_Tape_fourHexDigits_102 (by decide) (fun c102 => ?_) (fun c102 => ?_)
              · refine lv_iload_n hx hb d_Tape_fourHexDigits_107 rfl (lv_at hl 3 rfl) ?_
                refine lv_bipush (v := 16) hx hb d_Tape_fourHexDigits_108 (by decide) ?_
                refine lv_imul hx hb d_Tape_fourHexDigits_110 ?_
                refine lv_iload hx hb d_Tape_fourHexDigits_111 (lv_at hl 0 rfl) ?_
                refine lv_iadd hx hb d_Tape_fourHexDigits_113 ?_
                refine lv_istore_n (lv' := [(1, .int ((a * 16) + (-1))), (4, .int (-1)), (3, .int (f j)), (0, .ref h0), (2, .int (nI (4 - k)))]) hx hb d_Tape_fourHexDigits_114 rfl hl (by decide) rfl (fun ls hl => ?_)
                refine lv_aload_n hx hb d_Tape_fourHexDigits_115 rfl (lv_at hl 3 rfl) ?_
                refine lv_dup hx hb d_Tape_fourHexDigits_116 rfl ?_
                refine va_get (D := (dC, dI)) (ci := 8) (v := .int (nI j)) (C := R_Tape) (T := F_Tape) (N := 7) hx hb hts in_Tape hown hK hP 0 rfl rfl 5 (by decide) (hts _ w_54) (fun _ h9 => h9) rfl d_Tape_fourHexDigits_117 ?_
                refine lv_iconst (v := 1) hx hb d_Tape_fourHexDigits_120 (by decide) ?_
                refine lv_iadd hx hb d_Tape_fourHexDigits_121 ?_
                refine W.eq (g2 := F0 m 122 ls [.int (nI (j + 1)), .ref h0]) (by rw [show ((nI j) + 1) = (nI (j + 1)) from nI_1 _]) ?_
                refine va_put (D := (dC, dI)) (ci := 8) (v := .int (nI (j + 1))) (ty := .int) (C := R_Tape) (T := F_Tape) (N := 7) hx hb hts in_Tape t_Tape t_Tape_ok n_Tape hown hK hP hD hS 0 rfl rfl 5 (by decide) (hts _ w_54) (fun _ h9 => h9) rfl (by decide +kernel) rfl rfl (Nat.le_of_ble_eq_true rfl) d_Tape_fourHexDigits_122 (fun H locs hP hD hS => ?_)
                have hP : va_P (dC, dI) classes [(h0, .inr (8, [.ref qb, ru, .int uc, .int ln, .int (nI n), .int (nI (j + 1)), .int pl])), (qb, .inl (cB, 4096, .inl f))] H := hP
                have hD : va_D A [(h0, .inr (8, [.ref qb, ru, .int uc, .int ln, .int (nI n), .int (nI (j + 1)), .int pl])), (qb, .inl (cB, 4096, .inl f))] := hD
                refine lv_iinc (v := nI (4 - k) + 1) (lv' := [(2, .int (nI (4 - k) + 1)), (1, .int ((a * 16) + (-1))), (4, .int (-1)), (3, .int (f j)), (0, .ref h0)]) hx hb d_Tape_fourHexDigits_125 hl (k := 4) rfl rfl (by decide) rfl (fun ls hl => ?_)
                refine lv_goto (tgt := 4) hx hb d_Tape_fourHexDigits_128 (by decide) ?_
                rw [show (nI (4 - k) + 1 : Int32) = nI (4 - (k - 1)) by rw [nI_1]; congr 1; omega] at hl
                exact ih (k - 1, j + 1, ((a * 16) + (-1))) _ _ _ ⟨by omega, by omega, by rw [← hI.2.2]; obtain ⟨k0, rfl⟩ : ∃ k0, k = k0 + 1 := ⟨k - 1, by omega⟩; exact (hex4_s hd c102).symm⟩ (by show k - 1 < k; omega) hP hD hS (lv_sub hl [4, 1, 0] rfl)
              · refine lv_iconst (v := (-1)) hx hb d_Tape_fourHexDigits_105 (by decide) ?_
                exact W.iret (v := (-1)) hx hb hr (fun t ht hW => ⟨⟨(-1), j, rfl, by rw [← hI.2.2]; obtain ⟨k0, rfl⟩ : ∃ k0, k = k0 + 1 := ⟨k - 1, by omega⟩; exact (hex4_f hd c102).symm, by rw [ht]; exact hP, va_K.moved hW.alike hK, hD⟩, hS.F ht⟩) hS.2.2 d_Tape_fourHexDigits_106
            · refine lv_iload_n hx hb d_Tape_fourHexDigits_81 rfl (lv_at hl 0 rfl) ?_
              refine lv_bipush (v := 70) hx hb d_Tape_fourHexDigits_82 (by decide) ?_
              refine lv_icmp_gt (tgt := 97) hx hb d_Tape_fourHexDigits_84 (by decide) (fun c84 => ?_) (fun c84 => ?_)
              · refine lv_iconst (v := (-1)) hx hb d_Tape_fourHexDigits_97 (by decide) ?_
                have hd : hexV (byteV f n j) = (-1) := by rw [hv]; unfold hexV; rw [if_neg (fun h => h.2 c43), if_neg (fun h => h.1 c56), if_neg (fun h => h.2 c84)]
                refine lv_istore (lv' := [(4, .int (-1)), (3, .int (f j)), (0, .ref h0), (1, .int a), (2, .int (nI (4 - k)))]) hx hb d_Tape_fourHexDigits_98 hl (by decide) rfl (fun ls hl => ?_)
                refine lv_iload hx hb d_Tape_fourHexDigits_100 (lv_at hl 0 rfl) ?_
                refine lv_if_ge (tgt := 107) hx hb d_Tape_fourHexDigits_102 (by decide) (fun c102 => ?_) (fun c102 => ?_)
                · refine lv_iload_n hx hb d_Tape_fourHexDigits_107 rfl (lv_at hl 3 rfl) ?_
                  refine lv_bipush (v := 16) hx hb d_Tape_fourHexDigits_108 (by decide) ?_
                  refine lv_imul hx hb d_Tape_fourHexDigits_110 ?_
                  refine lv_iload hx hb d_Tape_fourHexDigits_111 (lv_at hl 0 rfl) ?_
                  refine lv_iadd hx hb d_Tape_fourHexDigits_113 ?_
                  refine lv_istore_n (lv' := [(1, .int ((a * 16) + (-1))), (4, .int (-1)), (3, .int (f j)), (0, .ref h0), (2, .int (nI (4 - k)))]) hx hb d_Tape_fourHexDigits_114 rfl hl (by decide) rfl (fun ls hl => ?_)
                  refine lv_aload_n hx hb d_Tape_fourHexDigits_115 rfl (lv_at hl 3 rfl) ?_
                  refine lv_dup hx hb d_Tape_fourHexDigits_116 rfl ?_
                  refine va_get (D := (dC, dI)) (ci := 8) (v := .int (nI j)) (C := R_Tape) (T := F_Tape) (N := 7) hx hb hts in_Tape hown hK hP 0 rfl rfl 5 (by decide) (hts _ w_54) (fun _ h9 => h9) rfl d_Tape_fourHexDigits_117 ?_
                  refine lv_iconst (v := 1) hx hb d_Tape_fourHexDigits_120 (by decide) ?_
                  refine lv_iadd hx hb d_Tape_fourHexDigits_121 ?_
                  refine W.eq (g2 := F0 m 122 ls [.int (nI (j + 1)), .ref h0]) (by rw [show ((nI j) + 1) = (nI (j + 1)) from nI_1 _]) ?_
                  refine va_put (D := (dC, dI)) (ci := 8) (v := .int (nI (j + 1))) (ty := .int) (C := R_Tape) (T := F_Tape) (N := 7) hx hb hts in_Tape t_Tape t_Tape_ok n_Tape hown hK hP hD hS 0 rfl rfl 5 (by decide) (hts _ w_54) (fun _ h9 => h9) rfl (by decide +kernel) rfl rfl (Nat.le_of_ble_eq_true rfl) d_Tape_fourHexDigits_122 (fun H locs hP hD hS => ?_)
                  have hP : va_P (dC, dI) classes [(h0, .inr (8, [.ref qb, ru, .int uc, .int ln, .int (nI n), .int (nI (j + 1)), .int pl])), (qb, .inl (cB, 4096, .inl f))] H := hP
                  have hD : va_D A [(h0, .inr (8, [.ref qb, ru, .int uc, .int ln, .int (nI n), .int (nI (j + 1)), .int pl])), (qb, .inl (cB, 4096, .inl f))] := hD
                  refine lv_iinc (v := nI (4 - k) + 1) (lv' := [(2, .int (nI (4 - k) + 1)), (1, .int ((a * 16) + (-1))), (4, .int (-1)), (3, .int (f j)), (0, .ref h0)]) hx hb d_Tape_fourHexDigits_125 hl (k := 4) rfl rfl (by decide) rfl (fun ls hl => ?_)
                  refine lv_goto (tgt := 4) hx hb d_Tape_fourHexDigits_128 (by decide) ?_
                  rw [show (nI (4 - k) + 1 : Int32) = nI (4 - (k - 1)) by rw [nI_1]; congr 1; omega] at hl
                  exact ih (k - 1, j + 1, ((a * 16) + (-1))) _ _ _ ⟨by omega, by omega, by rw [← hI.2.2]; obtain ⟨k0, rfl⟩ : ∃ k0, k = k0 + 1 := ⟨k - 1, by omega⟩; exact (hex4_s hd c102).symm⟩ (by show k - 1 < k; omega) hP hD hS (lv_sub hl [4, 1, 0] rfl)
                · refine lv_iconst (v := (-1)) hx hb d_Tape_fourHexDigits_105 (by decide) ?_
                  exact W.iret (v := (-1)) hx hb hr (fun t ht hW => ⟨⟨(-1), j, rfl, by rw [← hI.2.2]; obtain ⟨k0, rfl⟩ : ∃ k0, k = k0 + 1 := ⟨k - 1, by omega⟩; exact (hex4_f hd c102).symm, by rw [ht]; exact hP, va_K.moved hW.alike hK, hD⟩, hS.F ht⟩) hS.2.2 d_Tape_fourHexDigits_106
              · refine lv_iload_n hx hb d_Tape_fourHexDigits_87 rfl (lv_at hl 0 rfl) ?_
                refine lv_bipush (v := 65) hx hb d_Tape_fourHexDigits_88 (by decide) ?_
                refine lv_isub hx hb d_Tape_fourHexDigits_90 ?_
                refine lv_bipush (v := 10) hx hb d_Tape_fourHexDigits_91 (by decide) ?_
                refine lv_iadd hx hb d_Tape_fourHexDigits_93 ?_
                refine lv_goto (tgt := 98) hx hb d_Tape_fourHexDigits_94 (by decide) ?_
                have hd : hexV (byteV f n j) = (((f j) - 65) + 10) := by rw [hv]; unfold hexV; rw [if_neg (fun h => h.2 c43), if_neg (fun h => h.1 c56), if_pos ⟨c78, c84⟩]
                refine lv_istore (lv' := [(4, .int (((f j) - 65) + 10)), (3, .int (f j)), (0, .ref h0), (1, .int a), (2, .int (nI (4 - k)))]) hx hb d_Tape_fourHexDigits_98 hl (by decide) rfl (fun ls hl => ?_)
                refine lv_iload hx hb d_Tape_fourHexDigits_100 (lv_at hl 0 rfl) ?_
                refine lv_if_ge (tgt := 107) hx hb d_Tape_fourHexDigits_102 (by decide) (fun c102 => ?_) (fun c102 => ?_)
                · refine lv_iload_n hx hb d_Tape_fourHexDigits_107 rfl (lv_at hl 3 rfl) ?_
                  refine lv_bipush (v := 16) hx hb d_Tape_fourHexDigits_108 (by decide) ?_
                  refine lv_imul hx hb d_Tape_fourHexDigits_110 ?_
                  refine lv_iload hx hb d_Tape_fourHexDigits_111 (lv_at hl 0 rfl) ?_
                  refine lv_iadd hx hb d_Tape_fourHexDigits_113 ?_
                  refine lv_istore_n (lv' := [(1, .int ((a * 16) + (((f j) - 65) + 10))), (4, .int (((f j) - 65) + 10)), (3, .int (f j)), (0, .ref h0), (2, .int (nI (4 - k)))]) hx hb d_Tape_fourHexDigits_114 rfl hl (by decide) rfl (fun ls hl => ?_)
                  refine lv_aload_n hx hb d_Tape_fourHexDigits_115 rfl (lv_at hl 3 rfl) ?_
                  refine lv_dup hx hb d_Tape_fourHexDigits_116 rfl ?_
                  refine va_get (D := (dC, dI)) (ci := 8) (v := .int (nI j)) (C := R_Tape) (T := F_Tape) (N := 7) hx hb hts in_Tape hown hK hP 0 rfl rfl 5 (by decide) (hts _ w_54) (fun _ h9 => h9) rfl d_Tape_fourHexDigits_117 ?_
                  refine lv_iconst (v := 1) hx hb d_Tape_fourHexDigits_120 (by decide) ?_
                  refine lv_iadd hx hb d_Tape_fourHexDigits_121 ?_
                  refine W.eq (g2 := F0 m 122 ls [.int (nI (j + 1)), .ref h0]) (by rw [show ((nI j) + 1) = (nI (j + 1)) from nI_1 _]) ?_
                  refine va_put (D := (dC, dI)) (ci := 8) (v := .int (nI (j + 1))) (ty := .int) (C := R_Tape) (T := F_Tape) (N := 7) hx hb hts in_Tape t_Tape t_Tape_ok n_Tape hown hK hP hD hS 0 rfl rfl 5 (by decide) (hts _ w_54) (fun _ h9 => h9) rfl (by decide +kernel) rfl rfl (Nat.le_of_ble_eq_true rfl) d_Tape_fourHexDigits_122 (fun H locs hP hD hS => ?_)
                  have hP : va_P (dC, dI) classes [(h0, .inr (8, [.ref qb, ru, .int uc, .int ln, .int (nI n), .int (nI (j + 1)), .int pl])), (qb, .inl (cB, 4096, .inl f))] H := hP
                  have hD : va_D A [(h0, .inr (8, [.ref qb, ru, .int uc, .int ln, .int (nI n), .int (nI (j + 1)), .int pl])), (qb, .inl (cB, 4096, .inl f))] := hD
                  refine lv_iinc (v := nI (4 - k) + 1) (lv' := [(2, .int (nI (4 - k) + 1)), (1, .int ((a * 16) + (((f j) - 65) + 10))), (4, .int (((f j) - 65) + 10)), (3, .int (f j)), (0, .ref h0)]) hx hb d_Tape_fourHexDigits_125 hl (k := 4) rfl rfl (by decide) rfl (fun ls hl => ?_)
                  refine lv_goto (tgt := 4) hx hb d_Tape_fourHexDigits_128 (by decide) ?_
                  rw [show (nI (4 - k) + 1 : Int32) = nI (4 - (k - 1)) by rw [nI_1]; congr 1; omega] at hl
                  exact ih (k - 1, j + 1, ((a * 16) + (((f j) - 65) + 10))) _ _ _ ⟨by omega, by omega, by rw [← hI.2.2]; obtain ⟨k0, rfl⟩ : ∃ k0, k = k0 + 1 := ⟨k - 1, by omega⟩; exact (hex4_s hd c102).symm⟩ (by show k - 1 < k; omega) hP hD hS (lv_sub hl [4, 1, 0] rfl)
                · refine lv_iconst (v := (-1)) hx hb d_Tape_fourHexDigits_105 (by decide) ?_
                  exact W.iret (v := (-1)) hx hb hr (fun t ht hW => ⟨⟨(-1), j, rfl, by rw [← hI.2.2]; obtain ⟨k0, rfl⟩ : ∃ k0, k = k0 + 1 := ⟨k - 1, by omega⟩; exact (hex4_f hd c102).symm, by rw [ht]; exact hP, va_K.moved hW.alike hK, hD⟩, hS.F ht⟩) hS.2.2 d_Tape_fourHexDigits_106
          · refine lv_iload_n hx hb d_Tape_fourHexDigits_59 rfl (lv_at hl 0 rfl) ?_
            refine lv_bipush (v := 102) hx hb d_Tape_fourHexDigits_60 (by decide) ?_
            refine lv_icmp_gt (tgt := 75) hx hb d_Tape_fourHexDigits_62 (by decide) (fun c62 => ?_) (fun c62 => ?_)
            · refine lv_iload_n hx hb d_Tape_fourHexDigits_75 rfl (lv_at hl 0 rfl) ?_
              refine lv_bipush (v := 65) hx hb d_Tape_fourHexDigits_76 (by decide) ?_
              refine lv_icmp_lt (tgt := 97) hx hb d_Tape_fourHexDigits_78 (by decide) (fun c78 => ?_) (fun c78 => ?_)
              · refine lv_iconst (v := (-1)) hx hb d_Tape_fourHexDigits_97 (by decide) ?_
                have hd : hexV (byteV f n j) = (-1) := by rw [hv]; unfold hexV; rw [if_neg (fun h => h.2 c43), if_neg (fun h => h.2 c62), if_neg (fun h => h.1 c78)]
                refine lv_istore (lv' := [(4, .int (-1)), (3, .int (f j)), (0, .ref h0), (1, .int a), (2, .int (nI (4 - k)))]) hx hb d_Tape_fourHexDigits_98 hl (by decide) rfl (fun ls hl => ?_)
                refine lv_iload hx hb d_Tape_fourHexDigits_100 (lv_at hl 0 rfl) ?_
                refine lv_if_ge (tgt := 107) hx hb d_Tape_fourHexDigits_102 (by decide) (fun c102 => ?_) (fun c102 => ?_)
                · refine lv_iload_n hx hb d_Tape_fourHexDigits_107 rfl (lv_at hl 3 rfl) ?_
                  refine lv_bipush (v := 16) hx hb d_Tape_fourHexDigits_108 (by decide) ?_
                  refine lv_imul hx hb d_Tape_fourHexDigits_110 ?_
                  refine lv_iload hx hb d_Tape_fourHexDigits_111 (lv_at hl 0 rfl) ?_
                  refine lv_iadd hx hb d_Tape_fourHexDigits_113 ?_
                  refine lv_istore_n (lv' := [(1, .int ((a * 16) + (-1))), (4, .int (-1)), (3, .int (f j)), (0, .ref h0), (2, .int (nI (4 - k)))]) hx hb d_Tape_fourHexDigits_114 rfl hl (by decide) rfl (fun ls hl => ?_)
                  refine lv_aload_n hx hb d_Tape_fourHexDigits_115 rfl (lv_at hl 3 rfl) ?_
                  refine lv_dup hx hb d_Tape_fourHexDigits_116 rfl ?_
                  refine va_get (D := (dC, dI)) (ci := 8) (v := .int (nI j)) (C := R_Tape) (T := F_Tape) (N := 7) hx hb hts in_Tape hown hK hP 0 rfl rfl 5 (by decide) (hts _ w_54) (fun _ h9 => h9) rfl d_Tape_fourHexDigits_117 ?_
                  refine lv_iconst (v := 1) hx hb d_Tape_fourHexDigits_120 (by decide) ?_
                  refine lv_iadd hx hb d_Tape_fourHexDigits_121 ?_
                  refine W.eq (g2 := F0 m 122 ls [.int (nI (j + 1)), .ref h0]) (by rw [show ((nI j) + 1) = (nI (j + 1)) from nI_1 _]) ?_
                  refine va_put (D := (dC, dI)) (ci := 8) (v := .int (nI (j + 1))) (ty := .int) (C := R_Tape) (T := F_Tape) (N := 7) hx hb hts in_Tape t_Tape t_Tape_ok n_Tape hown hK hP hD hS 0 rfl rfl 5 (by decide) (hts _ w_54) (fun _ h9 => h9) rfl (by decide +kernel) rfl rfl (Nat.le_of_ble_eq_true rfl) d_Tape_fourHexDigits_122 (fun H locs hP hD hS => ?_)
                  have hP : va_P (dC, dI) classes [(h0, .inr (8, [.ref qb, ru, .int uc, .int ln, .int (nI n), .int (nI (j + 1)), .int pl])), (qb, .inl (cB, 4096, .inl f))] H := hP
                  have hD : va_D A [(h0, .inr (8, [.ref qb, ru, .int uc, .int ln, .int (nI n), .int (nI (j + 1)), .int pl])), (qb, .inl (cB, 4096, .inl f))] := hD
                  refine lv_iinc (v := nI (4 - k) + 1) (lv' := [(2, .int (nI (4 - k) + 1)), (1, .int ((a * 16) + (-1))), (4, .int (-1)), (3, .int (f j)), (0, .ref h0)]) hx hb d_Tape_fourHexDigits_125 hl (k := 4) rfl rfl (by decide) rfl (fun ls hl => ?_)
                  refine lv_goto (tgt := 4) hx hb d_Tape_fourHexDigits_128 (by decide) ?_
                  rw [show (nI (4 - k) + 1 : Int32) = nI (4 - (k - 1)) by rw [nI_1]; congr 1; omega] at hl
                  exact ih (k - 1, j + 1, ((a * 16) + (-1))) _ _ _ ⟨by omega, by omega, by rw [← hI.2.2]; obtain ⟨k0, rfl⟩ : ∃ k0, k = k0 + 1 := ⟨k - 1, by omega⟩; exact (hex4_s hd c102).symm⟩ (by show k - 1 < k; omega) hP hD hS (lv_sub hl [4, 1, 0] rfl)
                · refine lv_iconst (v := (-1)) hx hb d_Tape_fourHexDigits_105 (by decide) ?_
                  exact W.iret (v := (-1)) hx hb hr (fun t ht hW => ⟨⟨(-1), j, rfl, by rw [← hI.2.2]; obtain ⟨k0, rfl⟩ : ∃ k0, k = k0 + 1 := ⟨k - 1, by omega⟩; exact (hex4_f hd c102).symm, by rw [ht]; exact hP, va_K.moved hW.alike hK, hD⟩, hS.F ht⟩) hS.2.2 d_Tape_fourHexDigits_106
              · refine lv_iload_n hx hb d_Tape_fourHexDigits_81 rfl (lv_at hl 0 rfl) ?_
                refine lv_bipush (v := 70) hx hb d_Tape_fourHexDigits_82 (by decide) ?_
                refine lv_icmp_gt (tgt := 97) hx hb d_Tape_fourHexDigits_84 (by decide) (fun c84 => ?_) (fun c84 => ?_)
                · refine lv_iconst (v := (-1)) hx hb d_Tape_fourHexDigits_97 (by decide) ?_
                  have hd : hexV (byteV f n j) = (-1) := by rw [hv]; unfold hexV; rw [if_neg (fun h => h.2 c43), if_neg (fun h => h.2 c62), if_neg (fun h => h.2 c84)]
                  refine lv_istore (lv' := [(4, .int (-1)), (3, .int (f j)), (0, .ref h0), (1, .int a), (2, .int (nI (4 - k)))]) hx hb d_Tape_fourHexDigits_98 hl (by decide) rfl (fun ls hl => ?_)
                  refine lv_iload hx hb d_Tape_fourHexDigits_100 (lv_at hl 0 rfl) ?_
                  refine lv_if_ge (tgt := 107) hx hb d_Tape_fourHexDigits_102 (by decide) (fun c102 => ?_) (fun c102 => ?_)
                  · refine lv_iload_n hx hb d_Tape_fourHexDigits_107 rfl (lv_at hl 3 rfl) ?_
                    refine lv_bipush (v := 16) hx hb d_Tape_fourHexDigits_108 (by decide) ?_
                    refine lv_imul hx hb d_Tape_fourHexDigits_110 ?_
                    refine lv_iload hx hb d_Tape_fourHexDigits_111 (lv_at hl 0 rfl) ?_
                    refine lv_iadd hx hb d_Tape_fourHexDigits_113 ?_
                    refine lv_istore_n (lv' := [(1, .int ((a * 16) + (-1))), (4, .int (-1)), (3, .int (f j)), (0, .ref h0), (2, .int (nI (4 - k)))]) hx hb d_Tape_fourHexDigits_114 rfl hl (by decide) rfl (fun ls hl => ?_)
                    refine lv_aload_n hx hb d_Tape_fourHexDigits_115 rfl (lv_at hl 3 rfl) ?_
                    refine lv_dup hx hb d_Tape_fourHexDigits_116 rfl ?_
                    refine va_get (D := (dC, dI)) (ci := 8) (v := .int (nI j)) (C := R_Tape) (T := F_Tape) (N := 7) hx hb hts in_Tape hown hK hP 0 rfl rfl 5 (by decide) (hts _ w_54) (fun _ h9 => h9) rfl d_Tape_fourHexDigits_117 ?_
                    refine lv_iconst (v := 1) hx hb d_Tape_fourHexDigits_120 (by decide) ?_
                    refine lv_iadd hx hb d_Tape_fourHexDigits_121 ?_
                    refine W.eq (g2 := F0 m 122 ls [.int (nI (j + 1)), .ref h0]) (by rw [show ((nI j) + 1) = (nI (j + 1)) from nI_1 _]) ?_
                    refine va_put (D := (dC, dI)) (ci := 8) (v := .int (nI (j + 1))) (ty := .int) (C := R_Tape) (T := F_Tape) (N := 7) hx hb hts in_Tape t_Tape t_Tape_ok n_Tape hown hK hP hD hS 0 rfl rfl 5 (by decide) (hts _ w_54) (fun _ h9 => h9) rfl (by decide +kernel) rfl rfl (Nat.le_of_ble_eq_true rfl) d_Tape_fourHexDigits_122 (fun H locs hP hD hS => ?_)
                    have hP : va_P (dC, dI) classes [(h0, .inr (8, [.ref qb, ru, .int uc, .int ln, .int (nI n), .int (nI (j + 1)), .int pl])), (qb, .inl (cB, 4096, .inl f))] H := hP
                    have hD : va_D A [(h0, .inr (8, [.ref qb, ru, .int uc, .int ln, .int (nI n), .int (nI (j + 1)), .int pl])), (qb, .inl (cB, 4096, .inl f))] := hD
                    refine lv_iinc (v := nI (4 - k) + 1) (lv' := [(2, .int (nI (4 - k) + 1)), (1, .int ((a * 16) + (-1))), (4, .int (-1)), (3, .int (f j)), (0, .ref h0)]) hx hb d_Tape_fourHexDigits_125 hl (k := 4) rfl rfl (by decide) rfl (fun ls hl => ?_)
                    refine lv_goto (tgt := 4) hx hb d_Tape_fourHexDigits_128 (by decide) ?_
                    rw [show (nI (4 - k) + 1 : Int32) = nI (4 - (k - 1)) by rw [nI_1]; congr 1; omega] at hl
                    exact ih (k - 1, j + 1, ((a * 16) + (-1))) _ _ _ ⟨by omega, by omega, by rw [← hI.2.2]; obtain ⟨k0, rfl⟩ : ∃ k0, k = k0 + 1 := ⟨k - 1, by omega⟩; exact (hex4_s hd c102).symm⟩ (by show k - 1 < k; omega) hP hD hS (lv_sub hl [4, 1, 0] rfl)
                  · refine lv_iconst (v := (-1)) hx hb d_Tape_fourHexDigits_105 (by decide) ?_
                    exact W.iret (v := (-1)) hx hb hr (fun t ht hW => ⟨⟨(-1), j, rfl, by rw [← hI.2.2]; obtain ⟨k0, rfl⟩ : ∃ k0, k = k0 + 1 := ⟨k - 1, by omega⟩; exact (hex4_f hd c102).symm, by rw [ht]; exact hP, va_K.moved hW.alike hK, hD⟩, hS.F ht⟩) hS.2.2 d_Tape_fourHexDigits_106
                · refine lv_iload_n hx hb d_Tape_fourHexDigits_87 rfl (lv_at hl 0 rfl) ?_
                  refine lv_bipush (v := 65) hx hb d_Tape_fourHexDigits_88 (by decide) ?_
                  refine lv_isub hx hb d_Tape_fourHexDigits_90 ?_
                  refine lv_bipush (v := 10) hx hb d_Tape_fourHexDigits_91 (by decide) ?_
                  refine lv_iadd hx hb d_Tape_fourHexDigits_93 ?_
                  refine lv_goto (tgt := 98) hx hb d_Tape_fourHexDigits_94 (by decide) ?_
                  have hd : hexV (byteV f n j) = (((f j) - 65) + 10) := by rw [hv]; unfold hexV; rw [if_neg (fun h => h.2 c43), if_neg (fun h => h.2 c62), if_pos ⟨c78, c84⟩]
                  refine lv_istore (lv' := [(4, .int (((f j) - 65) + 10)), (3, .int (f j)), (0, .ref h0), (1, .int a), (2, .int (nI (4 - k)))]) hx hb d_Tape_fourHexDigits_98 hl (by decide) rfl (fun ls hl => ?_)
                  refine lv_iload hx hb d_Tape_fourHexDigits_100 (lv_at hl 0 rfl) ?_
                  refine lv_if_ge (tgt := 107) hx hb d_Tape_fourHexDigits_102 (by decide) (fun c102 => ?_) (fun c102 => ?_)
                  · refine lv_iload_n hx hb d_Tape_fourHexDigits_107 rfl (lv_at hl 3 rfl) ?_
                    refine lv_bipush (v := 16) hx hb d_Tape_fourHexDigits_108 (by decide) ?_
                    refine lv_imul hx hb d_Tape_fourHexDigits_110 ?_
                    refine lv_iload hx hb d_Tape_fourHexDigits_111 (lv_at hl 0 rfl) ?_
                    refine lv_iadd hx hb d_Tape_fourHexDigits_113 ?_
                    refine lv_istore_n (lv' := [(1, .int ((a * 16) + (((f j) - 65) + 10))), (4, .int (((f j) - 65) + 10)), (3, .int (f j)), (0, .ref h0), (2, .int (nI (4 - k)))]) hx hb d_Tape_fourHexDigits_114 rfl hl (by decide) rfl (fun ls hl => ?_)
                    refine lv_aload_n hx hb d_Tape_fourHexDigits_115 rfl (lv_at hl 3 rfl) ?_
                    refine lv_dup hx hb d_Tape_fourHexDigits_116 rfl ?_
                    refine va_get (D := (dC, dI)) (ci := 8) (v := .int (nI j)) (C := R_Tape) (T := F_Tape) (N := 7) hx hb hts in_Tape hown hK hP 0 rfl rfl 5 (by decide) (hts _ w_54) (fun _ h9 => h9) rfl d_Tape_fourHexDigits_117 ?_
                    refine lv_iconst (v := 1) hx hb d_Tape_fourHexDigits_120 (by decide) ?_
                    refine lv_iadd hx hb d_Tape_fourHexDigits_121 ?_
                    refine W.eq (g2 := F0 m 122 ls [.int (nI (j + 1)), .ref h0]) (by rw [show ((nI j) + 1) = (nI (j + 1)) from nI_1 _]) ?_
                    refine va_put (D := (dC, dI)) (ci := 8) (v := .int (nI (j + 1))) (ty := .int) (C := R_Tape) (T := F_Tape) (N := 7) hx hb hts in_Tape t_Tape t_Tape_ok n_Tape hown hK hP hD hS 0 rfl rfl 5 (by decide) (hts _ w_54) (fun _ h9 => h9) rfl (by decide +kernel) rfl rfl (Nat.le_of_ble_eq_true rfl) d_Tape_fourHexDigits_122 (fun H locs hP hD hS => ?_)
                    have hP : va_P (dC, dI) classes [(h0, .inr (8, [.ref qb, ru, .int uc, .int ln, .int (nI n), .int (nI (j + 1)), .int pl])), (qb, .inl (cB, 4096, .inl f))] H := hP
                    have hD : va_D A [(h0, .inr (8, [.ref qb, ru, .int uc, .int ln, .int (nI n), .int (nI (j + 1)), .int pl])), (qb, .inl (cB, 4096, .inl f))] := hD
                    refine lv_iinc (v := nI (4 - k) + 1) (lv' := [(2, .int (nI (4 - k) + 1)), (1, .int ((a * 16) + (((f j) - 65) + 10))), (4, .int (((f j) - 65) + 10)), (3, .int (f j)), (0, .ref h0)]) hx hb d_Tape_fourHexDigits_125 hl (k := 4) rfl rfl (by decide) rfl (fun ls hl => ?_)
                    refine lv_goto (tgt := 4) hx hb d_Tape_fourHexDigits_128 (by decide) ?_
                    rw [show (nI (4 - k) + 1 : Int32) = nI (4 - (k - 1)) by rw [nI_1]; congr 1; omega] at hl
                    exact ih (k - 1, j + 1, ((a * 16) + (((f j) - 65) + 10))) _ _ _ ⟨by omega, by omega, by rw [← hI.2.2]; obtain ⟨k0, rfl⟩ : ∃ k0, k = k0 + 1 := ⟨k - 1, by omega⟩; exact (hex4_s hd c102).symm⟩ (by show k - 1 < k; omega) hP hD hS (lv_sub hl [4, 1, 0] rfl)
                  · refine lv_iconst (v := (-1)) hx hb d_Tape_fourHexDigits_105 (by decide) ?_
                    exact W.iret (v := (-1)) hx hb hr (fun t ht hW => ⟨⟨(-1), j, rfl, by rw [← hI.2.2]; obtain ⟨k0, rfl⟩ : ∃ k0, k = k0 + 1 := ⟨k - 1, by omega⟩; exact (hex4_f hd c102).symm, by rw [ht]; exact hP, va_K.moved hW.alike hK, hD⟩, hS.F ht⟩) hS.2.2 d_Tape_fourHexDigits_106
            · refine lv_iload_n hx hb d_Tape_fourHexDigits_65 rfl (lv_at hl 0 rfl) ?_
              refine lv_bipush (v := 97) hx hb d_Tape_fourHexDigits_66 (by decide) ?_
              refine lv_isub hx hb d_Tape_fourHexDigits_68 ?_
              refine lv_bipush (v := 10) hx hb d_Tape_fourHexDigits_69 (by decide) ?_
              refine lv_iadd hx hb d_Tape_fourHexDigits_71 ?_
              refine lv_goto (tgt := 98) hx hb d_Tape_fourHexDigits_72 (by decide) ?_
              have hd : hexV (byteV f n j) = (((f j) - 97) + 10) := by rw [hv]; unfold hexV; rw [if_neg (fun h => h.2 c43), if_pos ⟨c56, c62⟩]
              refine lv_istore (lv' := [(4, .int (((f j) - 97) + 10)), (3, .int (f j)), (0, .ref h0), (1, .int a), (2, .int (nI (4 - k)))]) hx hb d_Tape_fourHexDigits_98 hl (by decide) rfl (fun ls hl => ?_)
              refine lv_iload hx hb d_Tape_fourHexDigits_100 (lv_at hl 0 rfl) ?_
              refine lv_if_ge (tgt := 107) hx hb d_Tape_fourHexDigits_102 (by decide) (fun c102 => ?_) (fun c102 => ?_)
              · refine lv_iload_n hx hb d_Tape_fourHexDigits_107 rfl (lv_at hl 3 rfl) ?_
                refine lv_bipush (v := 16) hx hb d_Tape_fourHexDigits_108 (by decide) ?_
                refine lv_imul hx hb d_Tape_fourHexDigits_110 ?_
                refine lv_iload hx hb d_Tape_fourHexDigits_111 (lv_at hl 0 rfl) ?_
                refine lv_iadd hx hb d_Tape_fourHexDigits_113 ?_
                refine lv_istore_n (lv' := [(1, .int ((a * 16) + (((f j) - 97) + 10))), (4, .int (((f j) - 97) + 10)), (3, .int (f j)), (0, .ref h0), (2, .int (nI (4 - k)))]) hx hb d_Tape_fourHexDigits_114 rfl hl (by decide) rfl (fun ls hl => ?_)
                refine lv_aload_n hx hb d_Tape_fourHexDigits_115 rfl (lv_at hl 3 rfl) ?_
                refine lv_dup hx hb d_Tape_fourHexDigits_116 rfl ?_
                refine va_get (D := (dC, dI)) (ci := 8) (v := .int (nI j)) (C := R_Tape) (T := F_Tape) (N := 7) hx hb hts in_Tape hown hK hP 0 rfl rfl 5 (by decide) (hts _ w_54) (fun _ h9 => h9) rfl d_Tape_fourHexDigits_117 ?_
                refine lv_iconst (v := 1) hx hb d_Tape_fourHexDigits_120 (by decide) ?_
                refine lv_iadd hx hb d_Tape_fourHexDigits_121 ?_
                refine W.eq (g2 := F0 m 122 ls [.int (nI (j + 1)), .ref h0]) (by rw [show ((nI j) + 1) = (nI (j + 1)) from nI_1 _]) ?_
                refine va_put (D := (dC, dI)) (ci := 8) (v := .int (nI (j + 1))) (ty := .int) (C := R_Tape) (T := F_Tape) (N := 7) hx hb hts in_Tape t_Tape t_Tape_ok n_Tape hown hK hP hD hS 0 rfl rfl 5 (by decide) (hts _ w_54) (fun _ h9 => h9) rfl (by decide +kernel) rfl rfl (Nat.le_of_ble_eq_true rfl) d_Tape_fourHexDigits_122 (fun H locs hP hD hS => ?_)
                have hP : va_P (dC, dI) classes [(h0, .inr (8, [.ref qb, ru, .int uc, .int ln, .int (nI n), .int (nI (j + 1)), .int pl])), (qb, .inl (cB, 4096, .inl f))] H := hP
                have hD : va_D A [(h0, .inr (8, [.ref qb, ru, .int uc, .int ln, .int (nI n), .int (nI (j + 1)), .int pl])), (qb, .inl (cB, 4096, .inl f))] := hD
                refine lv_iinc (v := nI (4 - k) + 1) (lv' := [(2, .int (nI (4 - k) + 1)), (1, .int ((a * 16) + (((f j) - 97) + 10))), (4, .int (((f j) - 97) + 10)), (3, .int (f j)), (0, .ref h0)]) hx hb d_Tape_fourHexDigits_125 hl (k := 4) rfl rfl (by decide) rfl (fun ls hl => ?_)
                refine lv_goto (tgt := 4) hx hb d_Tape_fourHexDigits_128 (by decide) ?_
                rw [show (nI (4 - k) + 1 : Int32) = nI (4 - (k - 1)) by rw [nI_1]; congr 1; omega] at hl
                exact ih (k - 1, j + 1, ((a * 16) + (((f j) - 97) + 10))) _ _ _ ⟨by omega, by omega, by rw [← hI.2.2]; obtain ⟨k0, rfl⟩ : ∃ k0, k = k0 + 1 := ⟨k - 1, by omega⟩; exact (hex4_s hd c102).symm⟩ (by show k - 1 < k; omega) hP hD hS (lv_sub hl [4, 1, 0] rfl)
              · refine lv_iconst (v := (-1)) hx hb d_Tape_fourHexDigits_105 (by decide) ?_
                exact W.iret (v := (-1)) hx hb hr (fun t ht hW => ⟨⟨(-1), j, rfl, by rw [← hI.2.2]; obtain ⟨k0, rfl⟩ : ∃ k0, k = k0 + 1 := ⟨k - 1, by omega⟩; exact (hex4_f hd c102).symm, by rw [ht]; exact hP, va_K.moved hW.alike hK, hD⟩, hS.F ht⟩) hS.2.2 d_Tape_fourHexDigits_106
        · refine lv_iload_n hx hb d_Tape_fourHexDigits_46 rfl (lv_at hl 0 rfl) ?_
          refine lv_bipush (v := 48) hx hb d_Tape_fourHexDigits_47 (by decide) ?_
          refine lv_isub hx hb d_Tape_fourHexDigits_49 ?_
          refine lv_goto (tgt := 98) hx hb d_Tape_fourHexDigits_50 (by decide) ?_
          have hd : hexV (byteV f n j) = ((f j) - 48) := by rw [hv]; unfold hexV; rw [if_pos ⟨c37, c43⟩]
          refine lv_istore (lv' := [(4, .int ((f j) - 48)), (3, .int (f j)), (0, .ref h0), (1, .int a), (2, .int (nI (4 - k)))]) hx hb d_Tape_fourHexDigits_98 hl (by decide) rfl (fun ls hl => ?_)
          refine lv_iload hx hb d_Tape_fourHexDigits_100 (lv_at hl 0 rfl) ?_
          refine lv_if_ge (tgt := 107) hx hb d_Tape_fourHexDigits_102 (by decide) (fun c102 => ?_) (fun c102 => ?_)
          · refine lv_iload_n hx hb d_Tape_fourHexDigits_107 rfl (lv_at hl 3 rfl) ?_
            refine lv_bipush (v := 16) hx hb d_Tape_fourHexDigits_108 (by decide) ?_
            refine lv_imul hx hb d_Tape_fourHexDigits_110 ?_
            refine lv_iload hx hb d_Tape_fourHexDigits_111 (lv_at hl 0 rfl) ?_
            refine lv_iadd hx hb d_Tape_fourHexDigits_113 ?_
            refine lv_istore_n (lv' := [(1, .int ((a * 16) + ((f j) - 48))), (4, .int ((f j) - 48)), (3, .int (f j)), (0, .ref h0), (2, .int (nI (4 - k)))]) hx hb d_Tape_fourHexDigits_114 rfl hl (by decide) rfl (fun ls hl => ?_)
            refine lv_aload_n hx hb d_Tape_fourHexDigits_115 rfl (lv_at hl 3 rfl) ?_
            refine lv_dup hx hb d_Tape_fourHexDigits_116 rfl ?_
            refine va_get (D := (dC, dI)) (ci := 8) (v := .int (nI j)) (C := R_Tape) (T := F_Tape) (N := 7) hx hb hts in_Tape hown hK hP 0 rfl rfl 5 (by decide) (hts _ w_54) (fun _ h9 => h9) rfl d_Tape_fourHexDigits_117 ?_
            refine lv_iconst (v := 1) hx hb d_Tape_fourHexDigits_120 (by decide) ?_
            refine lv_iadd hx hb d_Tape_fourHexDigits_121 ?_
            refine W.eq (g2 := F0 m 122 ls [.int (nI (j + 1)), .ref h0]) (by rw [show ((nI j) + 1) = (nI (j + 1)) from nI_1 _]) ?_
            refine va_put (D := (dC, dI)) (ci := 8) (v := .int (nI (j + 1))) (ty := .int) (C := R_Tape) (T := F_Tape) (N := 7) hx hb hts in_Tape t_Tape t_Tape_ok n_Tape hown hK hP hD hS 0 rfl rfl 5 (by decide) (hts _ w_54) (fun _ h9 => h9) rfl (by decide +kernel) rfl rfl (Nat.le_of_ble_eq_true rfl) d_Tape_fourHexDigits_122 (fun H locs hP hD hS => ?_)
            have hP : va_P (dC, dI) classes [(h0, .inr (8, [.ref qb, ru, .int uc, .int ln, .int (nI n), .int (nI (j + 1)), .int pl])), (qb, .inl (cB, 4096, .inl f))] H := hP
            have hD : va_D A [(h0, .inr (8, [.ref qb, ru, .int uc, .int ln, .int (nI n), .int (nI (j + 1)), .int pl])), (qb, .inl (cB, 4096, .inl f))] := hD
            refine lv_iinc (v := nI (4 - k) + 1) (lv' := [(2, .int (nI (4 - k) + 1)), (1, .int ((a * 16) + ((f j) - 48))), (4, .int ((f j) - 48)), (3, .int (f j)), (0, .ref h0)]) hx hb d_Tape_fourHexDigits_125 hl (k := 4) rfl rfl (by decide) rfl (fun ls hl => ?_)
            refine lv_goto (tgt := 4) hx hb d_Tape_fourHexDigits_128 (by decide) ?_
            rw [show (nI (4 - k) + 1 : Int32) = nI (4 - (k - 1)) by rw [nI_1]; congr 1; omega] at hl
            exact ih (k - 1, j + 1, ((a * 16) + ((f j) - 48))) _ _ _ ⟨by omega, by omega, by rw [← hI.2.2]; obtain ⟨k0, rfl⟩ : ∃ k0, k = k0 + 1 := ⟨k - 1, by omega⟩; exact (hex4_s hd c102).symm⟩ (by show k - 1 < k; omega) hP hD hS (lv_sub hl [4, 1, 0] rfl)
          · refine lv_iconst (v := (-1)) hx hb d_Tape_fourHexDigits_105 (by decide) ?_
            exact W.iret (v := (-1)) hx hb hr (fun t ht hW => ⟨⟨(-1), j, rfl, by rw [← hI.2.2]; obtain ⟨k0, rfl⟩ : ∃ k0, k = k0 + 1 := ⟨k - 1, by omega⟩; exact (hex4_f hd c102).symm, by rw [ht]; exact hP, va_K.moved hW.alike hK, hD⟩, hS.F ht⟩) hS.2.2 d_Tape_fourHexDigits_106
abbrev b_Tape_keep : ByteArray := prog_10_method_13_code
def y_Tape_keep : MethodName := ⟨"QueryBench$Tape", "keep", "(I)V"⟩
abbrev k_Tape_keep : Cond := .code y_Tape_keep b_Tape_keep 2 none
theorem i_Tape_keep : k_Tape_keep ∈ gtbl := gt_in 417 (by decide +kernel) (by decide +kernel)
theorem d_Tape_keep_0 : decode b_Tape_keep 0 = .ok (.aload_n 0, 1) := by decide +kernel
theorem d_Tape_keep_1 : decode b_Tape_keep 1 = .ok (.getfield 70, 3) := by decide +kernel
theorem d_Tape_keep_4 : decode b_Tape_keep 4 = .ok (.aload_n 0, 1) := by decide +kernel
theorem d_Tape_keep_5 : decode b_Tape_keep 5 = .ok (.getfield 15, 3) := by decide +kernel
theorem d_Tape_keep_8 : decode b_Tape_keep 8 = .ok (.arraylength, 1) := by decide +kernel
theorem d_Tape_keep_9 : decode b_Tape_keep 9 = .ok (.if_icmp .ge 23, 3) := by decide +kernel
theorem d_Tape_keep_12 : decode b_Tape_keep 12 = .ok (.aload_n 0, 1) := by decide +kernel
theorem d_Tape_keep_13 : decode b_Tape_keep 13 = .ok (.getfield 15, 3) := by decide +kernel
theorem d_Tape_keep_16 : decode b_Tape_keep 16 = .ok (.aload_n 0, 1) := by decide +kernel
theorem d_Tape_keep_17 : decode b_Tape_keep 17 = .ok (.getfield 70, 3) := by decide +kernel
theorem d_Tape_keep_20 : decode b_Tape_keep 20 = .ok (.iload_n 1, 1) := by decide +kernel
theorem d_Tape_keep_21 : decode b_Tape_keep 21 = .ok (.iastore, 1) := by decide +kernel
theorem d_Tape_keep_22 : decode b_Tape_keep 22 = .ok (.aload_n 0, 1) := by decide +kernel
theorem d_Tape_keep_23 : decode b_Tape_keep 23 = .ok (.dup, 1) := by decide +kernel
theorem d_Tape_keep_24 : decode b_Tape_keep 24 = .ok (.getfield 70, 3) := by decide +kernel
theorem d_Tape_keep_27 : decode b_Tape_keep 27 = .ok (.iconst 1, 1) := by decide +kernel
theorem d_Tape_keep_28 : decode b_Tape_keep 28 = .ok (.iadd, 1) := by decide +kernel
theorem d_Tape_keep_29 : decode b_Tape_keep 29 = .ok (.putfield 70, 3) := by decide +kernel
theorem d_Tape_keep_32 : decode b_Tape_keep 32 = .ok (.return_, 1) := by decide +kernel
set_option maxHeartbeats 4000000 in
set_option maxRecDepth 100000 in
/-- Tape.keep -/
theorem c_Tape_keep (l : Launch) (dC : Nat → ClassId) (dI : Nat → Nat → Nat) (cI : ClassId) (h0 qu : Nat) (sz : Heap) (rb : Value) (ln en at_ pl : Int32) (g : Nat → Int32) (k : Nat) (x : Int32) (hk0 : k ≤ 4096) : Met l y_Tape_keep (k_Tape_keep :: gtbl) ({ frames := 0, cells := 0, slots := 0, locals := 0 }) (va_Pc [.ref h0, .int x] (mp dC dI [(h0, .inr (8, [rb, .ref qu, .int (nI k), .int ln, .int en, .int at_, .int pl])), (qu, .inl (cI, 4096, .inl g))] [(cI, .int)] sz)) (va_Qv (fun (u : Nat × (Nat → Int32)) => (k < 4096 ∧ u = (k + 1, upd g k x)) ∨ (4096 ≤ k ∧ u = (k, g))) (fun u => mz dC dI [(h0, .inr (8, [rb, .ref qu, .int (nI u.1), .int ln, .int en, .int at_, .int pl])), (qu, .inl (cI, 4096, .inl u.2))] [(cI, .int)] (va_A [(h0, .inr (8, [rb, .ref qu, .int (nI k), .int ln, .int en, .int at_, .int pl])), (qu, .inl (cI, 4096, .inl g))] sz.size)) (va_A [(h0, .inr (8, [rb, .ref qu, .int (nI k), .int ln, .int en, .int at_, .int pl])), (qu, .inl (cI, 4096, .inl g))] sz.size)) 0 0 (va_A [(h0, .inr (8, [rb, .ref qu, .int (nI k), .int ln, .int en, .int at_, .int pl])), (qu, .inl (cI, 4096, .inl g))] sz.size) := by
  refine Met.ofW (cc := b_Tape_keep) (maxL := 2) (ret := none) (by decide) rfl ?_
  intro p e s m args below meth c s₁ B hml hv
  obtain ⟨rfl, hsz, hP, hK, hD0⟩ := hv
  have hx := B.exec
  have hb := B.bytes
  have hr := B.returns
  have hts0 := atoms_spec (ws := k_Tape_keep :: gtbl) B.pre
  have hts := fun w h => hts0 w (List.mem_cons_of_mem _ h)
  have hown : s.vm.findClass R_Tape = some m.cls := findClass_of_methodNamed B.named
  have hlocks := B.notSynchronized
  subst hsz
  have hD := hD0.self (sz := s.heap.size)
  generalize hAe : va_A [(h0, .inr (8, [rb, .ref qu, .int (nI k), .int ln, .int en, .int at_, .int pl])), (qu, .inl (cI, 4096, .inl g))] s.heap.size = A at hD ⊢
  have hA : ∀ q : Nat, s.heap.size ≤ q → A q := fun q h => by rw [← hAe]; exact Or.inr h
  have hS : va_S A s.heap s.heap [] := va_S.rf
  have hP : va_P (dC, dI) classes [(h0, .inr (8, [rb, .ref qu, .int (nI k), .int ln, .int en, .int at_, .int pl])), (qu, .inl (cI, 4096, .inl g))] s.heap := hP
  have hl := lv_entry ([.ref h0, .int x]) (n := 2) (Nat.le_of_ble_eq_true rfl)
  rw [lg_entry_eq]
  generalize (lg_sl ([.ref h0, .int x]) ++ List.replicate (2 - (lg_sl ([.ref h0, .int x])).length) Slot.unset).toArray = ls at hl ⊢
  have hl : lv_has ls 2 [(0, .ref h0), (1, .int x)] := hl
  refine lv_aload_n hx hb d_Tape_keep_0 rfl (lv_at hl 0 rfl) ?_
  refine va_get (D := (dC, dI)) (ci := 8) (v := .int (nI k)) (C := R_Tape) (T := F_Tape) (N := 7) hx hb hts in_Tape hown hK hP 0 rfl rfl 2 (by decide) (hts _ w_46) (fun _ h9 => h9) rfl d_Tape_keep_1 ?_
  refine lv_aload_n hx hb d_Tape_keep_4 rfl (lv_at hl 0 rfl) ?_
  refine va_get (D := (dC, dI)) (ci := 8) (v := .ref qu) (C := R_Tape) (T := F_Tape) (N := 7) hx hb hts in_Tape hown hK hP 0 rfl rfl 1 (by decide) (hts _ w_45) (fun _ h9 => h9) rfl d_Tape_keep_5 ?_
  refine va_alen (v := 4096) hx hb hK hP 1 0 rfl rfl rfl d_Tape_keep_8 ?_
  refine lv_icmp_ge (tgt := 32) hx hb d_Tape_keep_9 (by decide) (fun c9 => ?_) (fun c9 => ?_)
  · exact W.vret hx hb hr (fun t ht hW => ⟨⟨(k, g), rfl, Or.inr ⟨(by rw [show (4096 : Int32) = nI 4096 from rfl, nI_leI (by omega) (by omega)] at c9; omega), rfl⟩, by rw [ht]; exact hP, va_K.moved hW.alike hK, hD⟩, hS.F ht⟩) hS.2.2 d_Tape_keep_32
  · refine lv_aload_n hx hb d_Tape_keep_12 rfl (lv_at hl 0 rfl) ?_
    refine va_get (D := (dC, dI)) (ci := 8) (v := .ref qu) (C := R_Tape) (T := F_Tape) (N := 7) hx hb hts in_Tape hown hK hP 0 rfl rfl 1 (by decide) (hts _ w_45) (fun _ h9 => h9) rfl d_Tape_keep_13 ?_
    refine lv_aload_n hx hb d_Tape_keep_16 rfl (lv_at hl 0 rfl) ?_
    refine va_get (D := (dC, dI)) (ci := 8) (v := .int (nI k)) (C := R_Tape) (T := F_Tape) (N := 7) hx hb hts in_Tape hown hK hP 0 rfl rfl 2 (by decide) (hts _ w_46) (fun _ h9 => h9) rfl d_Tape_keep_17 ?_
    refine lv_iload_n hx hb d_Tape_keep_20 rfl (lv_at hl 1 rfl) ?_
    have hk : k < 4096 := by rw [show (4096 : Int32) = nI 4096 from rfl, nI_leI (by omega) (by omega)] at c9; omega
    refine va_iast hx hb hK hP hD hS 1 0 rfl rfl (vp_in_nI hk (by decide)) d_Tape_keep_21 (fun H locs hP hD hS => ?_)
    rw [show (nI k).toNatClampNeg = k from nI_clamp (by omega)] at hP hD
    have hP : va_P (dC, dI) classes [(h0, .inr (8, [rb, .ref qu, .int (nI k), .int ln, .int en, .int at_, .int pl])), (qu, .inl (cI, 4096, .inl (upd g k x)))] H := hP
    have hD : va_D A [(h0, .inr (8, [rb, .ref qu, .int (nI k), .int ln, .int en, .int at_, .int pl])), (qu, .inl (cI, 4096, .inl (upd g k x)))] := hD
    refine lv_aload_n hx hb d_Tape_keep_22 rfl (lv_at hl 0 rfl) ?_
    refine lv_dup hx hb d_Tape_keep_23 rfl ?_
    refine va_get (D := (dC, dI)) (ci := 8) (v := .int (nI k)) (C := R_Tape) (T := F_Tape) (N := 7) hx hb hts in_Tape hown hK hP 0 rfl rfl 2 (by decide) (hts _ w_46) (fun _ h9 => h9) rfl d_Tape_keep_24 ?_
    refine lv_iconst (v := 1) hx hb d_Tape_keep_27 (by decide) ?_
    refine lv_iadd hx hb d_Tape_keep_28 ?_
    refine W.eq (g2 := F0 m 29 ls [.int (nI (k + 1)), .ref h0]) (by rw [show ((nI k) + 1) = (nI (k + 1)) from nI_1 _]) ?_
    refine va_put (D := (dC, dI)) (ci := 8) (v := .int (nI (k + 1))) (ty := .int) (C := R_Tape) (T := F_Tape) (N := 7) hx hb hts in_Tape t_Tape t_Tape_ok n_Tape hown hK hP hD hS 0 rfl rfl 2 (by decide) (hts _ w_46) (fun _ h9 => h9) rfl (by decide +kernel) rfl rfl (Nat.le_of_ble_eq_true rfl) d_Tape_keep_29 (fun H locs hP hD hS => ?_)
    have hP : va_P (dC, dI) classes [(h0, .inr (8, [rb, .ref qu, .int (nI (k + 1)), .int ln, .int en, .int at_, .int pl])), (qu, .inl (cI, 4096, .inl (upd g k x)))] H := hP
    have hD : va_D A [(h0, .inr (8, [rb, .ref qu, .int (nI (k + 1)), .int ln, .int en, .int at_, .int pl])), (qu, .inl (cI, 4096, .inl (upd g k x)))] := hD
    exact W.vret hx hb hr (fun t ht hW => ⟨⟨(k + 1, upd g k x), rfl, Or.inl ⟨hk, rfl⟩, by rw [ht]; exact hP, va_K.moved hW.alike hK, hD⟩, hS.F ht⟩) hS.2.2 d_Tape_keep_32
