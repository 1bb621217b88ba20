theorem w_414 : (.methodLink "QueryBench$Tape" 82 ⟨"QueryBench$Tape", "keep", "(I)V"⟩ : Cond) ∈ gtbl := gt_in 414 (by decide +kernel) (by decide +kernel)
theorem w_416 : (.instanceMethod ⟨"QueryBench$Tape", "keep", "(I)V"⟩ : Cond) ∈ gtbl := gt_in 416 (by decide +kernel) (by decide +kernel)
theorem w_418 : (.methodLink "QueryBench$Tape" 85 ⟨"QueryBench$Tape", "escape", "(I)I"⟩ : Cond) ∈ gtbl := gt_in 418 (by decide +kernel) (by decide +kernel)
theorem w_420 : (.instanceMethod ⟨"QueryBench$Tape", "escape", "(I)I"⟩ : Cond) ∈ gtbl := gt_in 420 (by decide +kernel) (by decide +kernel)
theorem w_427 : (.static ⟨"QueryBench", "isLowUnit", "(I)Z"⟩ : Cond) ∈ gtbl := gt_in 427 (by decide +kernel) (by decide +kernel)
theorem w_432 : (.static ⟨"QueryBench", "isHighUnit", "(I)Z"⟩ : Cond) ∈ gtbl := gt_in 432 (by decide +kernel) (by decide +kernel)
theorem nl_426 : (.methodLinkNest "QueryBench$Tape" 89 ⟨"QueryBench", "isLowUnit", "(I)Z"⟩ "QueryBench" : Cond) ∈ nwl := List.mem_filter.mpr ⟨List.mem_append_right _ (List.mem_of_getElem? (i := 426) (by decide +kernel)), rfl⟩
theorem nl_431 : (.methodLinkNest "QueryBench$Tape" 92 ⟨"QueryBench", "isHighUnit", "(I)Z"⟩ "QueryBench" : Cond) ∈ nwl := List.mem_filter.mpr ⟨List.mem_append_right _ (List.mem_of_getElem? (i := 431) (by decide +kernel)), rfl⟩
abbrev lowU (x : Int32) : Prop := 56320 ≤ x ∧ x ≤ 57343
abbrev highU (x : Int32) : Prop := 55296 ≤ x ∧ x ≤ 56319
theorem lowU_1 {x r : Int32} (h : r = if 56320 ≤ x ∧ x ≤ 57343 then 1 else 0) (h0 : ¬ r = 0) : lowU x := Classical.byContradiction (fun hn => h0 (by rw [h, if_neg hn]))
theorem lowU_0 {x r : Int32} (h : r = if 56320 ≤ x ∧ x ≤ 57343 then 1 else 0) (h0 : r = 0) : ¬ lowU x := fun hn => by rw [if_pos hn] at h; rw [h] at h0; exact absurd h0 (by decide)
theorem highU_1 {x r : Int32} (h : r = if 55296 ≤ x ∧ x ≤ 56319 then 1 else 0) (h0 : ¬ r = 0) : highU x := Classical.byContradiction (fun hn => h0 (by rw [h, if_neg hn]))
theorem highU_0 {x r : Int32} (h : r = if 55296 ≤ x ∧ x ≤ 56319 then 1 else 0) (h0 : r = 0) : ¬ highU x := fun hn => by rw [if_pos hn] at h; rw [h] at h0; exact absurd h0 (by decide)
/-- a character at i, told as a relation: its units, and where it ends -/
def chR (f : Nat → Int32) (n i : Nat) (q : Int32) (j : Nat) (L : List Int32) : Prop :=
  ¬ hereV f n i < 32 ∧ hereV f n i ≤ 126 ∧ ((¬ hereV f n i = 92 ∧ j = i + 1 ∧ L = [hereV f n i]) ∨
    (hereV f n i = 92 ∧ ∃ u v i1, (u, i1) = escV f n i q ∧ ¬ u < 0 ∧ ¬ lowU u ∧ ((¬ highU u ∧ j = i1 ∧ L = [u]) ∨ (highU u ∧ hereV f n i1 = 92 ∧ (v, j) = escV f n i1 q ∧ lowU v ∧ L = [u, v]))))
/-- no character at i -/
def chN (f : Nat → Int32) (n i : Nat) (q : Int32) : Prop := hereV f n i < 32 ∨ ¬ hereV f n i ≤ 126 ∨
    (hereV f n i = 92 ∧ ∃ u i1, (u, i1) = escV f n i q ∧ (u < 0 ∨ lowU u ∨ (highU u ∧ (¬ hereV f n i1 = 92 ∨ ∃ v j, (v, j) = escV f n i1 q ∧ ¬ lowU v))))
def wrL (g : Nat → Int32) : Nat → List Int32 → (Nat → Int32)
  | _, [] => g
  | k, x :: xs => wrL (upd g k x) (k + 1) xs
theorem hex4_ge (f : Nat → Int32) (n : Nat) : ∀ (k j : Nat) (a : Int32), j ≤ (hex4 f n k j a).2 := by
  intro k
  induction k with
  | zero => intro j a; exact Nat.le_refl _
  | succ k ih =>
    intro j a
    simp only [hex4]
    split
    · exact Nat.le_trans (Nat.le_succ j) (ih (j + 1) _)
    · exact Nat.le_refl _
theorem hex4_le (f : Nat → Int32) (n : Nat) : ∀ (k j : Nat) (a : Int32), (hex4 f n k j a).2 ≤ j + k := by
  intro k
  induction k with
  | zero => intro j a; exact Nat.le_refl _
  | succ k ih =>
    intro j a
    simp only [hex4]
    split
    · have := ih (j + 1) (a * 16 + hexV (byteV f n j)); omega
    · show j ≤ _; omega
theorem escV_ge {f : Nat → Int32} {n i j : Nat} {q r : Int32} (h : (r, j) = escV f n i q) : i + 2 ≤ j ∧ j ≤ i + 6 := by
  have e : j = (escV f n i q).2 := by rw [← h]
  rw [e]
  unfold escV
  split
  · exact ⟨Nat.le_refl _, by show i + 1 + 1 ≤ i + 6; omega⟩
  · split
    · have h1 := hex4_ge f n 4 (i + 1 + 1) 0
      have h2 := hex4_le f n 4 (i + 1 + 1) 0
      exact ⟨h1, by omega⟩
    · exact ⟨Nat.le_refl _, by show i + 1 + 1 ≤ i + 6; omega⟩
theorem here_lt {f : Nat → Int32} {n i : Nat} (h : ¬ hereV f n i < 32) : i < n := Classical.byContradiction (fun hn => h (by unfold hereV; rw [if_neg hn]; decide))
theorem here_92 {f : Nat → Int32} {n i : Nat} (h : hereV f n i = 92) : i < n := here_lt (by rw [h]; decide)
abbrev b_Tape_character : ByteArray := prog_10_method_12_code
def y_Tape_character : MethodName := ⟨"QueryBench$Tape", "character", "(I)V"⟩
abbrev k_Tape_character : Cond := .code y_Tape_character b_Tape_character 6 none
theorem i_Tape_character : k_Tape_character ∈ gtbl := gt_in 412 (by decide +kernel) (by decide +kernel)
theorem d_Tape_character_0 : decode b_Tape_character 0 = .ok (.aload_n 0, 1) := by decide +kernel
theorem d_Tape_character_1 : decode b_Tape_character 1 = .ok (.getfield 29, 3) := by decide +kernel
theorem d_Tape_character_4 : decode b_Tape_character 4 = .ok (.istore_n 2, 1) := by decide +kernel
theorem d_Tape_character_5 : decode b_Tape_character 5 = .ok (.aload_n 0, 1) := by decide +kernel
theorem d_Tape_character_6 : decode b_Tape_character 6 = .ok (.invokevirtual 35, 3) := by decide +kernel
theorem d_Tape_character_9 : decode b_Tape_character 9 = .ok (.istore_n 3, 1) := by decide +kernel
theorem d_Tape_character_10 : decode b_Tape_character 10 = .ok (.iload_n 3, 1) := by decide +kernel
theorem d_Tape_character_11 : decode b_Tape_character 11 = .ok (.bipush 32, 2) := by decide +kernel
theorem d_Tape_character_13 : decode b_Tape_character 13 = .ok (.if_icmp .lt 9, 3) := by decide +kernel
theorem d_Tape_character_16 : decode b_Tape_character 16 = .ok (.iload_n 3, 1) := by decide +kernel
theorem d_Tape_character_17 : decode b_Tape_character 17 = .ok (.bipush 126, 2) := by decide +kernel
theorem d_Tape_character_19 : decode b_Tape_character 19 = .ok (.if_icmp .le 8, 3) := by decide +kernel
theorem d_Tape_character_22 : decode b_Tape_character 22 = .ok (.aload_n 0, 1) := by decide +kernel
theorem d_Tape_character_23 : decode b_Tape_character 23 = .ok (.iload_n 2, 1) := by decide +kernel
theorem d_Tape_character_24 : decode b_Tape_character 24 = .ok (.invokevirtual 39, 3) := by decide +kernel
theorem d_Tape_character_27 : decode b_Tape_character 27 = .ok (.iload_n 3, 1) := by decide +kernel
theorem d_Tape_character_28 : decode b_Tape_character 28 = .ok (.bipush 92, 2) := by decide +kernel
theorem d_Tape_character_30 : decode b_Tape_character 30 = .ok (.if_icmp .eq 19, 3) := by decide +kernel
theorem d_Tape_character_33 : decode b_Tape_character 33 = .ok (.aload_n 0, 1) := by decide +kernel
theorem d_Tape_character_34 : decode b_Tape_character 34 = .ok (.dup, 1) := by decide +kernel
theorem d_Tape_character_35 : decode b_Tape_character 35 = .ok (.getfield 29, 3) := by decide +kernel
theorem d_Tape_character_38 : decode b_Tape_character 38 = .ok (.iconst 1, 1) := by decide +kernel
theorem d_Tape_character_39 : decode b_Tape_character 39 = .ok (.iadd, 1) := by decide +kernel
theorem d_Tape_character_40 : decode b_Tape_character 40 = .ok (.putfield 29, 3) := by decide +kernel
theorem d_Tape_character_43 : decode b_Tape_character 43 = .ok (.aload_n 0, 1) := by decide +kernel
theorem d_Tape_character_44 : decode b_Tape_character 44 = .ok (.iload_n 3, 1) := by decide +kernel
theorem d_Tape_character_45 : decode b_Tape_character 45 = .ok (.invokevirtual 82, 3) := by decide +kernel
theorem d_Tape_character_48 : decode b_Tape_character 48 = .ok (.return_, 1) := by decide +kernel
theorem d_Tape_character_49 : decode b_Tape_character 49 = .ok (.aload_n 0, 1) := by decide +kernel
theorem d_Tape_character_50 : decode b_Tape_character 50 = .ok (.iload_n 1, 1) := by decide +kernel
theorem d_Tape_character_51 : decode b_Tape_character 51 = .ok (.invokevirtual 85, 3) := by decide +kernel
theorem d_Tape_character_54 : decode b_Tape_character 54 = .ok (.istore 4, 2) := by decide +kernel
theorem d_Tape_character_56 : decode b_Tape_character 56 = .ok (.iload 4, 2) := by decide +kernel
theorem d_Tape_character_58 : decode b_Tape_character 58 = .ok (.ifCond .lt 11, 3) := by decide +kernel
theorem d_Tape_character_61 : decode b_Tape_character 61 = .ok (.iload 4, 2) := by decide +kernel
theorem d_Tape_character_63 : decode b_Tape_character 63 = .ok (.invokestatic 89, 3) := by decide +kernel
theorem d_Tape_character_66 : decode b_Tape_character 66 = .ok (.ifCond .eq 8, 3) := by decide +kernel
theorem d_Tape_character_69 : decode b_Tape_character 69 = .ok (.aload_n 0, 1) := by decide +kernel
theorem d_Tape_character_70 : decode b_Tape_character 70 = .ok (.iload_n 2, 1) := by decide +kernel
theorem d_Tape_character_71 : decode b_Tape_character 71 = .ok (.invokevirtual 39, 3) := by decide +kernel
theorem d_Tape_character_74 : decode b_Tape_character 74 = .ok (.aload_n 0, 1) := by decide +kernel
theorem d_Tape_character_75 : decode b_Tape_character 75 = .ok (.iload 4, 2) := by decide +kernel
theorem d_Tape_character_77 : decode b_Tape_character 77 = .ok (.invokevirtual 82, 3) := by decide +kernel
theorem d_Tape_character_80 : decode b_Tape_character 80 = .ok (.iload 4, 2) := by decide +kernel
theorem d_Tape_character_82 : decode b_Tape_character 82 = .ok (.invokestatic 92, 3) := by decide +kernel
theorem d_Tape_character_85 : decode b_Tape_character 85 = .ok (.ifCond .eq 42, 3) := by decide +kernel
theorem d_Tape_character_88 : decode b_Tape_character 88 = .ok (.aload_n 0, 1) := by decide +kernel
theorem d_Tape_character_89 : decode b_Tape_character 89 = .ok (.invokevirtual 35, 3) := by decide +kernel
theorem d_Tape_character_92 : decode b_Tape_character 92 = .ok (.bipush 92, 2) := by decide +kernel
theorem d_Tape_character_94 : decode b_Tape_character 94 = .ok (.if_icmp .ne 11, 3) := by decide +kernel
theorem d_Tape_character_97 : decode b_Tape_character 97 = .ok (.aload_n 0, 1) := by decide +kernel
theorem d_Tape_character_98 : decode b_Tape_character 98 = .ok (.iload_n 1, 1) := by decide +kernel
theorem d_Tape_character_99 : decode b_Tape_character 99 = .ok (.invokevirtual 85, 3) := by decide +kernel
theorem d_Tape_character_102 : decode b_Tape_character 102 = .ok (.goto 4, 3) := by decide +kernel
theorem d_Tape_character_105 : decode b_Tape_character 105 = .ok (.iconst (-1), 1) := by decide +kernel
theorem d_Tape_character_106 : decode b_Tape_character 106 = .ok (.istore 5, 2) := by decide +kernel
theorem d_Tape_character_108 : decode b_Tape_character 108 = .ok (.iload 5, 2) := by decide +kernel
theorem d_Tape_character_110 : decode b_Tape_character 110 = .ok (.invokestatic 89, 3) := by decide +kernel
theorem d_Tape_character_113 : decode b_Tape_character 113 = .ok (.ifCond .ne 8, 3) := by decide +kernel
theorem d_Tape_character_116 : decode b_Tape_character 116 = .ok (.aload_n 0, 1) := by decide +kernel
theorem d_Tape_character_117 : decode b_Tape_character 117 = .ok (.iload_n 2, 1) := by decide +kernel
theorem d_Tape_character_118 : decode b_Tape_character 118 = .ok (.invokevirtual 39, 3) := by decide +kernel
theorem d_Tape_character_121 : decode b_Tape_character 121 = .ok (.aload_n 0, 1) := by decide +kernel
theorem d_Tape_character_122 : decode b_Tape_character 122 = .ok (.iload 5, 2) := by decide +kernel
theorem d_Tape_character_124 : decode b_Tape_character 124 = .ok (.invokevirtual 82, 3) := by decide +kernel
theorem d_Tape_character_127 : decode b_Tape_character 127 = .ok (.return_, 1) := by decide +kernel
set_option maxHeartbeats 4000000 in
set_option maxRecDepth 100000 in
/-- Tape.character -/
theorem c_Tape_character (l : Launch) (hl9 : l.stackTraces = false) (dC : Nat → ClassId) (dI : Nat → Nat → Nat) (cB cI : ClassId) (h0 qb qu : Nat) (sz : Heap) (ln pl : Int32) (f g : Nat → Int32) (n i k : Nat) (q : Int32) (hn0 : n ≤ 4096) (hi0 : i ≤ 800000) (hk0 : k ≤ i) : vx_Met l y_Tape_character (k_Tape_character :: gtbl) ({ frames := 9, cells := 1, slots := 6, locals := 131 }) (va_Pc [.ref h0, .int q] (mx dC dI [(h0, .inr (8, [.ref qb, .ref qu, .int (nI k), .int ln, .int (nI n), .int (nI i), .int pl])), (qb, .inl (cB, 4096, .inl f)), (qu, .inl (cI, 4096, .inl g))] [(cB, .byte), (cI, .int)] sz)) (va_Qv (fun (u : Nat × Nat × (Nat → Int32)) => ∃ L, chR f n i q u.1 L ∧ u.2.1 = k + L.length ∧ u.2.2 = wrL g k L) (fun u t => mz dC dI [(h0, .inr (8, [.ref qb, .ref qu, .int (nI u.2.1), .int ln, .int (nI n), .int (nI u.1), .int pl])), (qb, .inl (cB, 4096, .inl f)), (qu, .inl (cI, 4096, .inl u.2.2))] [(cB, .byte), (cI, .int)] (va_A [(h0, .inr (8, [.ref qb, .ref qu, .int (nI k), .int ln, .int (nI n), .int (nI i), .int pl])), (qb, .inl (cB, 4096, .inl f)), (qu, .inl (cI, 4096, .inl g))] sz.size) t ∧ szk sz t.heap 0 0) (va_A [(h0, .inr (8, [.ref qb, .ref qu, .int (nI k), .int ln, .int (nI n), .int (nI i), .int pl])), (qb, .inl (cB, 4096, .inl f)), (qu, .inl (cI, 4096, .inl g))] sz.size)) (vx_X (fun (u : Int32 × Int32 × (Nat → Int32)) => chN f n i q) (fun E u t => E = "java/lang/UnsupportedOperationException" ∧ mz dC dI [(h0, .inr (8, [.ref qb, .ref qu, .int u.2.1, .int ln, .int (nI n), .int u.1, .int (nI i)])), (qb, .inl (cB, 4096, .inl f)), (qu, .inl (cI, 4096, .inl u.2.2))] [(cB, .byte), (cI, .int)] (va_A [(h0, .inr (8, [.ref qb, .ref qu, .int (nI k), .int ln, .int (nI n), .int (nI i), .int pl])), (qb, .inl (cB, 4096, .inl f)), (qu, .inl (cI, 4096, .inl g))] sz.size) t) (va_A [(h0, .inr (8, [.ref qb, .ref qu, .int (nI k), .int ln, .int (nI n), .int (nI i), .int pl])), (qb, .inl (cB, 4096, .inl f)), (qu, .inl (cI, 4096, .inl g))] sz.size)) 1 6 (va_A [(h0, .inr (8, [.ref qb, .ref qu, .int (nI k), .int ln, .int (nI n), .int (nI i), .int pl])), (qb, .inl (cB, 4096, .inl f)), (qu, .inl (cI, 4096, .inl g))] sz.size) := by
  refine vx_ofW (cc := b_Tape_character) (maxL := 6) (ret := none) (by decide) rfl ?_
  intro p e s m args below meth c s₁ B hml hex hv
  obtain ⟨rfl, ⟨hsz, hP, hK, hD0⟩, hN, hZ⟩ := hv
  have hx := B.exec
  have hb := B.bytes
  have hr := B.returns
  have hts0 := atoms_spec (ws := k_Tape_character :: gtbl) B.pre
  have hts := fun w h => hts0 w (List.mem_cons_of_mem _ h)
  have hown : s.vm.findClass R_Tape = some m.cls := findClass_of_methodNamed B.named
  have hlocks := B.notSynchronized
  subst hsz
  have hD := hD0.self (sz := s.heap.size)
  generalize hAe : va_A [(h0, .inr (8, [.ref qb, .ref qu, .int (nI k), .int ln, .int (nI n), .int (nI i), .int pl])), (qb, .inl (cB, 4096, .inl f)), (qu, .inl (cI, 4096, .inl g))] s.heap.size = A at hD hZ ⊢
  have hA : ∀ q : Nat, s.heap.size ≤ q → A q := fun q h => by rw [← hAe]; exact Or.inr h
  have hS : va_S A s.heap s.heap [] := va_S.rf
  have hP : va_P (dC, dI) classes [(h0, .inr (8, [.ref qb, .ref qu, .int (nI k), .int ln, .int (nI n), .int (nI i), .int pl])), (qb, .inl (cB, 4096, .inl f)), (qu, .inl (cI, 4096, .inl g))] s.heap := hP
  have hl := lv_entry ([.ref h0, .int q]) (n := 6) (Nat.le_of_ble_eq_true rfl)
  rw [lg_entry_eq]
  generalize (lg_sl ([.ref h0, .int q]) ++ List.replicate (6 - (lg_sl ([.ref h0, .int q])).length) Slot.unset).toArray = ls at hl ⊢
  have hl : lv_has ls 6 [(0, .ref h0), (1, .int q)] := hl
  refine lv_aload_n hx hb d_Tape_character_0 rfl (lv_at hl 0 rfl) ?_
  refine va_get (D := (dC, dI)) (ci := 8) (v := .int (nI i)) (C := R_Tape) (T := F_Tape) (N := 7) hx hb hts in_Tape hown hK hP 0 rfl rfl 5 (by decide) (hts _ w_54) (fun _ h9 => h9) rfl d_Tape_character_1 ?_
  refine lv_istore_n (lv' := [(2, .int (nI i)), (0, .ref h0), (1, .int q)]) hx hb d_Tape_character_4 rfl hl (by decide) rfl (fun ls hl => ?_)
  refine lv_aload_n hx hb d_Tape_character_5 rfl (lv_at hl 1 rfl) ?_
  have hPc := hP.sub (ws' := [(h0, .inr (8, [.ref qb, .ref qu, .int (nI k), .int ln, .int (nI n), .int (nI i), .int pl])), (qb, .inl (cB, 4096, .inl f))]) [0, 1] rfl
  have hDc := hD.sub (ws' := [(h0, .inr (8, [.ref qb, .ref qu, .int (nI k), .int ln, .int (nI n), .int (nI i), .int pl])), (qb, .inl (cB, 4096, .inl f))]) [0, 1] (by decide) rfl
  have hKc := hK.sub (tys' := [(cB, .byte)]) [0] rfl
  have hFc := va_free (wc := [(h0, .inr (8, [.ref qb, .ref qu, .int (nI k), .int ln, .int (nI n), .int (nI i), .int pl])), (qb, .inl (cB, 4096, .inl f))]) hD hS hA [0, 1] rfl
  refine va_calli (va_runV (As := []) (rest := []) ⟨hx, hb, hml, hown, hts⟩ (c_Tape_here l dC dI cB h0 qb s.heap (.ref qu) (nI k) ln pl f n i (by omega) (by omega)) (cwV 0 hts (gt_V (own := R_Tape) (C := R_Tape) (i := 35) (y := y_Tape_here) i_Tape_here w_396 w_363 w_364 w_2) rfl rfl rfl (by decide +kernel) ⟨Nat.le_of_ble_eq_true rfl, Nat.le_of_ble_eq_true rfl⟩) ⟨mp_blind, va_recv hKc hPc (ci := 8) (q0 := 0) rfl rfl, fun U hU hW => ⟨rfl, hU, by rw [hU]; exact hPc, va_K.moved hW.alike hKc, hDc.weaken (fun _ _ _ _ => trivial)⟩⟩ rfl rfl hl.1 rfl (lv_room (Nat.le_of_ble_eq_true rfl)) d_Tape_character_6 ⟨Nat.le_of_ble_eq_true rfl, Nat.le_of_ble_eq_true rfl⟩) hS (fun q _ h => hFc q h) hFc (fun r1 _u t H1 locs ht hvm hw hB hz1 hk1 hS => ?_)
  obtain ⟨hP1, hK1, hD1⟩ := hB
  rw [ht] at hP1
  obtain ⟨hP, hD⟩ := va_join (wr := [(qu, .inl (cI, 4096, .inl g))]) (w1 := [(h0, .inr (8, [.ref qb, .ref qu, .int (nI k), .int ln, .int (nI n), .int (nI i), .int pl])), (qb, .inl (cB, 4096, .inl f))]) hP hD [0, 1] [2] rfl rfl (by decide) (by decide) hk1 hFc hP1 hD1
  generalize H1 = H at hP hS ⊢
  have hP : va_P (dC, dI) classes [(qu, .inl (cI, 4096, .inl g)), (h0, .inr (8, [.ref qb, .ref qu, .int (nI k), .int ln, .int (nI n), .int (nI i), .int pl])), (qb, .inl (cB, 4096, .inl f))] H := hP
  have hD : va_D A [(qu, .inl (cI, 4096, .inl g)), (h0, .inr (8, [.ref qb, .ref qu, .int (nI k), .int ln, .int (nI n), .int (nI i), .int pl])), (qb, .inl (cB, 4096, .inl f))] := hD
  have hP := hP.sub (ws' := [(h0, .inr (8, [.ref qb, .ref qu, .int (nI k), .int ln, .int (nI n), .int (nI i), .int pl])), (qb, .inl (cB, 4096, .inl f)), (qu, .inl (cI, 4096, .inl g))]) [1, 2, 0] rfl
  have hD := hD.sub (ws' := [(h0, .inr (8, [.ref qb, .ref qu, .int (nI k), .int ln, .int (nI n), .int (nI i), .int pl])), (qb, .inl (cB, 4096, .inl f)), (qu, .inl (cI, 4096, .inl g))]) [1, 2, 0] (by decide) rfl
  have h_r1 : r1 = hereV f n i := hw
  refine lv_istore_n (lv' := [(3, .int r1), (2, .int (nI i)), (0, .ref h0), (1, .int q)]) hx hb d_Tape_character_9 rfl hl (by decide) rfl (fun ls hl => ?_)
  refine lv_iload_n hx hb d_Tape_character_10 rfl (lv_at hl 0 rfl) ?_
  refine lv_bipush (v := 32) hx hb d_Tape_character_11 (by decide) ?_
  refine lv_icmp_lt (tgt := 22) hx hb d_Tape_character_13 (by decide) (fun c13 => ?_) (fun c13 => ?_)
  · refine lv_aload_n hx hb d_Tape_character_22 rfl (lv_at hl 2 rfl) ?_
    refine lv_iload_n hx hb d_Tape_character_23 rfl (lv_at hl 1 rfl) ?_
    have hPc := hP.sub (ws' := [(h0, .inr (8, [.ref qb, .ref qu, .int (nI k), .int ln, .int (nI n), .int (nI i), .int pl])), (qb, .inl (cB, 4096, .inl f))]) [0, 1] rfl
    have hDc := hD.sub (ws' := [(h0, .inr (8, [.ref qb, .ref qu, .int (nI k), .int ln, .int (nI n), .int (nI i), .int pl])), (qb, .inl (cB, 4096, .inl f))]) [0, 1] (by decide) rfl
    have hKc := hK.sub (tys' := [(cB, .byte)]) [0] rfl
    have hFc := va_free (wc := [(h0, .inr (8, [.ref qb, .ref qu, .int (nI k), .int ln, .int (nI n), .int (nI i), .int pl])), (qb, .inl (cB, 4096, .inl f))]) hD hS hA [0, 1] rfl
    refine w_same (fun hq0 => ?_)
    refine vx_callv (vx_runV (As := [.int (nI i)]) (rest := []) ⟨hx, hb, hml, hown, hts⟩ (c_Tape_fail l hl9 dC dI cB h0 qb H (.ref qu) ((nI k)) ln (nI n) ((nI i)) pl f (nI i)) (cwV 1 hts (gt_V (own := R_Tape) (C := R_Tape) (i := 39) (y := y_Tape_fail) i_Tape_fail w_413 w_371 w_372 w_2) rfl rfl rfl (by decide +kernel) ⟨Nat.le_of_ble_eq_true rfl, Nat.le_of_ble_eq_true rfl⟩) ⟨mx_blind, va_recv hKc hPc (ci := 8) (q0 := 0) rfl rfl, fun U hU hW => ⟨rfl, ⟨hU, by rw [hU]; exact hPc, va_K.moved hW.alike hKc, hDc.weaken (fun _ _ _ _ => trivial)⟩, hN.warm hW, by rw [hU]; exact ZX.moved' hW.alike (ZX.narrow' (ZX.kept' hZ hS.2.1) hFc)⟩⟩ rfl rfl hl.1 rfl (lv_room (Nat.le_of_ble_eq_true rfl)) d_Tape_character_24 ⟨Nat.le_of_ble_eq_true rfl, Nat.le_of_ble_eq_true rfl⟩) hS (fun q _ h => hFc q h) hFc (fun q _ h => hFc q h) (fun E ce q9 _u t H1 locs ht hvm hw hB hz1 hk1 hS hce hcv hcl => ?_) (fun _u t H1 locs ht hvm hw hB hz1 hk1 hS => ?_)
    · obtain ⟨hE, hP1, hK1, hD1⟩ := hB
      rw [ht] at hP1
      obtain ⟨hP, hD⟩ := va_join (wr := [(qu, .inl (cI, 4096, .inl g))]) (w1 := [(h0, .inr (8, [.ref qb, .ref qu, .int (nI k), .int ln, .int (nI n), .int (nI i), .int (nI i)])), (qb, .inl (cB, 4096, .inl f))]) hP hD [0, 1] [2] rfl rfl (by decide) (by decide) hk1 hFc hP1 hD1
      generalize H1 = H at hP hS hce ⊢
      have hP : va_P (dC, dI) classes [(qu, .inl (cI, 4096, .inl g)), (h0, .inr (8, [.ref qb, .ref qu, .int (nI k), .int ln, .int (nI n), .int (nI i), .int (nI i)])), (qb, .inl (cB, 4096, .inl f))] H := hP
      have hD : va_D A [(qu, .inl (cI, 4096, .inl g)), (h0, .inr (8, [.ref qb, .ref qu, .int (nI k), .int ln, .int (nI n), .int (nI i), .int (nI i)])), (qb, .inl (cB, 4096, .inl f))] := hD
      have hP := hP.sub (ws' := [(h0, .inr (8, [.ref qb, .ref qu, .int (nI k), .int ln, .int (nI n), .int (nI i), .int (nI i)])), (qb, .inl (cB, 4096, .inl f)), (qu, .inl (cI, 4096, .inl g))]) [1, 2, 0] rfl
      have hD := hD.sub (ws' := [(h0, .inr (8, [.ref qb, .ref qu, .int (nI k), .int ln, .int (nI n), .int (nI i), .int (nI i)])), (qb, .inl (cB, 4096, .inl f)), (qu, .inl (cI, 4096, .inl g))]) [1, 2, 0] (by decide) rfl
      exact vx_out (fun x hx => (hex x hx).elim) hlocks hce hcv hcl (fun t ht2 ha => ⟨((nI i), (nI k), g), Or.inl (h_r1 ▸ c13), ⟨hE, by rw [ht2]; exact hP, va_K.moved ha hK, hD⟩, hS.F ht2⟩) hS.2.2 (Nat.le_of_ble_eq_true rfl) (Nat.le_of_ble_eq_true rfl)
    · exact hw.elim
  · refine lv_iload_n hx hb d_Tape_character_16 rfl (lv_at hl 0 rfl) ?_
    refine lv_bipush (v := 126) hx hb d_Tape_character_17 (by decide) ?_
    refine lv_icmp_le (tgt := 27) hx hb d_Tape_character_19 (by decide) (fun c19 => ?_) (fun c19 => ?_)
    · have hin := here_lt (f := f) (n := n) (i := i) (fun h => c13 (h_r1 ▸ h))
      refine lv_iload_n hx hb d_Tape_character_27 rfl (lv_at hl 0 rfl) ?_
      refine lv_bipush (v := 92) hx hb d_Tape_character_28 (by decide) ?_
      refine lv_icmp_eq (tgt := 49) hx hb d_Tape_character_30 (by decide) (fun c30 => ?_) (fun c30 => ?_)
      · refine lv_aload_n hx hb d_Tape_character_49 rfl (lv_at hl 2 rfl) ?_
        refine lv_iload_n hx hb d_Tape_character_50 rfl (lv_at hl 3 rfl) ?_
        have hPc := hP.sub (ws' := [(h0, .inr (8, [.ref qb, .ref qu, .int (nI k), .int ln, .int (nI n), .int (nI i), .int pl])), (qb, .inl (cB, 4096, .inl f))]) [0, 1] rfl
        have hDc := hD.sub (ws' := [(h0, .inr (8, [.ref qb, .ref qu, .int (nI k), .int ln, .int (nI n), .int (nI i), .int pl])), (qb, .inl (cB, 4096, .inl f))]) [0, 1] (by decide) rfl
        have hKc := hK.sub (tys' := [(cB, .byte)]) [0] rfl
        have hFc := va_free (wc := [(h0, .inr (8, [.ref qb, .ref qu, .int (nI k), .int ln, .int (nI n), .int (nI i), .int pl])), (qb, .inl (cB, 4096, .inl f))]) hD hS hA [0, 1] rfl
        refine va_calli (va_runV (As := [.int q]) (rest := []) ⟨hx, hb, hml, hown, hts⟩ (c_Tape_escape l dC dI cB h0 qb H (.ref qu) (nI k) ln pl f n i q (by omega) (by omega)) (cwV 1 hts (gt_V (own := R_Tape) (C := R_Tape) (i := 85) (y := y_Tape_escape) i_Tape_escape w_418 w_420 (gt_sel (y := y_Tape_escape) (n := 7) (by decide +kernel)) w_2) rfl rfl rfl (by decide +kernel) ⟨Nat.le_of_ble_eq_true rfl, Nat.le_of_ble_eq_true rfl⟩) ⟨mp_blind, va_recv hKc hPc (ci := 8) (q0 := 0) rfl rfl, fun U hU hW => ⟨rfl, hU, by rw [hU]; exact hPc, va_K.moved hW.alike hKc, hDc.weaken (fun _ _ _ _ => trivial)⟩⟩ rfl rfl hl.1 rfl (lv_room (Nat.le_of_ble_eq_true rfl)) d_Tape_character_51 ⟨Nat.le_of_ble_eq_true rfl, Nat.le_of_ble_eq_true rfl⟩) hS (fun q _ h => hFc q h) hFc (fun r2 i1 t H1 locs ht hvm hw hB hz1 hk1 hS => ?_)
        obtain ⟨hP1, hK1, hD1⟩ := hB
        rw [ht] at hP1
        obtain ⟨hP, hD⟩ := va_join (wr := [(qu, .inl (cI, 4096, .inl g))]) (w1 := [(h0, .inr (8, [.ref qb, .ref qu, .int (nI k), .int ln, .int (nI n), .int (nI i1), .int pl])), (qb, .inl (cB, 4096, .inl f))]) hP hD [0, 1] [2] rfl rfl (by decide) (by decide) hk1 hFc hP1 hD1
        generalize H1 = H at hP hS ⊢
        have hP : va_P (dC, dI) classes [(qu, .inl (cI, 4096, .inl g)), (h0, .inr (8, [.ref qb, .ref qu, .int (nI k), .int ln, .int (nI n), .int (nI i1), .int pl])), (qb, .inl (cB, 4096, .inl f))] H := hP
        have hD : va_D A [(qu, .inl (cI, 4096, .inl g)), (h0, .inr (8, [.ref qb, .ref qu, .int (nI k), .int ln, .int (nI n), .int (nI i1), .int pl])), (qb, .inl (cB, 4096, .inl f))] := hD
        have hP := hP.sub (ws' := [(h0, .inr (8, [.ref qb, .ref qu, .int (nI k), .int ln, .int (nI n), .int (nI i1), .int pl])), (qb, .inl (cB, 4096, .inl f)), (qu, .inl (cI, 4096, .inl g))]) [1, 2, 0] rfl
        have hD := hD.sub (ws' := [(h0, .inr (8, [.ref qb, .ref qu, .int (nI k), .int ln, .int (nI n), .int (nI i1), .int pl])), (qb, .inl (cB, 4096, .inl f)), (qu, .inl (cI, 4096, .inl g))]) [1, 2, 0] (by decide) rfl
        have h_r2 : (r2, i1) = escV f n i q := hw
        have hb_r2 := escV_ge h_r2
        refine lv_istore (lv' := [(4, .int r2), (3, .int r1), (2, .int (nI i)), (0, .ref h0), (1, .int q)]) hx hb d_Tape_character_54 hl (by decide) rfl (fun ls hl => ?_)
        refine lv_iload hx hb d_Tape_character_56 (lv_at hl 0 rfl) ?_
        refine lv_if_lt (tgt := 69) hx hb d_Tape_character_58 (by decide) (fun c58 => ?_) (fun c58 => ?_)
        · refine lv_aload_n hx hb d_Tape_character_69 rfl (lv_at hl 3 rfl) ?_
          refine lv_iload_n hx hb d_Tape_character_70 rfl (lv_at hl 2 rfl) ?_
          have hPc := hP.sub (ws' := [(h0, .inr (8, [.ref qb, .ref qu, .int (nI k), .int ln, .int (nI n), .int (nI i1), .int pl])), (qb, .inl (cB, 4096, .inl f))]) [0, 1] rfl
          have hDc := hD.sub (ws' := [(h0, .inr (8, [.ref qb, .ref qu, .int (nI k), .int ln, .int (nI n), .int (nI i1), .int pl])), (qb, .inl (cB, 4096, .inl f))]) [0, 1] (by decide) rfl
          have hKc := hK.sub (tys' := [(cB, .byte)]) [0] rfl
          have hFc := va_free (wc := [(h0, .inr (8, [.ref qb, .ref qu, .int (nI k), .int ln, .int (nI n), .int (nI i1), .int pl])), (qb, .inl (cB, 4096, .inl f))]) hD hS hA [0, 1] rfl
          refine w_same (fun hq0 => ?_)
          refine vx_callv (vx_runV (As := [.int (nI i)]) (rest := []) ⟨hx, hb, hml, hown, hts⟩ (c_Tape_fail l hl9 dC dI cB h0 qb H (.ref qu) ((nI k)) ln (nI n) ((nI i1)) pl f (nI i)) (cwV 1 hts (gt_V (own := R_Tape) (C := R_Tape) (i := 39) (y := y_Tape_fail) i_Tape_fail w_413 w_371 w_372 w_2) rfl rfl rfl (by decide +kernel) ⟨Nat.le_of_ble_eq_true rfl, Nat.le_of_ble_eq_true rfl⟩) ⟨mx_blind, va_recv hKc hPc (ci := 8) (q0 := 0) rfl rfl, fun U hU hW => ⟨rfl, ⟨hU, by rw [hU]; exact hPc, va_K.moved hW.alike hKc, hDc.weaken (fun _ _ _ _ => trivial)⟩, hN.warm hW, by rw [hU]; exact ZX.moved' hW.alike (ZX.narrow' (ZX.kept' hZ hS.2.1) hFc)⟩⟩ rfl rfl hl.1 rfl (lv_room (Nat.le_of_ble_eq_true rfl)) d_Tape_character_71 ⟨Nat.le_of_ble_eq_true rfl, Nat.le_of_ble_eq_true rfl⟩) hS (fun q _ h => hFc q h) hFc (fun q _ h => hFc q h) (fun E ce q9 _u t H1 locs ht hvm hw hB hz1 hk1 hS hce hcv hcl => ?_) (fun _u t H1 locs ht hvm hw hB hz1 hk1 hS => ?_)
          · obtain ⟨hE, hP1, hK1, hD1⟩ := hB
            rw [ht] at hP1
            obtain ⟨hP, hD⟩ := va_join (wr := [(qu, .inl (cI, 4096, .inl g))]) (w1 := [(h0, .inr (8, [.ref qb, .ref qu, .int (nI k), .int ln, .int (nI n), .int (nI i1), .int (nI i)])), (qb, .inl (cB, 4096, .inl f))]) hP hD [0, 1] [2] rfl rfl (by decide) (by decide) hk1 hFc hP1 hD1
            generalize H1 = H at hP hS hce ⊢
            have hP : va_P (dC, dI) classes [(qu, .inl (cI, 4096, .inl g)), (h0, .inr (8, [.ref qb, .ref qu, .int (nI k), .int ln, .int (nI n), .int (nI i1), .int (nI i)])), (qb, .inl (cB, 4096, .inl f))] H := hP
            have hD : va_D A [(qu, .inl (cI, 4096, .inl g)), (h0, .inr (8, [.ref qb, .ref qu, .int (nI k), .int ln, .int (nI n), .int (nI i1), .int (nI i)])), (qb, .inl (cB, 4096, .inl f))] := hD
            have hP := hP.sub (ws' := [(h0, .inr (8, [.ref qb, .ref qu, .int (nI k), .int ln, .int (nI n), .int (nI i1), .int (nI i)])), (qb, .inl (cB, 4096, .inl f)), (qu, .inl (cI, 4096, .inl g))]) [1, 2, 0] rfl
            have hD := hD.sub (ws' := [(h0, .inr (8, [.ref qb, .ref qu, .int (nI k), .int ln, .int (nI n), .int (nI i1), .int (nI i)])), (qb, .inl (cB, 4096, .inl f)), (qu, .inl (cI, 4096, .inl g))]) [1, 2, 0] (by decide) rfl
            exact vx_out (fun x hx => (hex x hx).elim) hlocks hce hcv hcl (fun t ht2 ha => ⟨((nI i1), (nI k), g), Or.inr (Or.inr ⟨h_r1 ▸ c30, r2, i1, h_r2, Or.inl c58⟩), ⟨hE, by rw [ht2]; exact hP, va_K.moved ha hK, hD⟩, hS.F ht2⟩) hS.2.2 (Nat.le_of_ble_eq_true rfl) (Nat.le_of_ble_eq_true rfl)
          · exact hw.elim
        · refine lv_iload hx hb d_Tape_character_61 (lv_at hl 0 rfl) ?_
          have hPc := hP.sub (ws' := []) [] rfl
          have hDc := hD.sub (ws' := []) [] (by decide) rfl
          have hKc := hK.sub (tys' := []) [] rfl
          have hFc := va_free (wc := []) hD hS hA [] rfl
          refine va_calli (va_runSN (As := [.int r2]) (rest := []) ⟨hx, hb, hml, hown, hts⟩ (c_QB_isLowUnit l dC dI H r2) (⟨va_cnB (host := "QueryBench") 1 hts (gt_code i_QB_isLowUnit) rfl rfl rfl (hN _ nl_426) (hts _ w_1) (by decide +kernel) ⟨Nat.le_of_ble_eq_true rfl, Nat.le_of_ble_eq_true rfl⟩, hts _ w_427, trivial⟩) ⟨mp_blind, fun U hU hW => ⟨rfl, hU, by rw [hU]; exact hPc, va_K.moved hW.alike hKc, hDc.weaken (fun _ _ _ _ => trivial)⟩⟩ rfl rfl hl.1 rfl (lv_room (Nat.le_of_ble_eq_true rfl)) d_Tape_character_63 ⟨Nat.le_of_ble_eq_true rfl, Nat.le_of_ble_eq_true rfl⟩) hS (fun q _ h => hFc q h) hFc (fun r3 _u t H1 locs ht hvm hw hB hz1 hk1 hS => ?_)
          obtain ⟨hP1, hK1, hD1⟩ := hB
          rw [ht] at hP1
          obtain ⟨hP, hD⟩ := va_join (wr := [(h0, .inr (8, [.ref qb, .ref qu, .int (nI k), .int ln, .int (nI n), .int (nI i1), .int pl])), (qb, .inl (cB, 4096, .inl f)), (qu, .inl (cI, 4096, .inl g))]) (w1 := []) hP hD [] [0, 1, 2] rfl rfl (by decide) (by decide) hk1 hFc hP1 hD1
          generalize H1 = H at hP hS ⊢
          have hP : va_P (dC, dI) classes [(h0, .inr (8, [.ref qb, .ref qu, .int (nI k), .int ln, .int (nI n), .int (nI i1), .int pl])), (qb, .inl (cB, 4096, .inl f)), (qu, .inl (cI, 4096, .inl g))] H := hP
          have hD : va_D A [(h0, .inr (8, [.ref qb, .ref qu, .int (nI k), .int ln, .int (nI n), .int (nI i1), .int pl])), (qb, .inl (cB, 4096, .inl f)), (qu, .inl (cI, 4096, .inl g))] := hD
          have h_r3 : r3 = if 56320 ≤ r2 ∧ r2 ≤ 57343 then 1 else 0 := hw
          refine lv_if_eq (tgt := 74) hx hb d_Tape_character_66 (by decide) (fun c66 => ?_) (fun c66 => ?_)
          · refine lv_aload_n hx hb d_Tape_character_74 rfl (lv_at hl 3 rfl) ?_
            refine lv_iload hx hb d_Tape_character_75 (lv_at hl 0 rfl) ?_
            have hPc := hP.sub (ws' := [(h0, .inr (8, [.ref qb, .ref qu, .int (nI k), .int ln, .int (nI n), .int (nI i1), .int pl])), (qu, .inl (cI, 4096, .inl g))]) [0, 2] rfl
            have hDc := hD.sub (ws' := [(h0, .inr (8, [.ref qb, .ref qu, .int (nI k), .int ln, .int (nI n), .int (nI i1), .int pl])), (qu, .inl (cI, 4096, .inl g))]) [0, 2] (by decide) rfl
            have hKc := hK.sub (tys' := [(cI, .int)]) [1] rfl
            have hFc := va_free (wc := [(h0, .inr (8, [.ref qb, .ref qu, .int (nI k), .int ln, .int (nI n), .int (nI i1), .int pl])), (qu, .inl (cI, 4096, .inl g))]) hD hS hA [0, 2] rfl
            refine va_callv (va_runV (As := [.int r2]) (rest := []) ⟨hx, hb, hml, hown, hts⟩ (c_Tape_keep l dC dI cI h0 qu H (.ref qb) ln (nI n) ((nI i1)) pl g k r2 (by omega)) (cwV 1 hts (gt_V (own := R_Tape) (C := R_Tape) (i := 82) (y := y_Tape_keep) i_Tape_keep w_414 w_416 (gt_sel (y := y_Tape_keep) (n := 7) (by decide +kernel)) w_2) rfl rfl rfl (by decide +kernel) ⟨Nat.le_of_ble_eq_true rfl, Nat.le_of_ble_eq_true rfl⟩) ⟨mp_blind, va_recv hKc hPc (ci := 8) (q0 := 0) rfl rfl, fun U hU hW => ⟨rfl, hU, by rw [hU]; exact hPc, va_K.moved hW.alike hKc, hDc.weaken (fun _ _ _ _ => trivial)⟩⟩ rfl rfl hl.1 rfl (lv_room (Nat.le_of_ble_eq_true rfl)) d_Tape_character_77 ⟨Nat.le_of_ble_eq_true rfl, Nat.le_of_ble_eq_true rfl⟩) hS (fun q _ h => hFc q h) hFc (fun u2 t H1 locs ht hvm hw hB hz1 hk1 hS => ?_)
            obtain ⟨hP1, hK1, hD1⟩ := hB
            rw [ht] at hP1
            obtain ⟨hP, hD⟩ := va_join (wr := [(qb, .inl (cB, 4096, .inl f))]) (w1 := [(h0, .inr (8, [.ref qb, .ref qu, .int (nI u2.1), .int ln, .int (nI n), .int (nI i1), .int pl])), (qu, .inl (cI, 4096, .inl u2.2))]) hP hD [0, 2] [1] rfl rfl (by decide) (by decide) hk1 hFc hP1 hD1
            generalize H1 = H at hP hS ⊢
            have hP : va_P (dC, dI) classes [(qb, .inl (cB, 4096, .inl f)), (h0, .inr (8, [.ref qb, .ref qu, .int (nI u2.1), .int ln, .int (nI n), .int (nI i1), .int pl])), (qu, .inl (cI, 4096, .inl u2.2))] H := hP
            have hD : va_D A [(qb, .inl (cB, 4096, .inl f)), (h0, .inr (8, [.ref qb, .ref qu, .int (nI u2.1), .int ln, .int (nI n), .int (nI i1), .int pl])), (qu, .inl (cI, 4096, .inl u2.2))] := hD
            have hP := hP.sub (ws' := [(h0, .inr (8, [.ref qb, .ref qu, .int (nI u2.1), .int ln, .int (nI n), .int (nI i1), .int pl])), (qb, .inl (cB, 4096, .inl f)), (qu, .inl (cI, 4096, .inl u2.2))]) [1, 0, 2] rfl
            have hD := hD.sub (ws' := [(h0, .inr (8, [.ref qb, .ref qu, .int (nI u2.1), .int ln, .int (nI n), .int (nI i1), .int pl])), (qb, .inl (cB, 4096, .inl f)), (qu, .inl (cI, 4096, .inl u2.2))]) [1, 0, 2] (by decide) rfl
            obtain rfl : u2 = (k + 1, upd g k r2) := by rcases hw with ⟨-, h⟩ | ⟨h, -⟩; exact h; exact absurd h (by omega)
            have hP : va_P (dC, dI) classes [(h0, .inr (8, [.ref qb, .ref qu, .int (nI (k + 1)), .int ln, .int (nI n), .int (nI i1), .int pl])), (qb, .inl (cB, 4096, .inl f)), (qu, .inl (cI, 4096, .inl (upd g k r2)))] H := hP
            have hD : va_D A [(h0, .inr (8, [.ref qb, .ref qu, .int (nI (k + 1)), .int ln, .int (nI n), .int (nI i1), .int pl])), (qb, .inl (cB, 4096, .inl f)), (qu, .inl (cI, 4096, .inl (upd g k r2)))] := hD
            refine lv_iload hx hb d_Tape_character_80 (lv_at hl 0 rfl) ?_
            have hPc := hP.sub (ws' := []) [] rfl
            have hDc := hD.sub (ws' := []) [] (by decide) rfl
            have hKc := hK.sub (tys' := []) [] rfl
            have hFc := va_free (wc := []) hD hS hA [] rfl
            refine va_calli (va_runSN (As := [.int r2]) (rest := []) ⟨hx, hb, hml, hown, hts⟩ (c_QB_isHighUnit l dC dI H r2) (⟨va_cnB (host := "QueryBench") 1 hts (gt_code i_QB_isHighUnit) rfl rfl rfl (hN _ nl_431) (hts _ w_1) (by decide +kernel) ⟨Nat.le_of_ble_eq_true rfl, Nat.le_of_ble_eq_true rfl⟩, hts _ w_432, trivial⟩) ⟨mp_blind, fun U hU hW => ⟨rfl, hU, by rw [hU]; exact hPc, va_K.moved hW.alike hKc, hDc.weaken (fun _ _ _ _ => trivial)⟩⟩ rfl rfl hl.1 rfl (lv_room (Nat.le_of_ble_eq_true rfl)) d_Tape_character_82 ⟨Nat.le_of_ble_eq_true rfl, Nat.le_of_ble_eq_true rfl⟩) hS (fun q _ h => hFc q h) hFc (fun r4 _u t H1 locs ht hvm hw hB hz1 hk1 hS => ?_)
            obtain ⟨hP1, hK1, hD1⟩ := hB
            rw [ht] at hP1
            obtain ⟨hP, hD⟩ := va_join (wr := [(h0, .inr (8, [.ref qb, .ref qu, .int (nI (k + 1)), .int ln, .int (nI n), .int (nI i1), .int pl])), (qb, .inl (cB, 4096, .inl f)), (qu, .inl (cI, 4096, .inl (upd g k r2)))]) (w1 := []) hP hD [] [0, 1, 2] rfl rfl (by decide) (by decide) hk1 hFc hP1 hD1
            generalize H1 = H at hP hS ⊢
            have hP : va_P (dC, dI) classes [(h0, .inr (8, [.ref qb, .ref qu, .int (nI (k + 1)), .int ln, .int (nI n), .int (nI i1), .int pl])), (qb, .inl (cB, 4096, .inl f)), (qu, .inl (cI, 4096, .inl (upd g k r2)))] H := hP
            have hD : va_D A [(h0, .inr (8, [.ref qb, .ref qu, .int (nI (k + 1)), .int ln, .int (nI n), .int (nI i1), .int pl])), (qb, .inl (cB, 4096, .inl f)), (qu, .inl (cI, 4096, .inl (upd g k r2)))] := hD
            have h_r4 : r4 = if 55296 ≤ r2 ∧ r2 ≤ 56319 then 1 else 0 := hw
            refine lv_if_eq (tgt := 127) hx hb d_Tape_character_85 (by decide) (fun c85 => ?_) (fun c85 => ?_)
            · refine w_same (fun hq => ?_)
              refine W.widen (k := 1) (n := 6) (Nat.le_of_ble_eq_true rfl) (Nat.le_of_ble_eq_true rfl) ?_
              refine vx_ret ?_
              exact W.vret hx hb hr (fun t ht hW => ⟨⟨(i1, k + 1, upd g k r2), rfl, ⟨[r2], ⟨h_r1 ▸ c13, h_r1 ▸ c19, Or.inr ⟨h_r1 ▸ c30, r2, 0, i1, h_r2, c58, lowU_0 h_r3 c66, Or.inl ⟨highU_0 h_r4 c85, rfl, rfl⟩⟩⟩, rfl, rfl⟩, ⟨by rw [ht]; exact hP, va_K.moved hW.alike hK, hD⟩, by rw [ht]; exact hq⟩, hS.F ht⟩) hS.2.2 d_Tape_character_127
            · refine lv_aload_n hx hb d_Tape_character_88 rfl (lv_at hl 3 rfl) ?_
              have hPc := hP.sub (ws' := [(h0, .inr (8, [.ref qb, .ref qu, .int (nI (k + 1)), .int ln, .int (nI n), .int (nI i1), .int pl])), (qb, .inl (cB, 4096, .inl f))]) [0, 1] rfl
              have hDc := hD.sub (ws' := [(h0, .inr (8, [.ref qb, .ref qu, .int (nI (k + 1)), .int ln, .int (nI n), .int (nI i1), .int pl])), (qb, .inl (cB, 4096, .inl f))]) [0, 1] (by decide) rfl
              have hKc := hK.sub (tys' := [(cB, .byte)]) [0] rfl
              have hFc := va_free (wc := [(h0, .inr (8, [.ref qb, .ref qu, .int (nI (k + 1)), .int ln, .int (nI n), .int (nI i1), .int pl])), (qb, .inl (cB, 4096, .inl f))]) hD hS hA [0, 1] rfl
              refine va_calli (va_runV (As := []) (rest := []) ⟨hx, hb, hml, hown, hts⟩ (c_Tape_here l dC dI cB h0 qb H (.ref qu) (nI (k + 1)) ln pl f n i1 (by omega) (by omega)) (cwV 0 hts (gt_V (own := R_Tape) (C := R_Tape) (i := 35) (y := y_Tape_here) i_Tape_here w_396 w_363 w_364 w_2) rfl rfl rfl (by decide +kernel) ⟨Nat.le_of_ble_eq_true rfl, Nat.le_of_ble_eq_true rfl⟩) ⟨mp_blind, va_recv hKc hPc (ci := 8) (q0 := 0) rfl rfl, fun U hU hW => ⟨rfl, hU, by rw [hU]; exact hPc, va_K.moved hW.alike hKc, hDc.weaken (fun _ _ _ _ => trivial)⟩⟩ rfl rfl hl.1 rfl (lv_room (Nat.le_of_ble_eq_true rfl)) d_Tape_character_89 ⟨Nat.le_of_ble_eq_true rfl, Nat.le_of_ble_eq_true rfl⟩) hS (fun q _ h => hFc q h) hFc (fun r5 _u t H1 locs ht hvm hw hB hz1 hk1 hS => ?_)
              obtain ⟨hP1, hK1, hD1⟩ := hB
              rw [ht] at hP1
              obtain ⟨hP, hD⟩ := va_join (wr := [(qu, .inl (cI, 4096, .inl (upd g k r2)))]) (w1 := [(h0, .inr (8, [.ref qb, .ref qu, .int (nI (k + 1)), .int ln, .int (nI n), .int (nI i1), .int pl])), (qb, .inl (cB, 4096, .inl f))]) hP hD [0, 1] [2] rfl rfl (by decide) (by decide) hk1 hFc hP1 hD1
              generalize H1 = H at hP hS ⊢
              have hP : va_P (dC, dI) classes [(qu, .inl (cI, 4096, .inl (upd g k r2))), (h0, .inr (8, [.ref qb, .ref qu, .int (nI (k + 1)), .int ln, .int (nI n), .int (nI i1), .int pl])), (qb, .inl (cB, 4096, .inl f))] H := hP
              have hD : va_D A [(qu, .inl (cI, 4096, .inl (upd g k r2))), (h0, .inr (8, [.ref qb, .ref qu, .int (nI (k + 1)), .int ln, .int (nI n), .int (nI i1), .int pl])), (qb, .inl (cB, 4096, .inl f))] := hD
              have hP := hP.sub (ws' := [(h0, .inr (8, [.ref qb, .ref qu, .int (nI (k + 1)), .int ln, .int (nI n), .int (nI i1), .int pl])), (qb, .inl (cB, 4096, .inl f)), (qu, .inl (cI, 4096, .inl (upd g k r2)))]) [1, 2, 0] rfl
              have hD := hD.sub (ws' := [(h0, .inr (8, [.ref qb, .ref qu, .int (nI (k + 1)), .int ln, .int (nI n), .int (nI i1), .int pl])), (qb, .inl (cB, 4096, .inl f)), (qu, .inl (cI, 4096, .inl (upd g k r2)))]) [1, 2, 0] (by decide) rfl
              have h_r5 : r5 = hereV f n i1 := hw
              refine lv_bipush (v := 92) hx hb d_Tape_character_92 (by decide) ?_
              refine lv_icmp_ne (tgt := 105) hx hb d_Tape_character_94 (by decide) (fun c94 => ?_) (fun c94 => ?_)
              · refine lv_iconst (v := (-1)) hx hb d_Tape_character_105 (by decide) ?_
                refine lv_istore (lv' := [(5, .int (-1)), (4, .int r2), (3, .int r1), (2, .int (nI i)), (0, .ref h0), (1, .int q)]) hx hb d_Tape_character_106 hl (by decide) rfl (fun ls hl => ?_)
                refine lv_iload hx hb d_Tape_character_108 (lv_at hl 0 rfl) ?_
                have hPc := hP.sub (ws' := []) [] rfl
                have hDc := hD.sub (ws' := []) [] (by decide) rfl
                have hKc := hK.sub (tys' := []) [] rfl
                have hFc := va_free (wc := []) hD hS hA [] rfl
                refine va_calli (va_runSN (As := [.int (-1)]) (rest := []) ⟨hx, hb, hml, hown, hts⟩ (c_QB_isLowUnit l dC dI H (-1)) (⟨va_cnB (host := "QueryBench") 1 hts (gt_code i_QB_isLowUnit) rfl rfl rfl (hN _ nl_426) (hts _ w_1) (by decide +kernel) ⟨Nat.le_of_ble_eq_true rfl, Nat.le_of_ble_eq_true rfl⟩, hts _ w_427, trivial⟩) ⟨mp_blind, fun U hU hW => ⟨rfl, hU, by rw [hU]; exact hPc, va_K.moved hW.alike hKc, hDc.weaken (fun _ _ _ _ => trivial)⟩⟩ rfl rfl hl.1 rfl (lv_room (Nat.le_of_ble_eq_true rfl)) d_Tape_character_110 ⟨Nat.le_of_ble_eq_true rfl, Nat.le_of_ble_eq_true rfl⟩) hS (fun q _ h => hFc q h) hFc (fun r7 _u t H1 locs ht hvm hw hB hz1 hk1 hS => ?_)
                obtain ⟨hP1, hK1, hD1⟩ := hB
                rw [ht] at hP1
                obtain ⟨hP, hD⟩ := va_join (wr := [(h0, .inr (8, [.ref qb, .ref qu, .int (nI (k + 1)), .int ln, .int (nI n), .int (nI i1), .int pl])), (qb, .inl (cB, 4096, .inl f)), (qu, .inl (cI, 4096, .inl (upd g k r2)))]) (w1 := []) hP hD [] [0, 1, 2] rfl rfl (by decide) (by decide) hk1 hFc hP1 hD1
                generalize H1 = H at hP hS ⊢
                have hP : va_P (dC, dI) classes [(h0, .inr (8, [.ref qb, .ref qu, .int (nI (k + 1)), .int ln, .int (nI n), .int (nI i1), .int pl])), (qb, .inl (cB, 4096, .inl f)), (qu, .inl (cI, 4096, .inl (upd g k r2)))] H := hP
                have hD : va_D A [(h0, .inr (8, [.ref qb, .ref qu, .int (nI (k + 1)), .int ln, .int (nI n), .int (nI i1), .int pl])), (qb, .inl (cB, 4096, .inl f)), (qu, .inl (cI, 4096, .inl (upd g k r2)))] := hD
                have h_r7 : r7 = if 56320 ≤ (-1) ∧ (-1) ≤ 57343 then 1 else 0 := hw
                refine lv_if_ne (tgt := 121) hx hb d_Tape_character_113 (by decide) (fun c113 => ?_) (fun c113 => ?_)
                · exact absurd (lowU_1 (x := -1) h_r7 c113) (by decide)
                · refine lv_aload_n hx hb d_Tape_character_116 rfl (lv_at hl 4 rfl) ?_
                  refine lv_iload_n hx hb d_Tape_character_117 rfl (lv_at hl 3 rfl) ?_
                  have hPc := hP.sub (ws' := [(h0, .inr (8, [.ref qb, .ref qu, .int (nI (k + 1)), .int ln, .int (nI n), .int (nI i1), .int pl])), (qb, .inl (cB, 4096, .inl f))]) [0, 1] rfl
                  have hDc := hD.sub (ws' := [(h0, .inr (8, [.ref qb, .ref qu, .int (nI (k + 1)), .int ln, .int (nI n), .int (nI i1), .int pl])), (qb, .inl (cB, 4096, .inl f))]) [0, 1] (by decide) rfl
                  have hKc := hK.sub (tys' := [(cB, .byte)]) [0] rfl
                  have hFc := va_free (wc := [(h0, .inr (8, [.ref qb, .ref qu, .int (nI (k + 1)), .int ln, .int (nI n), .int (nI i1), .int pl])), (qb, .inl (cB, 4096, .inl f))]) hD hS hA [0, 1] rfl
                  refine w_same (fun hq0 => ?_)
                  refine vx_callv (vx_runV (As := [.int (nI i)]) (rest := []) ⟨hx, hb, hml, hown, hts⟩ (c_Tape_fail l hl9 dC dI cB h0 qb H (.ref qu) ((nI (k + 1))) ln (nI n) ((nI i1)) pl f (nI i)) (cwV 1 hts (gt_V (own := R_Tape) (C := R_Tape) (i := 39) (y := y_Tape_fail) i_Tape_fail w_413 w_371 w_372 w_2) rfl rfl rfl (by decide +kernel) ⟨Nat.le_of_ble_eq_true rfl, Nat.le_of_ble_eq_true rfl⟩) ⟨mx_blind, va_recv hKc hPc (ci := 8) (q0 := 0) rfl rfl, fun U hU hW => ⟨rfl, ⟨hU, by rw [hU]; exact hPc, va_K.moved hW.alike hKc, hDc.weaken (fun _ _ _ _ => trivial)⟩, hN.warm hW, by rw [hU]; exact ZX.moved' hW.alike (ZX.narrow' (ZX.kept' hZ hS.2.1) hFc)⟩⟩ rfl rfl hl.1 rfl (lv_room (Nat.le_of_ble_eq_true rfl)) d_Tape_character_118 ⟨Nat.le_of_ble_eq_true rfl, Nat.le_of_ble_eq_true rfl⟩) hS (fun q _ h => hFc q h) hFc (fun q _ h => hFc q h) (fun E ce q9 _u t H1 locs ht hvm hw hB hz1 hk1 hS hce hcv hcl => ?_) (fun _u t H1 locs ht hvm hw hB hz1 hk1 hS => ?_)
                  · obtain ⟨hE, hP1, hK1, hD1⟩ := hB
                    rw [ht] at hP1
                    obtain ⟨hP, hD⟩ := va_join (wr := [(qu, .inl (cI, 4096, .inl (upd g k r2)))]) (w1 := [(h0, .inr (8, [.ref qb, .ref qu, .int (nI (k + 1)), .int ln, .int (nI n), .int (nI i1), .int (nI i)])), (qb, .inl (cB, 4096, .inl f))]) hP hD [0, 1] [2] rfl rfl (by decide) (by decide) hk1 hFc hP1 hD1
                    generalize H1 = H at hP hS hce ⊢
                    have hP : va_P (dC, dI) classes [(qu, .inl (cI, 4096, .inl (upd g k r2))), (h0, .inr (8, [.ref qb, .ref qu, .int (nI (k + 1)), .int ln, .int (nI n), .int (nI i1), .int (nI i)])), (qb, .inl (cB, 4096, .inl f))] H := hP
                    have hD : va_D A [(qu, .inl (cI, 4096, .inl (upd g k r2))), (h0, .inr (8, [.ref qb, .ref qu, .int (nI (k + 1)), .int ln, .int (nI n), .int (nI i1), .int (nI i)])), (qb, .inl (cB, 4096, .inl f))] := hD
                    have hP := hP.sub (ws' := [(h0, .inr (8, [.ref qb, .ref qu, .int (nI (k + 1)), .int ln, .int (nI n), .int (nI i1), .int (nI i)])), (qb, .inl (cB, 4096, .inl f)), (qu, .inl (cI, 4096, .inl (upd g k r2)))]) [1, 2, 0] rfl
                    have hD := hD.sub (ws' := [(h0, .inr (8, [.ref qb, .ref qu, .int (nI (k + 1)), .int ln, .int (nI n), .int (nI i1), .int (nI i)])), (qb, .inl (cB, 4096, .inl f)), (qu, .inl (cI, 4096, .inl (upd g k r2)))]) [1, 2, 0] (by decide) rfl
                    exact vx_out (fun x hx => (hex x hx).elim) hlocks hce hcv hcl (fun t ht2 ha => ⟨((nI i1), (nI (k + 1)), upd g k r2), Or.inr (Or.inr ⟨h_r1 ▸ c30, r2, i1, h_r2, Or.inr (Or.inr ⟨highU_1 h_r4 c85, Or.inl (h_r5 ▸ c94)⟩)⟩), ⟨hE, by rw [ht2]; exact hP, va_K.moved ha hK, hD⟩, hS.F ht2⟩) hS.2.2 (Nat.le_of_ble_eq_true rfl) (Nat.le_of_ble_eq_true rfl)
                  · exact hw.elim
              · have h92 := here_92 (f := f) (n := n) (i := i1) (h_r5 ▸ c94)
                refine lv_aload_n hx hb d_Tape_character_97 rfl (lv_at hl 3 rfl) ?_
                refine lv_iload_n hx hb d_Tape_character_98 rfl (lv_at hl 4 rfl) ?_
                have hPc := hP.sub (ws' := [(h0, .inr (8, [.ref qb, .ref qu, .int (nI (k + 1)), .int ln, .int (nI n), .int (nI i1), .int pl])), (qb, .inl (cB, 4096, .inl f))]) [0, 1] rfl
                have hDc := hD.sub (ws' := [(h0, .inr (8, [.ref qb, .ref qu, .int (nI (k + 1)), .int ln, .int (nI n), .int (nI i1), .int pl])), (qb, .inl (cB, 4096, .inl f))]) [0, 1] (by decide) rfl
                have hKc := hK.sub (tys' := [(cB, .byte)]) [0] rfl
                have hFc := va_free (wc := [(h0, .inr (8, [.ref qb, .ref qu, .int (nI (k + 1)), .int ln, .int (nI n), .int (nI i1), .int pl])), (qb, .inl (cB, 4096, .inl f))]) hD hS hA [0, 1] rfl
                refine va_calli (va_runV (As := [.int q]) (rest := []) ⟨hx, hb, hml, hown, hts⟩ (c_Tape_escape l dC dI cB h0 qb H (.ref qu) (nI (k + 1)) ln pl f n i1 q (by omega) (by omega)) (cwV 1 hts (gt_V (own := R_Tape) (C := R_Tape) (i := 85) (y := y_Tape_escape) i_Tape_escape w_418 w_420 (gt_sel (y := y_Tape_escape) (n := 7) (by decide +kernel)) w_2) rfl rfl rfl (by decide +kernel) ⟨Nat.le_of_ble_eq_true rfl, Nat.le_of_ble_eq_true rfl⟩) ⟨mp_blind, va_recv hKc hPc (ci := 8) (q0 := 0) rfl rfl, fun U hU hW => ⟨rfl, hU, by rw [hU]; exact hPc, va_K.moved hW.alike hKc, hDc.weaken (fun _ _ _ _ => trivial)⟩⟩ rfl rfl hl.1 rfl (lv_room (Nat.le_of_ble_eq_true rfl)) d_Tape_character_99 ⟨Nat.le_of_ble_eq_true rfl, Nat.le_of_ble_eq_true rfl⟩) hS (fun q _ h => hFc q h) hFc (fun r6 i2 t H1 locs ht hvm hw hB hz1 hk1 hS => ?_)
                obtain ⟨hP1, hK1, hD1⟩ := hB
                rw [ht] at hP1
                obtain ⟨hP, hD⟩ := va_join (wr := [(qu, .inl (cI, 4096, .inl (upd g k r2)))]) (w1 := [(h0, .inr (8, [.ref qb, .ref qu, .int (nI (k + 1)), .int ln, .int (nI n), .int (nI i2), .int pl])), (qb, .inl (cB, 4096, .inl f))]) hP hD [0, 1] [2] rfl rfl (by decide) (by decide) hk1 hFc hP1 hD1
                generalize H1 = H at hP hS ⊢
                have hP : va_P (dC, dI) classes [(qu, .inl (cI, 4096, .inl (upd g k r2))), (h0, .inr (8, [.ref qb, .ref qu, .int (nI (k + 1)), .int ln, .int (nI n), .int (nI i2), .int pl])), (qb, .inl (cB, 4096, .inl f))] H := hP
                have hD : va_D A [(qu, .inl (cI, 4096, .inl (upd g k r2))), (h0, .inr (8, [.ref qb, .ref qu, .int (nI (k + 1)), .int ln, .int (nI n), .int (nI i2), .int pl])), (qb, .inl (cB, 4096, .inl f))] := hD
                have hP := hP.sub (ws' := [(h0, .inr (8, [.ref qb, .ref qu, .int (nI (k + 1)), .int ln, .int (nI n), .int (nI i2), .int pl])), (qb, .inl (cB, 4096, .inl f)), (qu, .inl (cI, 4096, .inl (upd g k r2)))]) [1, 2, 0] rfl
                have hD := hD.sub (ws' := [(h0, .inr (8, [.ref qb, .ref qu, .int (nI (k + 1)), .int ln, .int (nI n), .int (nI i2), .int pl])), (qb, .inl (cB, 4096, .inl f)), (qu, .inl (cI, 4096, .inl (upd g k r2)))]) [1, 2, 0] (by decide) rfl
                have h_r6 : (r6, i2) = escV f n i1 q := hw
                have hb_r6 := escV_ge h_r6
                refine lv_goto (tgt := 106) hx hb d_Tape_character_102 (by decide) ?_
                refine lv_istore (lv' := [(5, .int r6), (4, .int r2), (3, .int r1), (2, .int (nI i)), (0, .ref h0), (1, .int q)]) hx hb d_Tape_character_106 hl (by decide) rfl (fun ls hl => ?_)
                refine lv_iload hx hb d_Tape_character_108 (lv_at hl 0 rfl) ?_
                have hPc := hP.sub (ws' := []) [] rfl
                have hDc := hD.sub (ws' := []) [] (by decide) rfl
                have hKc := hK.sub (tys' := []) [] rfl
                have hFc := va_free (wc := []) hD hS hA [] rfl
                refine va_calli (va_runSN (As := [.int r6]) (rest := []) ⟨hx, hb, hml, hown, hts⟩ (c_QB_isLowUnit l dC dI H r6) (⟨va_cnB (host := "QueryBench") 1 hts (gt_code i_QB_isLowUnit) rfl rfl rfl (hN _ nl_426) (hts _ w_1) (by decide +kernel) ⟨Nat.le_of_ble_eq_true rfl, Nat.le_of_ble_eq_true rfl⟩, hts _ w_427, trivial⟩) ⟨mp_blind, fun U hU hW => ⟨rfl, hU, by rw [hU]; exact hPc, va_K.moved hW.alike hKc, hDc.weaken (fun _ _ _ _ => trivial)⟩⟩ rfl rfl hl.1 rfl (lv_room (Nat.le_of_ble_eq_true rfl)) d_Tape_character_110 ⟨Nat.le_of_ble_eq_true rfl, Nat.le_of_ble_eq_true rfl⟩) hS (fun q _ h => hFc q h) hFc (fun r7 _u t H1 locs ht hvm hw hB hz1 hk1 hS => ?_)
                obtain ⟨hP1, hK1, hD1⟩ := hB
                rw [ht] at hP1
                obtain ⟨hP, hD⟩ := va_join (wr := [(h0, .inr (8, [.ref qb, .ref qu, .int (nI (k + 1)), .int ln, .int (nI n), .int (nI i2), .int pl])), (qb, .inl (cB, 4096, .inl f)), (qu, .inl (cI, 4096, .inl (upd g k r2)))]) (w1 := []) hP hD [] [0, 1, 2] rfl rfl (by decide) (by decide) hk1 hFc hP1 hD1
                generalize H1 = H at hP hS ⊢
                have hP : va_P (dC, dI) classes [(h0, .inr (8, [.ref qb, .ref qu, .int (nI (k + 1)), .int ln, .int (nI n), .int (nI i2), .int pl])), (qb, .inl (cB, 4096, .inl f)), (qu, .inl (cI, 4096, .inl (upd g k r2)))] H := hP
                have hD : va_D A [(h0, .inr (8, [.ref qb, .ref qu, .int (nI (k + 1)), .int ln, .int (nI n), .int (nI i2), .int pl])), (qb, .inl (cB, 4096, .inl f)), (qu, .inl (cI, 4096, .inl (upd g k r2)))] := hD
                have h_r7 : r7 = if 56320 ≤ r6 ∧ r6 ≤ 57343 then 1 else 0 := hw
                refine lv_if_ne (tgt := 121) hx hb d_Tape_character_113 (by decide) (fun c113 => ?_) (fun c113 => ?_)
                · refine lv_aload_n hx hb d_Tape_character_121 rfl (lv_at hl 4 rfl) ?_
                  refine lv_iload hx hb d_Tape_character_122 (lv_at hl 0 rfl) ?_
                  have hPc := hP.sub (ws' := [(h0, .inr (8, [.ref qb, .ref qu, .int (nI (k + 1)), .int ln, .int (nI n), .int (nI i2), .int pl])), (qu, .inl (cI, 4096, .inl (upd g k r2)))]) [0, 2] rfl
                  have hDc := hD.sub (ws' := [(h0, .inr (8, [.ref qb, .ref qu, .int (nI (k + 1)), .int ln, .int (nI n), .int (nI i2), .int pl])), (qu, .inl (cI, 4096, .inl (upd g k r2)))]) [0, 2] (by decide) rfl
                  have hKc := hK.sub (tys' := [(cI, .int)]) [1] rfl
                  have hFc := va_free (wc := [(h0, .inr (8, [.ref qb, .ref qu, .int (nI (k + 1)), .int ln, .int (nI n), .int (nI i2), .int pl])), (qu, .inl (cI, 4096, .inl (upd g k r2)))]) hD hS hA [0, 2] rfl
                  refine va_callv (va_runV (As := [.int r6]) (rest := []) ⟨hx, hb, hml, hown, hts⟩ (c_Tape_keep l dC dI cI h0 qu H (.ref qb) ln (nI n) ((nI i2)) pl (upd g k r2) (k + 1) r6 (by omega)) (cwV 1 hts (gt_V (own := R_Tape) (C := R_Tape) (i := 82) (y := y_Tape_keep) i_Tape_keep w_414 w_416 (gt_sel (y := y_Tape_keep) (n := 7) (by decide +kernel)) w_2) rfl rfl rfl (by decide +kernel) ⟨Nat.le_of_ble_eq_true rfl, Nat.le_of_ble_eq_true rfl⟩) ⟨mp_blind, va_recv hKc hPc (ci := 8) (q0 := 0) rfl rfl, fun U hU hW => ⟨rfl, hU, by rw [hU]; exact hPc, va_K.moved hW.alike hKc, hDc.weaken (fun _ _ _ _ => trivial)⟩⟩ rfl rfl hl.1 rfl (lv_room (Nat.le_of_ble_eq_true rfl)) d_Tape_character_124 ⟨Nat.le_of_ble_eq_true rfl, Nat.le_of_ble_eq_true rfl⟩) hS (fun q _ h => hFc q h) hFc (fun u2 t H1 locs ht hvm hw hB hz1 hk1 hS => ?_)
                  obtain ⟨hP1, hK1, hD1⟩ := hB
                  rw [ht] at hP1
                  obtain ⟨hP, hD⟩ := va_join (wr := [(qb, .inl (cB, 4096, .inl f))]) (w1 := [(h0, .inr (8, [.ref qb, .ref qu, .int (nI u2.1), .int ln, .int (nI n), .int (nI i2), .int pl])), (qu, .inl (cI, 4096, .inl u2.2))]) hP hD [0, 2] [1] rfl rfl (by decide) (by decide) hk1 hFc hP1 hD1
                  generalize H1 = H at hP hS ⊢
                  have hP : va_P (dC, dI) classes [(qb, .inl (cB, 4096, .inl f)), (h0, .inr (8, [.ref qb, .ref qu, .int (nI u2.1), .int ln, .int (nI n), .int (nI i2), .int pl])), (qu, .inl (cI, 4096, .inl u2.2))] H := hP
                  have hD : va_D A [(qb, .inl (cB, 4096, .inl f)), (h0, .inr (8, [.ref qb, .ref qu, .int (nI u2.1), .int ln, .int (nI n), .int (nI i2), .int pl])), (qu, .inl (cI, 4096, .inl u2.2))] := hD
                  have hP := hP.sub (ws' := [(h0, .inr (8, [.ref qb, .ref qu, .int (nI u2.1), .int ln, .int (nI n), .int (nI i2), .int pl])), (qb, .inl (cB, 4096, .inl f)), (qu, .inl (cI, 4096, .inl u2.2))]) [1, 0, 2] rfl
                  have hD := hD.sub (ws' := [(h0, .inr (8, [.ref qb, .ref qu, .int (nI u2.1), .int ln, .int (nI n), .int (nI i2), .int pl])), (qb, .inl (cB, 4096, .inl f)), (qu, .inl (cI, 4096, .inl u2.2))]) [1, 0, 2] (by decide) rfl
                  obtain rfl : u2 = (k + 1 + 1, upd (upd g k r2) (k + 1) r6) := by rcases hw with ⟨-, h⟩ | ⟨h, -⟩; exact h; exact absurd h (by omega)
                  have hP : va_P (dC, dI) classes [(h0, .inr (8, [.ref qb, .ref qu, .int (nI (k + 1 + 1)), .int ln, .int (nI n), .int (nI i2), .int pl])), (qb, .inl (cB, 4096, .inl f)), (qu, .inl (cI, 4096, .inl (upd (upd g k r2) (k + 1) r6)))] H := hP
                  have hD : va_D A [(h0, .inr (8, [.ref qb, .ref qu, .int (nI (k + 1 + 1)), .int ln, .int (nI n), .int (nI i2), .int pl])), (qb, .inl (cB, 4096, .inl f)), (qu, .inl (cI, 4096, .inl (upd (upd g k r2) (k + 1) r6)))] := hD
                  refine w_same (fun hq => ?_)
                  refine W.widen (k := 1) (n := 6) (Nat.le_of_ble_eq_true rfl) (Nat.le_of_ble_eq_true rfl) ?_
                  refine vx_ret ?_
                  exact W.vret hx hb hr (fun t ht hW => ⟨⟨(i2, k + 1 + 1, upd (upd g k r2) (k + 1) r6), rfl, ⟨[r2, r6], ⟨h_r1 ▸ c13, h_r1 ▸ c19, Or.inr ⟨h_r1 ▸ c30, r2, r6, i1, h_r2, c58, lowU_0 h_r3 c66, Or.inr ⟨highU_1 h_r4 c85, h_r5 ▸ c94, h_r6, lowU_1 h_r7 c113, rfl⟩⟩⟩, rfl, rfl⟩, ⟨by rw [ht]; exact hP, va_K.moved hW.alike hK, hD⟩, by rw [ht]; exact hq⟩, hS.F ht⟩) hS.2.2 d_Tape_character_127
                · refine lv_aload_n hx hb d_Tape_character_116 rfl (lv_at hl 4 rfl) ?_
                  refine lv_iload_n hx hb d_Tape_character_117 rfl (lv_at hl 3 rfl) ?_
                  have hPc := hP.sub (ws' := [(h0, .inr (8, [.ref qb, .ref qu, .int (nI (k + 1)), .int ln, .int (nI n), .int (nI i2), .int pl])), (qb, .inl (cB, 4096, .inl f))]) [0, 1] rfl
                  have hDc := hD.sub (ws' := [(h0, .inr (8, [.ref qb, .ref qu, .int (nI (k + 1)), .int ln, .int (nI n), .int (nI i2), .int pl])), (qb, .inl (cB, 4096, .inl f))]) [0, 1] (by decide) rfl
                  have hKc := hK.sub (tys' := [(cB, .byte)]) [0] rfl
                  have hFc := va_free (wc := [(h0, .inr (8, [.ref qb, .ref qu, .int (nI (k + 1)), .int ln, .int (nI n), .int (nI i2), .int pl])), (qb, .inl (cB, 4096, .inl f))]) hD hS hA [0, 1] rfl
                  refine w_same (fun hq0 => ?_)
                  refine vx_callv (vx_runV (As := [.int (nI i)]) (rest := []) ⟨hx, hb, hml, hown, hts⟩ (c_Tape_fail l hl9 dC dI cB h0 qb H (.ref qu) ((nI (k + 1))) ln (nI n) ((nI i2)) pl f (nI i)) (cwV 1 hts (gt_V (own := R_Tape) (C := R_Tape) (i := 39) (y := y_Tape_fail) i_Tape_fail w_413 w_371 w_372 w_2) rfl rfl rfl (by decide +kernel) ⟨Nat.le_of_ble_eq_true rfl, Nat.le_of_ble_eq_true rfl⟩) ⟨mx_blind, va_recv hKc hPc (ci := 8) (q0 := 0) rfl rfl, fun U hU hW => ⟨rfl, ⟨hU, by rw [hU]; exact hPc, va_K.moved hW.alike hKc, hDc.weaken (fun _ _ _ _ => trivial)⟩, hN.warm hW, by rw [hU]; exact ZX.moved' hW.alike (ZX.narrow' (ZX.kept' hZ hS.2.1) hFc)⟩⟩ rfl rfl hl.1 rfl (lv_room (Nat.le_of_ble_eq_true rfl)) d_Tape_character_118 ⟨Nat.le_of_ble_eq_true rfl, Nat.le_of_ble_eq_true rfl⟩) hS (fun q _ h => hFc q h) hFc (fun q _ h => hFc q h) (fun E ce q9 _u t H1 locs ht hvm hw hB hz1 hk1 hS hce hcv hcl => ?_) (fun _u t H1 locs ht hvm hw hB hz1 hk1 hS => ?_)
                  · obtain ⟨hE, hP1, hK1, hD1⟩ := hB
                    rw [ht] at hP1
                    obtain ⟨hP, hD⟩ := va_join (wr := [(qu, .inl (cI, 4096, .inl (upd g k r2)))]) (w1 := [(h0, .inr (8, [.ref qb, .ref qu, .int (nI (k + 1)), .int ln, .int (nI n), .int (nI i2), .int (nI i)])), (qb, .inl (cB, 4096, .inl f))]) hP hD [0, 1] [2] rfl rfl (by decide) (by decide) hk1 hFc hP1 hD1
                    generalize H1 = H at hP hS hce ⊢
                    have hP : va_P (dC, dI) classes [(qu, .inl (cI, 4096, .inl (upd g k r2))), (h0, .inr (8, [.ref qb, .ref qu, .int (nI (k + 1)), .int ln, .int (nI n), .int (nI i2), .int (nI i)])), (qb, .inl (cB, 4096, .inl f))] H := hP
                    have hD : va_D A [(qu, .inl (cI, 4096, .inl (upd g k r2))), (h0, .inr (8, [.ref qb, .ref qu, .int (nI (k + 1)), .int ln, .int (nI n), .int (nI i2), .int (nI i)])), (qb, .inl (cB, 4096, .inl f))] := hD
                    have hP := hP.sub (ws' := [(h0, .inr (8, [.ref qb, .ref qu, .int (nI (k + 1)), .int ln, .int (nI n), .int (nI i2), .int (nI i)])), (qb, .inl (cB, 4096, .inl f)), (qu, .inl (cI, 4096, .inl (upd g k r2)))]) [1, 2, 0] rfl
                    have hD := hD.sub (ws' := [(h0, .inr (8, [.ref qb, .ref qu, .int (nI (k + 1)), .int ln, .int (nI n), .int (nI i2), .int (nI i)])), (qb, .inl (cB, 4096, .inl f)), (qu, .inl (cI, 4096, .inl (upd g k r2)))]) [1, 2, 0] (by decide) rfl
                    exact vx_out (fun x hx => (hex x hx).elim) hlocks hce hcv hcl (fun t ht2 ha => ⟨((nI i2), (nI (k + 1)), upd g k r2), Or.inr (Or.inr ⟨h_r1 ▸ c30, r2, i1, h_r2, Or.inr (Or.inr ⟨highU_1 h_r4 c85, Or.inr ⟨r6, i2, h_r6, lowU_0 h_r7 c113⟩⟩)⟩), ⟨hE, by rw [ht2]; exact hP, va_K.moved ha hK, hD⟩, hS.F ht2⟩) hS.2.2 (Nat.le_of_ble_eq_true rfl) (Nat.le_of_ble_eq_true rfl)
                  · exact hw.elim
          · refine lv_aload_n hx hb d_Tape_character_69 rfl (lv_at hl 3 rfl) ?_
            refine lv_iload_n hx hb d_Tape_character_70 rfl (lv_at hl 2 rfl) ?_
            have hPc := hP.sub (ws' := [(h0, .inr (8, [.ref qb, .ref qu, .int (nI k), .int ln, .int (nI n), .int (nI i1), .int pl])), (qb, .inl (cB, 4096, .inl f))]) [0, 1] rfl
            have hDc := hD.sub (ws' := [(h0, .inr (8, [.ref qb, .ref qu, .int (nI k), .int ln, .int (nI n), .int (nI i1), .int pl])), (qb, .inl (cB, 4096, .inl f))]) [0, 1] (by decide) rfl
            have hKc := hK.sub (tys' := [(cB, .byte)]) [0] rfl
            have hFc := va_free (wc := [(h0, .inr (8, [.ref qb, .ref qu, .int (nI k), .int ln, .int (nI n), .int (nI i1), .int pl])), (qb, .inl (cB, 4096, .inl f))]) hD hS hA [0, 1] rfl
            refine w_same (fun hq0 => ?_)
            refine vx_callv (vx_runV (As := [.int (nI i)]) (rest := []) ⟨hx, hb, hml, hown, hts⟩ (c_Tape_fail l hl9 dC dI cB h0 qb H (.ref qu) ((nI k)) ln (nI n) ((nI i1)) pl f (nI i)) (cwV 1 hts (gt_V (own := R_Tape) (C := R_Tape) (i := 39) (y := y_Tape_fail) i_Tape_fail w_413 w_371 w_372 w_2) rfl rfl rfl (by decide +kernel) ⟨Nat.le_of_ble_eq_true rfl, Nat.le_of_ble_eq_true rfl⟩) ⟨mx_blind, va_recv hKc hPc (ci := 8) (q0 := 0) rfl rfl, fun U hU hW => ⟨rfl, ⟨hU, by rw [hU]; exact hPc, va_K.moved hW.alike hKc, hDc.weaken (fun _ _ _ _ => trivial)⟩, hN.warm hW, by rw [hU]; exact ZX.moved' hW.alike (ZX.narrow' (ZX.kept' hZ hS.2.1) hFc)⟩⟩ rfl rfl hl.1 rfl (lv_room (Nat.le_of_ble_eq_true rfl)) d_Tape_character_71 ⟨Nat.le_of_ble_eq_true rfl, Nat.le_of_ble_eq_true rfl⟩) hS (fun q _ h => hFc q h) hFc (fun q _ h => hFc q h) (fun E ce q9 _u t H1 locs ht hvm hw hB hz1 hk1 hS hce hcv hcl => ?_) (fun _u t H1 locs ht hvm hw hB hz1 hk1 hS => ?_)
            · obtain ⟨hE, hP1, hK1, hD1⟩ := hB
              rw [ht] at hP1
              obtain ⟨hP, hD⟩ := va_join (wr := [(qu, .inl (cI, 4096, .inl g))]) (w1 := [(h0, .inr (8, [.ref qb, .ref qu, .int (nI k), .int ln, .int (nI n), .int (nI i1), .int (nI i)])), (qb, .inl (cB, 4096, .inl f))]) hP hD [0, 1] [2] rfl rfl (by decide) (by decide) hk1 hFc hP1 hD1
              generalize H1 = H at hP hS hce ⊢
              have hP : va_P (dC, dI) classes [(qu, .inl (cI, 4096, .inl g)), (h0, .inr (8, [.ref qb, .ref qu, .int (nI k), .int ln, .int (nI n), .int (nI i1), .int (nI i)])), (qb, .inl (cB, 4096, .inl f))] H := hP
              have hD : va_D A [(qu, .inl (cI, 4096, .inl g)), (h0, .inr (8, [.ref qb, .ref qu, .int (nI k), .int ln, .int (nI n), .int (nI i1), .int (nI i)])), (qb, .inl (cB, 4096, .inl f))] := hD
              have hP := hP.sub (ws' := [(h0, .inr (8, [.ref qb, .ref qu, .int (nI k), .int ln, .int (nI n), .int (nI i1), .int (nI i)])), (qb, .inl (cB, 4096, .inl f)), (qu, .inl (cI, 4096, .inl g))]) [1, 2, 0] rfl
              have hD := hD.sub (ws' := [(h0, .inr (8, [.ref qb, .ref qu, .int (nI k), .int ln, .int (nI n), .int (nI i1), .int (nI i)])), (qb, .inl (cB, 4096, .inl f)), (qu, .inl (cI, 4096, .inl g))]) [1, 2, 0] (by decide) rfl
              exact vx_out (fun x hx => (hex x hx).elim) hlocks hce hcv hcl (fun t ht2 ha => ⟨((nI i1), (nI k), g), Or.inr (Or.inr ⟨h_r1 ▸ c30, r2, i1, h_r2, Or.inr (Or.inl (lowU_1 h_r3 c66))⟩), ⟨hE, by rw [ht2]; exact hP, va_K.moved ha hK, hD⟩, hS.F ht2⟩) hS.2.2 (Nat.le_of_ble_eq_true rfl) (Nat.le_of_ble_eq_true rfl)
            · exact hw.elim
      · refine lv_aload_n hx hb d_Tape_character_33 rfl (lv_at hl 2 rfl) ?_
        refine lv_dup hx hb d_Tape_character_34 rfl ?_
        refine va_get (D := (dC, dI)) (ci := 8) (v := .int (nI i)) (C := R_Tape) (T := F_Tape) (N := 7) hx hb hts in_Tape hown hK hP 0 rfl rfl 5 (by decide) (hts _ w_54) (fun _ h9 => h9) rfl d_Tape_character_35 ?_
        refine lv_iconst (v := 1) hx hb d_Tape_character_38 (by decide) ?_
        refine lv_iadd hx hb d_Tape_character_39 ?_
        refine W.eq (g2 := F0 m 40 ls [.int (nI (i + 1)), .ref h0]) (by rw [show ((nI i) + 1) = (nI (i + 1)) from nI_1 _]) ?_
        refine va_put (D := (dC, dI)) (ci := 8) (v := .int (nI (i + 1))) (ty := .int) (C := R_Tape) (T := F_Tape) (N := 7) hx hb hts in_Tape t_Tape t_Tape_ok n_Tape hown hK hP hD hS 0 rfl rfl 5 (by decide) (hts _ w_54) (fun _ h9 => h9) rfl (by decide +kernel) rfl rfl (Nat.le_of_ble_eq_true rfl) d_Tape_character_40 (fun H locs hP hD hS => ?_)
        have hP : va_P (dC, dI) classes [(h0, .inr (8, [.ref qb, .ref qu, .int (nI k), .int ln, .int (nI n), .int (nI (i + 1)), .int pl])), (qb, .inl (cB, 4096, .inl f)), (qu, .inl (cI, 4096, .inl g))] H := hP
        have hD : va_D A [(h0, .inr (8, [.ref qb, .ref qu, .int (nI k), .int ln, .int (nI n), .int (nI (i + 1)), .int pl])), (qb, .inl (cB, 4096, .inl f)), (qu, .inl (cI, 4096, .inl g))] := hD
        refine lv_aload_n hx hb d_Tape_character_43 rfl (lv_at hl 2 rfl) ?_
        refine lv_iload_n hx hb d_Tape_character_44 rfl (lv_at hl 0 rfl) ?_
        have hPc := hP.sub (ws' := [(h0, .inr (8, [.ref qb, .ref qu, .int (nI k), .int ln, .int (nI n), .int (nI (i + 1)), .int pl])), (qu, .inl (cI, 4096, .inl g))]) [0, 2] rfl
        have hDc := hD.sub (ws' := [(h0, .inr (8, [.ref qb, .ref qu, .int (nI k), .int ln, .int (nI n), .int (nI (i + 1)), .int pl])), (qu, .inl (cI, 4096, .inl g))]) [0, 2] (by decide) rfl
        have hKc := hK.sub (tys' := [(cI, .int)]) [1] rfl
        have hFc := va_free (wc := [(h0, .inr (8, [.ref qb, .ref qu, .int (nI k), .int ln, .int (nI n), .int (nI (i + 1)), .int pl])), (qu, .inl (cI, 4096, .inl g))]) hD hS hA [0, 2] rfl
        refine va_callv (va_runV (As := [.int r1]) (rest := []) ⟨hx, hb, hml, hown, hts⟩ (c_Tape_keep l dC dI cI h0 qu H (.ref qb) ln (nI n) ((nI (i + 1))) pl g k r1 (by omega)) (cwV 1 hts (gt_V (own := R_Tape) (C := R_Tape) (i := 82) (y := y_Tape_keep) i_Tape_keep w_414 w_416 (gt_sel (y := y_Tape_keep) (n := 7) (by decide +kernel)) w_2) rfl rfl rfl (by decide +kernel) ⟨Nat.le_of_ble_eq_true rfl, Nat.le_of_ble_eq_true rfl⟩) ⟨mp_blind, va_recv hKc hPc (ci := 8) (q0 := 0) rfl rfl, fun U hU hW => ⟨rfl, hU, by rw [hU]; exact hPc, va_K.moved hW.alike hKc, hDc.weaken (fun _ _ _ _ => trivial)⟩⟩ rfl rfl hl.1 rfl (lv_room (Nat.le_of_ble_eq_true rfl)) d_Tape_character_45 ⟨Nat.le_of_ble_eq_true rfl, Nat.le_of_ble_eq_true rfl⟩) hS (fun q _ h => hFc q h) hFc (fun u2 t H1 locs ht hvm hw hB hz1 hk1 hS => ?_)
        obtain ⟨hP1, hK1, hD1⟩ := hB
        rw [ht] at hP1
        obtain ⟨hP, hD⟩ := va_join (wr := [(qb, .inl (cB, 4096, .inl f))]) (w1 := [(h0, .inr (8, [.ref qb, .ref qu, .int (nI u2.1), .int ln, .int (nI n), .int (nI (i + 1)), .int pl])), (qu, .inl (cI, 4096, .inl u2.2))]) hP hD [0, 2] [1] rfl rfl (by decide) (by decide) hk1 hFc hP1 hD1
        generalize H1 = H at hP hS ⊢
        have hP : va_P (dC, dI) classes [(qb, .inl (cB, 4096, .inl f)), (h0, .inr (8, [.ref qb, .ref qu, .int (nI u2.1), .int ln, .int (nI n), .int (nI (i + 1)), .int pl])), (qu, .inl (cI, 4096, .inl u2.2))] H := hP
        have hD : va_D A [(qb, .inl (cB, 4096, .inl f)), (h0, .inr (8, [.ref qb, .ref qu, .int (nI u2.1), .int ln, .int (nI n), .int (nI (i + 1)), .int pl])), (qu, .inl (cI, 4096, .inl u2.2))] := hD
        have hP := hP.sub (ws' := [(h0, .inr (8, [.ref qb, .ref qu, .int (nI u2.1), .int ln, .int (nI n), .int (nI (i + 1)), .int pl])), (qb, .inl (cB, 4096, .inl f)), (qu, .inl (cI, 4096, .inl u2.2))]) [1, 0, 2] rfl
        have hD := hD.sub (ws' := [(h0, .inr (8, [.ref qb, .ref qu, .int (nI u2.1), .int ln, .int (nI n), .int (nI (i + 1)), .int pl])), (qb, .inl (cB, 4096, .inl f)), (qu, .inl (cI, 4096, .inl u2.2))]) [1, 0, 2] (by decide) rfl
        obtain rfl : u2 = (k + 1, upd g k r1) := by rcases hw with ⟨-, h⟩ | ⟨h, -⟩; exact h; exact absurd h (by omega)
        have hP : va_P (dC, dI) classes [(h0, .inr (8, [.ref qb, .ref qu, .int (nI (k + 1)), .int ln, .int (nI n), .int (nI (i + 1)), .int pl])), (qb, .inl (cB, 4096, .inl f)), (qu, .inl (cI, 4096, .inl (upd g k r1)))] H := hP
        have hD : va_D A [(h0, .inr (8, [.ref qb, .ref qu, .int (nI (k + 1)), .int ln, .int (nI n), .int (nI (i + 1)), .int pl])), (qb, .inl (cB, 4096, .inl f)), (qu, .inl (cI, 4096, .inl (upd g k r1)))] := hD
        refine w_same (fun hq => ?_)
        refine W.widen (k := 1) (n := 6) (Nat.le_of_ble_eq_true rfl) (Nat.le_of_ble_eq_true rfl) ?_
        refine vx_ret ?_
        exact W.vret hx hb hr (fun t ht hW => ⟨⟨(i + 1, k + 1, upd g k r1), rfl, ⟨[r1], ⟨h_r1 ▸ c13, h_r1 ▸ c19, Or.inl ⟨h_r1 ▸ c30, rfl, by rw [h_r1]⟩⟩, rfl, rfl⟩, ⟨by rw [ht]; exact hP, va_K.moved hW.alike hK, hD⟩, by rw [ht]; exact hq⟩, hS.F ht⟩) hS.2.2 d_Tape_character_48
    · refine lv_aload_n hx hb d_Tape_character_22 rfl (lv_at hl 2 rfl) ?_
      refine lv_iload_n hx hb d_Tape_character_23 rfl (lv_at hl 1 rfl) ?_
      have hPc := hP.sub (ws' := [(h0, .inr (8, [.ref qb, .ref qu, .int (nI k), .int ln, .int (nI n), .int (nI i), .int pl])), (qb, .inl (cB, 4096, .inl f))]) [0, 1] rfl
      have hDc := hD.sub (ws' := [(h0, .inr (8, [.ref qb, .ref qu, .int (nI k), .int ln, .int (nI n), .int (nI i), .int pl])), (qb, .inl (cB, 4096, .inl f))]) [0, 1] (by decide) rfl
      have hKc := hK.sub (tys' := [(cB, .byte)]) [0] rfl
      have hFc := va_free (wc := [(h0, .inr (8, [.ref qb, .ref qu, .int (nI k), .int ln, .int (nI n), .int (nI i), .int pl])), (qb, .inl (cB, 4096, .inl f))]) hD hS hA [0, 1] rfl
      refine w_same (fun hq0 => ?_)
      refine vx_callv (vx_runV (As := [.int (nI i)]) (rest := []) ⟨hx, hb, hml, hown, hts⟩ (c_Tape_fail l hl9 dC dI cB h0 qb H (.ref qu) ((nI k)) ln (nI n) ((nI i)) pl f (nI i)) (cwV 1 hts (gt_V (own := R_Tape) (C := R_Tape) (i := 39) (y := y_Tape_fail) i_Tape_fail w_413 w_371 w_372 w_2) rfl rfl rfl (by decide +kernel) ⟨Nat.le_of_ble_eq_true rfl, Nat.le_of_ble_eq_true rfl⟩) ⟨mx_blind, va_recv hKc hPc (ci := 8) (q0 := 0) rfl rfl, fun U hU hW => ⟨rfl, ⟨hU, by rw [hU]; exact hPc, va_K.moved hW.alike hKc, hDc.weaken (fun _ _ _ _ => trivial)⟩, hN.warm hW, by rw [hU]; exact ZX.moved' hW.alike (ZX.narrow' (ZX.kept' hZ hS.2.1) hFc)⟩⟩ rfl rfl hl.1 rfl (lv_room (Nat.le_of_ble_eq_true rfl)) d_Tape_character_24 ⟨Nat.le_of_ble_eq_true rfl, Nat.le_of_ble_eq_true rfl⟩) hS (fun q _ h => hFc q h) hFc (fun q _ h => hFc q h) (fun E ce q9 _u t H1 locs ht hvm hw hB hz1 hk1 hS hce hcv hcl => ?_) (fun _u t H1 locs ht hvm hw hB hz1 hk1 hS => ?_)
      · obtain ⟨hE, hP1, hK1, hD1⟩ := hB
        rw [ht] at hP1
        obtain ⟨hP, hD⟩ := va_join (wr := [(qu, .inl (cI, 4096, .inl g))]) (w1 := [(h0, .inr (8, [.ref qb, .ref qu, .int (nI k), .int ln, .int (nI n), .int (nI i), .int (nI i)])), (qb, .inl (cB, 4096, .inl f))]) hP hD [0, 1] [2] rfl rfl (by decide) (by decide) hk1 hFc hP1 hD1
        generalize H1 = H at hP hS hce ⊢
        have hP : va_P (dC, dI) classes [(qu, .inl (cI, 4096, .inl g)), (h0, .inr (8, [.ref qb, .ref qu, .int (nI k), .int ln, .int (nI n), .int (nI i), .int (nI i)])), (qb, .inl (cB, 4096, .inl f))] H := hP
        have hD : va_D A [(qu, .inl (cI, 4096, .inl g)), (h0, .inr (8, [.ref qb, .ref qu, .int (nI k), .int ln, .int (nI n), .int (nI i), .int (nI i)])), (qb, .inl (cB, 4096, .inl f))] := hD
        have hP := hP.sub (ws' := [(h0, .inr (8, [.ref qb, .ref qu, .int (nI k), .int ln, .int (nI n), .int (nI i), .int (nI i)])), (qb, .inl (cB, 4096, .inl f)), (qu, .inl (cI, 4096, .inl g))]) [1, 2, 0] rfl
        have hD := hD.sub (ws' := [(h0, .inr (8, [.ref qb, .ref qu, .int (nI k), .int ln, .int (nI n), .int (nI i), .int (nI i)])), (qb, .inl (cB, 4096, .inl f)), (qu, .inl (cI, 4096, .inl g))]) [1, 2, 0] (by decide) rfl
        exact vx_out (fun x hx => (hex x hx).elim) hlocks hce hcv hcl (fun t ht2 ha => ⟨((nI i), (nI k), g), Or.inr (Or.inl (h_r1 ▸ c19)), ⟨hE, by rw [ht2]; exact hP, va_K.moved ha hK, hD⟩, hS.F ht2⟩) hS.2.2 (Nat.le_of_ble_eq_true rfl) (Nat.le_of_ble_eq_true rfl)
      · exact hw.elim
