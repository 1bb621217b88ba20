theorem w_17 : (.initialized "java/lang/System" : Cond) ∈ gtbl := gt_in 17 (by decide +kernel) (by decide +kernel)
theorem w_73 : (.arrayClass FieldType.int : Cond) ∈ gtbl := gt_in 73 (by decide +kernel) (by decide +kernel)
theorem w_409 : (.methodLink "QueryBench$Tape" 73 ⟨"QueryBench$Tape", "character", "(I)V"⟩ : Cond) ∈ gtbl := gt_in 409 (by decide +kernel) (by decide +kernel)
theorem w_411 : (.instanceMethod ⟨"QueryBench$Tape", "character", "(I)V"⟩ : Cond) ∈ gtbl := gt_in 411 (by decide +kernel) (by decide +kernel)
theorem w_436 : (.methodLink "QueryBench$Tape" 51 ⟨"QueryBench$Tape", "take", "(I)V"⟩ : Cond) ∈ gtbl := gt_in 436 (by decide +kernel) (by decide +kernel)
theorem w_437 : (.instanceMethod ⟨"QueryBench$Tape", "take", "(I)V"⟩ : Cond) ∈ gtbl := gt_in 437 (by decide +kernel) (by decide +kernel)
theorem w_438 : (.selects "QueryBench$Tape" ⟨"QueryBench$Tape", "take", "(I)V"⟩ ⟨"QueryBench$Tape", "take", "(I)V"⟩ : Cond) ∈ gtbl := gt_in 438 (by decide +kernel) (by decide +kernel)
theorem w_440 : (.methodLink "QueryBench$Tape" 76 ⟨"java/lang/System", "arraycopy", "(Ljava/lang/Object;ILjava/lang/Object;II)V"⟩ : Cond) ∈ gtbl := gt_in 440 (by decide +kernel) (by decide +kernel)
theorem w_441 : (.static ⟨"java/lang/System", "arraycopy", "(Ljava/lang/Object;ILjava/lang/Object;II)V"⟩ : Cond) ∈ gtbl := gt_in 441 (by decide +kernel) (by decide +kernel)
theorem w_442 : (.native ⟨"java/lang/System", "arraycopy", "(Ljava/lang/Object;ILjava/lang/Object;II)V"⟩ : Cond) ∈ gtbl := gt_in 442 (by decide +kernel) (by decide +kernel)
/-- a character at i: where it ends, and its units -/
def chF (f : Nat → Int32) (n i : Nat) (q : Int32) : Option (Nat × List Int32) :=
  if hereV f n i < 32 ∨ ¬ hereV f n i ≤ 126 then none
  else if hereV f n i = 92 then
    (if (escV f n i q).1 < 0 ∨ lowU (escV f n i q).1 then none
     else if highU (escV f n i q).1 then
       (if hereV f n (escV f n i q).2 = 92 ∧ lowU (escV f n (escV f n i q).2 q).1 then some ((escV f n (escV f n i q).2 q).2, [(escV f n i q).1, (escV f n (escV f n i q).2 q).1]) else none)
     else some ((escV f n i q).2, [(escV f n i q).1]))
  else some (i + 1, [hereV f n i])
theorem chR_F {f : Nat → Int32} {n i j : Nat} {q : Int32} {L : List Int32} (h : chR f n i q j L) : chF f n i q = some (j, L) := by
  obtain ⟨h1, h2, h3 | ⟨h3, u, v, i1, h4, h5, h6, h7⟩⟩ := h
  · obtain ⟨h3, rfl, rfl⟩ := h3
    unfold chF
    rw [if_neg (fun h => h.elim h1 (fun h => h h2)), if_neg h3]
  · unfold chF
    rw [if_neg (fun h => h.elim h1 (fun h => h h2)), if_pos h3, ← h4, if_neg (fun h => h.elim h5 h6)]
    rcases h7 with ⟨h7, rfl, rfl⟩ | ⟨h7, h8, h9, h10, rfl⟩
    · rw [if_neg h7]
    · rw [if_pos h7, ← h9, if_pos ⟨h8, h10⟩]
theorem chN_F {f : Nat → Int32} {n i : Nat} {q : Int32} (h : chN f n i q) : chF f n i q = none := by
  unfold chF
  rcases h with h | h | ⟨h3, u, i1, h4, h5⟩
  · rw [if_pos (Or.inl h)]
  · rw [if_pos (Or.inr h)]
  · by_cases h0 : hereV f n i < 32 ∨ ¬ hereV f n i ≤ 126
    · rw [if_pos h0]
    · rw [if_neg h0, if_pos h3, ← h4]
      rcases h5 with h5 | h5 | ⟨h5, h6⟩
      · rw [if_pos (Or.inl h5)]
      · rw [if_pos (Or.inr h5)]
      · by_cases h7 : u < 0 ∨ lowU u
        · rw [if_pos h7]
        · rw [if_neg h7, if_pos h5]
          rcases h6 with h6 | ⟨v, j, h6, h8⟩
          · rw [if_neg (fun h => h6 h.1)]
          · rw [← h6, if_neg (fun h => h8 h.2)]
theorem chR_b {f : Nat → Int32} {n i j : Nat} {q : Int32} {L : List Int32} (h : chR f n i q j L) : i + L.length ≤ j ∧ j ≤ i + 12 ∧ i < n := by
  obtain ⟨h1, h2, h3 | ⟨h3, u, v, i1, h4, h5, h6, h7⟩⟩ := h
  · obtain ⟨h3, rfl, rfl⟩ := h3
    exact ⟨Nat.le_refl _, by omega, here_lt h1⟩
  · have b1 := escV_ge h4
    rcases h7 with ⟨h7, rfl, rfl⟩ | ⟨h7, h8, h9, h10, rfl⟩
    · exact ⟨by show i + 1 ≤ _; omega, by omega, here_lt h1⟩
    · have b2 := escV_ge h9
      exact ⟨by show i + 2 ≤ _; omega, by omega, here_lt h1⟩
/-- the characters from j on up to the quote q: where it is, and the units -/
def qtF (f : Nat → Int32) (n : Nat) (q : Int32) : Nat → Nat → List Int32 → Option (Nat × List Int32)
  | 0, j, L => if hereV f n j = q then some (j, L) else none
  | t + 1, j, L => if hereV f n j = q then some (j, L) else (chF f n j q).bind (fun x => qtF f n q t x.1 (L ++ x.2))
theorem qtF_q {f : Nat → Int32} {n : Nat} {q : Int32} {t j : Nat} {L : List Int32} (h : hereV f n j = q) : qtF f n q t j L = some (j, L) := by
  cases t <;> simp [qtF, h]
theorem qtF_0 {f : Nat → Int32} {n : Nat} {q : Int32} {j : Nat} {L : List Int32} (h : ¬ hereV f n j = q) : qtF f n q 0 j L = none := by simp [qtF, h]
theorem qtF_s {f : Nat → Int32} {n : Nat} {q : Int32} {t j j1 : Nat} {L L1 : List Int32} (h : ¬ hereV f n j = q) (hc : chF f n j q = some (j1, L1)) : qtF f n q (t + 1) j L = qtF f n q t j1 (L ++ L1) := by simp [qtF, h, hc]
theorem qtF_n {f : Nat → Int32} {n : Nat} {q : Int32} {t j : Nat} {L : List Int32} (h : ¬ hereV f n j = q) (hc : chF f n j q = none) : qtF f n q (t + 1) j L = none := by simp [qtF, h, hc]
def qtR (f : Nat → Int32) (n i : Nat) : Option (Nat × List Int32) := qtF f n (hereV f n i) 4096 (i + 1) []
def qtN (f : Nat → Int32) (n i : Nat) : Nat := ((qtR f n i).map (fun x => x.2.length)).getD 0
theorem wrL_app (L1 : List Int32) : ∀ (L : List Int32) (g : Nat → Int32) (k : Nat), wrL g k (L ++ L1) = wrL (wrL g k L) (k + L.length) L1 := by
  intro L
  induction L with
  | nil => intro g k; rfl
  | cons x xs ih =>
    intro g k
    show wrL (upd g k x) (k + 1) (xs ++ L1) = wrL (wrL (upd g k x) (k + 1) xs) (k + (xs.length + 1)) L1
    rw [ih]
    congr 1
    omega
theorem here_n {f : Nat → Int32} {n i j : Nat} (h : i < n) (e : hereV f n j = hereV f n i) : j < n := Classical.byContradiction (fun hn => by
  unfold hereV at e
  rw [if_neg hn, if_pos h] at e
  obtain ⟨k, hk, h2⟩ := pk_andE (f i) (m := 255) 8 (by decide)
  rw [h2] at e
  have h3 := congrArg Int32.toInt e
  rw [nI_toInt (by omega)] at h3
  have h4 : (-1 : Int32).toInt = -1 := by decide
  rw [h4] at h3
  omega)
abbrev b_Tape_quoted : ByteArray := prog_10_method_11_code
def y_Tape_quoted : MethodName := ⟨"QueryBench$Tape", "quoted", "()[I"⟩
abbrev k_Tape_quoted : Cond := .code y_Tape_quoted b_Tape_quoted 3 (some (.array .int))
theorem i_Tape_quoted : k_Tape_quoted ∈ gtbl := gt_in 408 (by decide +kernel) (by decide +kernel)
theorem d_Tape_quoted_0 : decode b_Tape_quoted 0 = .ok (.aload_n 0, 1) := by decide +kernel
theorem d_Tape_quoted_1 : decode b_Tape_quoted 1 = .ok (.invokevirtual 35, 3) := by decide +kernel
theorem d_Tape_quoted_4 : decode b_Tape_quoted 4 = .ok (.istore_n 1, 1) := by decide +kernel
theorem d_Tape_quoted_5 : decode b_Tape_quoted 5 = .ok (.aload_n 0, 1) := by decide +kernel
theorem d_Tape_quoted_6 : decode b_Tape_quoted 6 = .ok (.dup, 1) := by decide +kernel
theorem d_Tape_quoted_7 : decode b_Tape_quoted 7 = .ok (.getfield 29, 3) := by decide +kernel
theorem d_Tape_quoted_10 : decode b_Tape_quoted 10 = .ok (.iconst 1, 1) := by decide +kernel
theorem d_Tape_quoted_11 : decode b_Tape_quoted 11 = .ok (.iadd, 1) := by decide +kernel
theorem d_Tape_quoted_12 : decode b_Tape_quoted 12 = .ok (.putfield 29, 3) := by decide +kernel
theorem d_Tape_quoted_15 : decode b_Tape_quoted 15 = .ok (.aload_n 0, 1) := by decide +kernel
theorem d_Tape_quoted_16 : decode b_Tape_quoted 16 = .ok (.iconst 0, 1) := by decide +kernel
theorem d_Tape_quoted_17 : decode b_Tape_quoted 17 = .ok (.putfield 70, 3) := by decide +kernel
theorem d_Tape_quoted_20 : decode b_Tape_quoted 20 = .ok (.iconst 0, 1) := by decide +kernel
theorem d_Tape_quoted_21 : decode b_Tape_quoted 21 = .ok (.istore_n 2, 1) := by decide +kernel
theorem d_Tape_quoted_22 : decode b_Tape_quoted 22 = .ok (.iload_n 2, 1) := by decide +kernel
theorem d_Tape_quoted_23 : decode b_Tape_quoted 23 = .ok (.sipush 4096, 3) := by decide +kernel
theorem d_Tape_quoted_26 : decode b_Tape_quoted 26 = .ok (.if_icmp .ge 22, 3) := by decide +kernel
theorem d_Tape_quoted_29 : decode b_Tape_quoted 29 = .ok (.aload_n 0, 1) := by decide +kernel
theorem d_Tape_quoted_30 : decode b_Tape_quoted 30 = .ok (.invokevirtual 35, 3) := by decide +kernel
theorem d_Tape_quoted_33 : decode b_Tape_quoted 33 = .ok (.iload_n 1, 1) := by decide +kernel
theorem d_Tape_quoted_34 : decode b_Tape_quoted 34 = .ok (.if_icmp .eq 14, 3) := by decide +kernel
theorem d_Tape_quoted_37 : decode b_Tape_quoted 37 = .ok (.aload_n 0, 1) := by decide +kernel
theorem d_Tape_quoted_38 : decode b_Tape_quoted 38 = .ok (.iload_n 1, 1) := by decide +kernel
theorem d_Tape_quoted_39 : decode b_Tape_quoted 39 = .ok (.invokevirtual 73, 3) := by decide +kernel
theorem d_Tape_quoted_42 : decode b_Tape_quoted 42 = .ok (.iinc 2 1, 3) := by decide +kernel
theorem d_Tape_quoted_45 : decode b_Tape_quoted 45 = .ok (.goto (-23), 3) := by decide +kernel
theorem d_Tape_quoted_48 : decode b_Tape_quoted 48 = .ok (.aload_n 0, 1) := by decide +kernel
theorem d_Tape_quoted_49 : decode b_Tape_quoted 49 = .ok (.iload_n 1, 1) := by decide +kernel
theorem d_Tape_quoted_50 : decode b_Tape_quoted 50 = .ok (.invokevirtual 51, 3) := by decide +kernel
theorem d_Tape_quoted_53 : decode b_Tape_quoted 53 = .ok (.aload_n 0, 1) := by decide +kernel
theorem d_Tape_quoted_54 : decode b_Tape_quoted 54 = .ok (.getfield 70, 3) := by decide +kernel
theorem d_Tape_quoted_57 : decode b_Tape_quoted 57 = .ok (.newarray .int, 2) := by decide +kernel
theorem d_Tape_quoted_59 : decode b_Tape_quoted 59 = .ok (.astore_n 2, 1) := by decide +kernel
theorem d_Tape_quoted_60 : decode b_Tape_quoted 60 = .ok (.aload_n 0, 1) := by decide +kernel
theorem d_Tape_quoted_61 : decode b_Tape_quoted 61 = .ok (.getfield 15, 3) := by decide +kernel
theorem d_Tape_quoted_64 : decode b_Tape_quoted 64 = .ok (.iconst 0, 1) := by decide +kernel
theorem d_Tape_quoted_65 : decode b_Tape_quoted 65 = .ok (.aload_n 2, 1) := by decide +kernel
theorem d_Tape_quoted_66 : decode b_Tape_quoted 66 = .ok (.iconst 0, 1) := by decide +kernel
theorem d_Tape_quoted_67 : decode b_Tape_quoted 67 = .ok (.aload_n 0, 1) := by decide +kernel
theorem d_Tape_quoted_68 : decode b_Tape_quoted 68 = .ok (.getfield 70, 3) := by decide +kernel
theorem d_Tape_quoted_71 : decode b_Tape_quoted 71 = .ok (.invokestatic 76, 3) := by decide +kernel
theorem d_Tape_quoted_74 : decode b_Tape_quoted 74 = .ok (.aload_n 2, 1) := by decide +kernel
theorem d_Tape_quoted_75 : decode b_Tape_quoted 75 = .ok (.areturn, 1) := by decide +kernel
set_option maxHeartbeats 4000000 in
set_option maxRecDepth 100000 in
/-- Tape.quoted -/
theorem c_Tape_quoted (l : Launch) (hl9 : l.stackTraces = false) (dC : Nat → ClassId) (dI : Nat → Nat → Nat) (cB cI : ClassId) (h0 qb qu : Nat) (sz : Heap) (uc ln pl : Int32) (f g : Nat → Int32) (n i : Nat) (hn0 : n ≤ 4096) (hin : i < n) : vx_Met l y_Tape_quoted (k_Tape_quoted :: gtbl) ({ frames := 10, cells := 1, slots := 6 + qtN f n i, locals := 160 }) (va_Pc [.ref h0] (mx dC dI [(h0, .inr (8, [.ref qb, .ref qu, .int uc, .int ln, .int (nI n), .int (nI i), .int pl])), (qb, .inl (cB, 4096, .inl f)), (qu, .inl (cI, 4096, .inl g))] [(cB, .byte), (cI, .int)] sz)) (va_Qr (fun (u : Nat × List Int32) => qtR f n i = some u) (fun u a t => mz dC dI [(h0, .inr (8, [.ref qb, .ref qu, .int (nI u.2.length), .int ln, .int (nI n), .int (nI (u.1 + 1)), .int pl])), (qb, .inl (cB, 4096, .inl f)), (qu, .inl (cI, 4096, .inl ((wrL g 0 u.2)))), (a, .inl (cI, u.2.length, .inl (va_cpy (wrL g 0 u.2) (fun _ => 0) 0 0 u.2.length)))] [(cB, .byte), (cI, .int)] (va_A [(h0, .inr (8, [.ref qb, .ref qu, .int uc, .int ln, .int (nI n), .int (nI i), .int pl])), (qb, .inl (cB, 4096, .inl f)), (qu, .inl (cI, 4096, .inl g))] sz.size) t ∧ szk sz t.heap 1 u.2.length) (va_A [(h0, .inr (8, [.ref qb, .ref qu, .int uc, .int ln, .int (nI n), .int (nI i), .int pl])), (qb, .inl (cB, 4096, .inl f)), (qu, .inl (cI, 4096, .inl g))] sz.size)) (vx_X (fun u : Int32 × Int32 × Int32 × (Nat → Int32) => qtR f n i = none) (fun E u t => E = "java/lang/UnsupportedOperationException" ∧ mz dC dI [(h0, .inr (8, [.ref qb, .ref qu, .int u.2.1, .int ln, .int (nI n), .int u.1, .int u.2.2.1])), (qb, .inl (cB, 4096, .inl f)), (qu, .inl (cI, 4096, .inl u.2.2.2))] [(cB, .byte), (cI, .int)] (va_A [(h0, .inr (8, [.ref qb, .ref qu, .int uc, .int ln, .int (nI n), .int (nI i), .int pl])), (qb, .inl (cB, 4096, .inl f)), (qu, .inl (cI, 4096, .inl g))] sz.size) t) (va_A [(h0, .inr (8, [.ref qb, .ref qu, .int uc, .int ln, .int (nI n), .int (nI i), .int pl])), (qb, .inl (cB, 4096, .inl f)), (qu, .inl (cI, 4096, .inl g))] sz.size)) 1 (6 + qtN f n i) (va_A [(h0, .inr (8, [.ref qb, .ref qu, .int uc, .int ln, .int (nI n), .int (nI i), .int pl])), (qb, .inl (cB, 4096, .inl f)), (qu, .inl (cI, 4096, .inl g))] sz.size) := by
  refine vx_ofW (cc := b_Tape_quoted) (maxL := 3) (ret := (some (.array .int))) (by decide) rfl ?_
  intro p e s m args below meth c s₁ B hml hex hv
  obtain ⟨rfl, ⟨hsz, hP, hK, hD0⟩, hN, hZ⟩ := hv
  have hx := B.exec
  have hb := B.bytes
  have hr := B.returns
  have hts0 := atoms_spec (ws := k_Tape_quoted :: gtbl) B.pre
  have hts := fun w h => hts0 w (List.mem_cons_of_mem _ h)
  have hown : s.vm.findClass R_Tape = some m.cls := findClass_of_methodNamed B.named
  have hlocks := B.notSynchronized
  subst hsz
  have hD := hD0.self (sz := s.heap.size)
  generalize hAe : va_A [(h0, .inr (8, [.ref qb, .ref qu, .int uc, .int ln, .int (nI n), .int (nI i), .int pl])), (qb, .inl (cB, 4096, .inl f)), (qu, .inl (cI, 4096, .inl g))] s.heap.size = A at hD hZ ⊢
  have hA : ∀ q : Nat, s.heap.size ≤ q → A q := fun q h => by rw [← hAe]; exact Or.inr h
  have hS : va_S A s.heap s.heap [] := va_S.rf
  have hP : va_P (dC, dI) classes [(h0, .inr (8, [.ref qb, .ref qu, .int uc, .int ln, .int (nI n), .int (nI i), .int pl])), (qb, .inl (cB, 4096, .inl f)), (qu, .inl (cI, 4096, .inl g))] s.heap := hP
  have hl := lv_entry ([.ref h0]) (n := 3) (Nat.le_of_ble_eq_true rfl)
  rw [lg_entry_eq]
  generalize (lg_sl ([.ref h0]) ++ List.replicate (3 - (lg_sl ([.ref h0])).length) Slot.unset).toArray = ls at hl ⊢
  have hl : lv_has ls 3 [(0, .ref h0)] := hl
  refine lv_aload_n hx hb d_Tape_quoted_0 rfl (lv_at hl 0 rfl) ?_
  have hPc := hP.sub (ws' := [(h0, .inr (8, [.ref qb, .ref qu, .int uc, .int ln, .int (nI n), .int (nI i), .int pl])), (qb, .inl (cB, 4096, .inl f))]) [0, 1] rfl
  have hDc := hD.sub (ws' := [(h0, .inr (8, [.ref qb, .ref qu, .int uc, .int ln, .int (nI n), .int (nI i), .int pl])), (qb, .inl (cB, 4096, .inl f))]) [0, 1] (by decide) rfl
  have hKc := hK.sub (tys' := [(cB, .byte)]) [0] rfl
  have hFc := va_free (wc := [(h0, .inr (8, [.ref qb, .ref qu, .int uc, .int ln, .int (nI n), .int (nI i), .int pl])), (qb, .inl (cB, 4096, .inl f))]) hD hS hA [0, 1] rfl
  refine va_calli (va_runV (As := []) (rest := []) ⟨hx, hb, hml, hown, hts⟩ (c_Tape_here l dC dI cB h0 qb s.heap (.ref qu) uc ln pl f n i (by omega) (by omega)) (cwV 0 hts (gt_V (own := R_Tape) (C := R_Tape) (i := 35) (y := y_Tape_here) i_Tape_here w_396 w_363 w_364 w_2) rfl rfl rfl (by decide +kernel) ⟨Nat.le_of_ble_eq_true rfl, Nat.le_of_ble_eq_true rfl⟩) ⟨mp_blind, va_recv hKc hPc (ci := 8) (q0 := 0) rfl rfl, fun U hU hW => ⟨rfl, hU, by rw [hU]; exact hPc, va_K.moved hW.alike hKc, hDc.weaken (fun _ _ _ _ => trivial)⟩⟩ rfl rfl hl.1 rfl (lv_room (Nat.le_of_ble_eq_true rfl)) d_Tape_quoted_1 ⟨Nat.le_of_ble_eq_true rfl, Nat.le_of_ble_eq_true rfl⟩) hS (fun q _ h => hFc q h) hFc (fun q _u t H1 locs ht hvm hw hB hz1 hk1 hS => ?_)
  obtain ⟨hP1, hK1, hD1⟩ := hB
  rw [ht] at hP1
  obtain ⟨hP, hD⟩ := va_join (wr := [(qu, .inl (cI, 4096, .inl g))]) (w1 := [(h0, .inr (8, [.ref qb, .ref qu, .int uc, .int ln, .int (nI n), .int (nI i), .int pl])), (qb, .inl (cB, 4096, .inl f))]) hP hD [0, 1] [2] rfl rfl (by decide) (by decide) hk1 hFc hP1 hD1
  generalize H1 = H at hP hS ⊢
  have hP : va_P (dC, dI) classes [(qu, .inl (cI, 4096, .inl g)), (h0, .inr (8, [.ref qb, .ref qu, .int uc, .int ln, .int (nI n), .int (nI i), .int pl])), (qb, .inl (cB, 4096, .inl f))] H := hP
  have hD : va_D A [(qu, .inl (cI, 4096, .inl g)), (h0, .inr (8, [.ref qb, .ref qu, .int uc, .int ln, .int (nI n), .int (nI i), .int pl])), (qb, .inl (cB, 4096, .inl f))] := hD
  have hP := hP.sub (ws' := [(h0, .inr (8, [.ref qb, .ref qu, .int uc, .int ln, .int (nI n), .int (nI i), .int pl])), (qb, .inl (cB, 4096, .inl f)), (qu, .inl (cI, 4096, .inl g))]) [1, 2, 0] rfl
  have hD := hD.sub (ws' := [(h0, .inr (8, [.ref qb, .ref qu, .int uc, .int ln, .int (nI n), .int (nI i), .int pl])), (qb, .inl (cB, 4096, .inl f)), (qu, .inl (cI, 4096, .inl g))]) [1, 2, 0] (by decide) rfl
  have h_q : q = hereV f n i := hw
  refine lv_istore_n (lv' := [(1, .int q), (0, .ref h0)]) hx hb d_Tape_quoted_4 rfl hl (by decide) rfl (fun ls hl => ?_)
  refine lv_aload_n hx hb d_Tape_quoted_5 rfl (lv_at hl 1 rfl) ?_
  refine lv_dup hx hb d_Tape_quoted_6 rfl ?_
  refine va_get (D := (dC, dI)) (ci := 8) (v := .int (nI i)) (C := R_Tape) (T := F_Tape) (N := 7) hx hb hts in_Tape hown hK hP 0 rfl rfl 5 (by decide) (hts _ w_54) (fun _ h9 => h9) rfl d_Tape_quoted_7 ?_
  refine lv_iconst (v := 1) hx hb d_Tape_quoted_10 (by decide) ?_
  refine lv_iadd hx hb d_Tape_quoted_11 ?_
  refine W.eq (g2 := F0 m 12 ls [.int (nI (i + 1)), .ref h0]) (by rw [show ((nI i) + 1) = (nI (i + 1)) from nI_1 _]) ?_
  refine va_put (D := (dC, dI)) (ci := 8) (v := .int (nI (i + 1))) (ty := .int) (C := R_Tape) (T := F_Tape) (N := 7) hx hb hts in_Tape t_Tape t_Tape_ok n_Tape hown hK hP hD hS 0 rfl rfl 5 (by decide) (hts _ w_54) (fun _ h9 => h9) rfl (by decide +kernel) rfl rfl (Nat.le_of_ble_eq_true rfl) d_Tape_quoted_12 (fun H locs hP hD hS => ?_)
  have hP : va_P (dC, dI) classes [(h0, .inr (8, [.ref qb, .ref qu, .int uc, .int ln, .int (nI n), .int (nI (i + 1)), .int pl])), (qb, .inl (cB, 4096, .inl f)), (qu, .inl (cI, 4096, .inl g))] H := hP
  have hD : va_D A [(h0, .inr (8, [.ref qb, .ref qu, .int uc, .int ln, .int (nI n), .int (nI (i + 1)), .int pl])), (qb, .inl (cB, 4096, .inl f)), (qu, .inl (cI, 4096, .inl g))] := hD
  refine lv_aload_n hx hb d_Tape_quoted_15 rfl (lv_at hl 1 rfl) ?_
  refine lv_iconst (v := 0) hx hb d_Tape_quoted_16 (by decide) ?_
  refine va_put (D := (dC, dI)) (ci := 8) (v := .int 0) (ty := .int) (C := R_Tape) (T := F_Tape) (N := 7) hx hb hts in_Tape t_Tape t_Tape_ok n_Tape hown hK hP hD hS 0 rfl rfl 2 (by decide) (hts _ w_46) (fun _ h9 => h9) rfl (by decide +kernel) rfl rfl (Nat.le_of_ble_eq_true rfl) d_Tape_quoted_17 (fun H locs hP hD hS => ?_)
  have hP : va_P (dC, dI) classes [(h0, .inr (8, [.ref qb, .ref qu, .int 0, .int ln, .int (nI n), .int (nI (i + 1)), .int pl])), (qb, .inl (cB, 4096, .inl f)), (qu, .inl (cI, 4096, .inl g))] H := hP
  have hD : va_D A [(h0, .inr (8, [.ref qb, .ref qu, .int 0, .int ln, .int (nI n), .int (nI (i + 1)), .int pl])), (qb, .inl (cB, 4096, .inl f)), (qu, .inl (cI, 4096, .inl g))] := hD
  refine lv_iconst (v := 0) hx hb d_Tape_quoted_20 (by decide) ?_
  refine lv_istore_n (lv' := [(2, .int 0), (1, .int q), (0, .ref h0)]) hx hb d_Tape_quoted_21 rfl hl (by decide) rfl (fun ls hl => ?_)
  refine w_loop (D := (dC, dI)) (cl := classes) (A := A) (H0 := s.heap) (nL := 3) 22 (σ := Nat × Nat × List Int32) (fun ⟨tt, j, L⟩ => tt ≤ 4096 ∧ qtF f n q tt j L = qtF f n q 4096 (i + 1) [] ∧ L.length ≤ j ∧ j ≤ i + 1 + 12 * (4096 - tt)) (fun ⟨tt, j, L⟩ => tt) (fun ⟨tt, j, L⟩ => [(h0, .inr (8, [.ref qb, .ref qu, .int (nI L.length), .int ln, .int (nI n), .int (nI j), .int pl])), (qb, .inl (cB, 4096, .inl f)), (qu, .inl (cI, 4096, .inl ((wrL g 0 L))))]) (fun ⟨tt, j, L⟩ => [(0, .ref h0), (1, .int q), (2, .int (nI (4096 - tt)))]) ?_ (4096, i + 1, []) ⟨by omega, rfl, Nat.zero_le _, by omega⟩ hP hD hS (lv_sub hl [2, 1, 0] rfl)
  rintro ⟨tt, j, L⟩ H locs ls hI ih hP hD hS hl
  have hP : va_P (dC, dI) classes [(h0, .inr (8, [.ref qb, .ref qu, .int (nI L.length), .int ln, .int (nI n), .int (nI j), .int pl])), (qb, .inl (cB, 4096, .inl f)), (qu, .inl (cI, 4096, .inl ((wrL g 0 L))))] H := hP
  have hD : va_D A [(h0, .inr (8, [.ref qb, .ref qu, .int (nI L.length), .int ln, .int (nI n), .int (nI j), .int pl])), (qb, .inl (cB, 4096, .inl f)), (qu, .inl (cI, 4096, .inl ((wrL g 0 L))))] := hD
  have hl : lv_has ls 3 [(0, .ref h0), (1, .int q), (2, .int (nI (4096 - tt)))] := hl
  obtain ⟨hI1, hI2, hI3, hI4⟩ := hI
  refine lv_iload_n hx hb d_Tape_quoted_22 rfl (lv_at hl 2 rfl) ?_
  refine lv_sipush (v := 4096) hx hb d_Tape_quoted_23 (by decide) ?_
  refine lv_icmp_ge (tgt := 48) hx hb d_Tape_quoted_26 (by decide) (fun c26 => ?_) (fun c26 => ?_)
  · refine lv_aload_n hx hb d_Tape_quoted_48 rfl (lv_at hl 0 rfl) ?_
    refine lv_iload_n hx hb d_Tape_quoted_49 rfl (lv_at hl 1 rfl) ?_
    have hPc := hP.sub (ws' := [(h0, .inr (8, [.ref qb, .ref qu, .int (nI L.length), .int ln, .int (nI n), .int (nI j), .int pl])), (qb, .inl (cB, 4096, .inl f))]) [0, 1] rfl
    have hDc := hD.sub (ws' := [(h0, .inr (8, [.ref qb, .ref qu, .int (nI L.length), .int ln, .int (nI n), .int (nI j), .int pl])), (qb, .inl (cB, 4096, .inl f))]) [0, 1] (by decide) rfl
    have hKc := hK.sub (tys' := [(cB, .byte)]) [0] rfl
    have hFc := va_free (wc := [(h0, .inr (8, [.ref qb, .ref qu, .int (nI L.length), .int ln, .int (nI n), .int (nI j), .int pl])), (qb, .inl (cB, 4096, .inl f))]) hD hS hA [0, 1] rfl
    refine w_same (fun hq0 => ?_)
    refine vx_callv (vx_runV (As := [.int q]) (rest := []) ⟨hx, hb, hml, hown, hts⟩ (c_Tape_take l hl9 dC dI cB h0 qb H (.ref qu) (nI L.length) ln pl f n j q (by omega) (by omega)) (cwV 1 hts (gt_V (own := R_Tape) (C := R_Tape) (i := 51) (y := y_Tape_take) i_Tape_take w_436 w_437 w_438 w_2) rfl rfl rfl (by decide +kernel) ⟨Nat.le_of_ble_eq_true rfl, Nat.le_of_ble_eq_true rfl⟩) ⟨mx_blind, va_recv hKc hPc (ci := 8) (q0 := 0) rfl rfl, fun U hU hW => ⟨rfl, ⟨hU, by rw [hU]; exact hPc, va_K.moved hW.alike hKc, hDc.weaken (fun _ _ _ _ => trivial)⟩, hN.warm hW, by rw [hU]; exact ZX.moved' hW.alike (ZX.narrow' (ZX.kept' hZ hS.2.1) hFc)⟩⟩ rfl rfl hl.1 rfl (lv_room (Nat.le_of_ble_eq_true rfl)) d_Tape_quoted_50 ⟨Nat.le_of_ble_eq_true rfl, (by show _ ≤ 6 + qtN f n i; omega)⟩) hS (fun q _ h => hFc q h) hFc (fun q _ h => hFc q h) (fun E ce q9 _u t H1 locs ht hvm hw hB hz1 hk1 hS hce hcv hcl => ?_) (fun _u t H1 locs ht hvm hw hB hz1 hk1 hS => ?_)
    · obtain ⟨hE, hP1, hK1, hD1⟩ := hB
      rw [ht] at hP1
      obtain ⟨hP, hD⟩ := va_join (wr := [(qu, .inl (cI, 4096, .inl ((wrL g 0 L))))]) (w1 := [(h0, .inr (8, [.ref qb, .ref qu, .int (nI L.length), .int ln, .int (nI n), .int (nI j), .int (nI j)])), (qb, .inl (cB, 4096, .inl f))]) hP hD [0, 1] [2] rfl rfl (by decide) (by decide) hk1 hFc hP1 hD1
      generalize H1 = H at hP hS hce ⊢
      have hP : va_P (dC, dI) classes [(qu, .inl (cI, 4096, .inl ((wrL g 0 L)))), (h0, .inr (8, [.ref qb, .ref qu, .int (nI L.length), .int ln, .int (nI n), .int (nI j), .int (nI j)])), (qb, .inl (cB, 4096, .inl f))] H := hP
      have hD : va_D A [(qu, .inl (cI, 4096, .inl ((wrL g 0 L)))), (h0, .inr (8, [.ref qb, .ref qu, .int (nI L.length), .int ln, .int (nI n), .int (nI j), .int (nI j)])), (qb, .inl (cB, 4096, .inl f))] := hD
      have hP := hP.sub (ws' := [(h0, .inr (8, [.ref qb, .ref qu, .int (nI L.length), .int ln, .int (nI n), .int (nI j), .int (nI j)])), (qb, .inl (cB, 4096, .inl f)), (qu, .inl (cI, 4096, .inl ((wrL g 0 L))))]) [1, 2, 0] rfl
      have hD := hD.sub (ws' := [(h0, .inr (8, [.ref qb, .ref qu, .int (nI L.length), .int ln, .int (nI n), .int (nI j), .int (nI j)])), (qb, .inl (cB, 4096, .inl f)), (qu, .inl (cI, 4096, .inl ((wrL g 0 L))))]) [1, 2, 0] (by decide) rfl
      exact vx_out (fun x hx => (hex x hx).elim) hlocks hce hcv hcl (fun t ht2 ha => ⟨(nI j, nI L.length, nI j, wrL g 0 L), (by show qtR f n i = none; unfold qtR; rw [← h_q, ← hI2]; have h0 : tt = 0 := Nat.eq_zero_of_not_pos (fun h => absurd c26 (by rw [show (4096 : Int32) = nI 4096 from rfl, nI_leI (by omega) (by omega)]; omega)); subst h0; exact qtF_0 hw), ⟨hE, by rw [ht2]; exact hP, va_K.moved ha hK, hD⟩, hS.F ht2⟩) hS.2.2 (Nat.le_of_ble_eq_true rfl) (by omega)
    · obtain ⟨⟨hP1, hK1, hD1⟩, hz9⟩ := hB
      rw [ht] at hP1
      rw [ht] at hz9
      refine w_tight (hq0.trans hz9) ?_
      have hq0 := hq0.trans hz9
      obtain ⟨hP, hD⟩ := va_join (wr := [(qu, .inl (cI, 4096, .inl ((wrL g 0 L))))]) (w1 := [(h0, .inr (8, [.ref qb, .ref qu, .int (nI L.length), .int ln, .int (nI n), .int (nI (j + 1)), .int pl])), (qb, .inl (cB, 4096, .inl f))]) hP hD [0, 1] [2] rfl rfl (by decide) (by decide) hk1 hFc hP1 hD1
      generalize H1 = H at hP hS ⊢
      have hP : va_P (dC, dI) classes [(qu, .inl (cI, 4096, .inl ((wrL g 0 L)))), (h0, .inr (8, [.ref qb, .ref qu, .int (nI L.length), .int ln, .int (nI n), .int (nI (j + 1)), .int pl])), (qb, .inl (cB, 4096, .inl f))] H := hP
      have hD : va_D A [(qu, .inl (cI, 4096, .inl ((wrL g 0 L)))), (h0, .inr (8, [.ref qb, .ref qu, .int (nI L.length), .int ln, .int (nI n), .int (nI (j + 1)), .int pl])), (qb, .inl (cB, 4096, .inl f))] := hD
      have hP := hP.sub (ws' := [(h0, .inr (8, [.ref qb, .ref qu, .int (nI L.length), .int ln, .int (nI n), .int (nI (j + 1)), .int pl])), (qb, .inl (cB, 4096, .inl f)), (qu, .inl (cI, 4096, .inl ((wrL g 0 L))))]) [1, 2, 0] rfl
      have hD := hD.sub (ws' := [(h0, .inr (8, [.ref qb, .ref qu, .int (nI L.length), .int ln, .int (nI n), .int (nI (j + 1)), .int pl])), (qb, .inl (cB, 4096, .inl f)), (qu, .inl (cI, 4096, .inl ((wrL g 0 L))))]) [1, 2, 0] (by decide) rfl
      have hw : hereV f n j = q := hw
      have hq1 : qtR f n i = some (j, L) := by unfold qtR; rw [← h_q, ← hI2]; exact qtF_q hw
      have hjn : j < n := here_n hin (hw.trans h_q)
      have hqn : qtN f n i = L.length := by unfold qtN; rw [hq1]; rfl
      refine lv_aload_n hx hb d_Tape_quoted_53 rfl (lv_at hl 0 rfl) ?_
      refine va_get (D := (dC, dI)) (ci := 8) (v := .int (nI L.length)) (C := R_Tape) (T := F_Tape) (N := 7) hx hb hts in_Tape hown hK hP 0 rfl rfl 2 (by decide) (hts _ w_46) (fun _ h9 => h9) rfl d_Tape_quoted_54 ?_
      refine va_newa (atype := .int) (ty := .int) (N' := L.length) (a0 := (L.length, .inl (fun _ => 0))) hx hb (hts _ w_73) rfl hK hP hD hS hA (fun _ => rfl) (nI_pos (by omega)) (nI_clamp (by omega)) (by show L.length * 4 ≤ 536870912; omega) (Nat.le_of_ble_eq_true rfl) (by show _ ≤ 6 + qtN f n i; omega) d_Tape_quoted_57 (fun qn cA H hK hP hD hS => ?_)
      obtain rfl : cI = cA := Option.some.inj ((hK.2 1 _ rfl).2.symm.trans (hK.2 2 _ rfl).2)
      have hK := hK.sub (tys' := [(cB, .byte), (cI, .int)]) [0, 1] rfl
      have hP : va_P (dC, dI) classes [(h0, .inr (8, [.ref qb, .ref qu, .int (nI L.length), .int ln, .int (nI n), .int (nI (j + 1)), .int pl])), (qb, .inl (cB, 4096, .inl f)), (qu, .inl (cI, 4096, .inl ((wrL g 0 L)))), (qn, .inl (cI, L.length, .inl (fun _ => 0)))] H := hP
      have hD : va_D A [(h0, .inr (8, [.ref qb, .ref qu, .int (nI L.length), .int ln, .int (nI n), .int (nI (j + 1)), .int pl])), (qb, .inl (cB, 4096, .inl f)), (qu, .inl (cI, 4096, .inl ((wrL g 0 L)))), (qn, .inl (cI, L.length, .inl (fun _ => 0)))] := hD
      refine lv_astore_n (lv' := [(2, .ref qn), (0, .ref h0), (1, .int q)]) hx hb d_Tape_quoted_59 rfl hl (by decide) rfl (fun ls hl => ?_)
      refine lv_aload_n hx hb d_Tape_quoted_60 rfl (lv_at hl 1 rfl) ?_
      refine va_get (D := (dC, dI)) (ci := 8) (v := .ref qu) (C := R_Tape) (T := F_Tape) (N := 7) hx hb hts in_Tape hown hK hP 0 rfl rfl 1 (by decide) (hts _ w_45) (fun _ h9 => h9) rfl d_Tape_quoted_61 ?_
      refine lv_iconst (v := 0) hx hb d_Tape_quoted_64 (by decide) ?_
      refine lv_aload_n hx hb d_Tape_quoted_65 rfl (lv_at hl 0 rfl) ?_
      refine lv_iconst (v := 0) hx hb d_Tape_quoted_66 (by decide) ?_
      refine lv_aload_n hx hb d_Tape_quoted_67 rfl (lv_at hl 1 rfl) ?_
      refine va_get (D := (dC, dI)) (ci := 8) (v := .int (nI L.length)) (C := R_Tape) (T := F_Tape) (N := 7) hx hb hts in_Tape hown hK hP 0 rfl rfl 2 (by decide) (hts _ w_46) (fun _ h9 => h9) rfl d_Tape_quoted_68 ?_
      refine va_copyi (q0 := 2) (q1 := 3) (t0 := 1) (t1 := 1) hx hb (hml.trans hl.1.symm) hown (hts _ w_440) (hts _ w_442) (hts _ w_441) (hts _ w_17) hK hP hD hS rfl rfl rfl rfl rfl (by decide) (by decide) (nI_pos (by omega)) (by rw [nI_clamp (by omega)]; show 0 + L.length ≤ 4096; omega) (by rw [nI_clamp (by omega)]; show 0 + L.length ≤ L.length; omega) (fun _ _ => rfl) (Nat.le_of_ble_eq_true rfl) (Nat.le_of_ble_eq_true rfl) d_Tape_quoted_71 (fun H locs hP hD hS => ?_)
      rw [show (nI L.length).toNatClampNeg = L.length from nI_clamp (by omega)] at hP hD
      have hP : va_P (dC, dI) classes [(h0, .inr (8, [.ref qb, .ref qu, .int (nI L.length), .int ln, .int (nI n), .int (nI (j + 1)), .int pl])), (qb, .inl (cB, 4096, .inl f)), (qu, .inl (cI, 4096, .inl ((wrL g 0 L)))), (qn, .inl (cI, L.length, .inl (va_cpy (wrL g 0 L) (fun _ => 0) 0 0 L.length)))] H := hP
      have hD : va_D A [(h0, .inr (8, [.ref qb, .ref qu, .int (nI L.length), .int ln, .int (nI n), .int (nI (j + 1)), .int pl])), (qb, .inl (cB, 4096, .inl f)), (qu, .inl (cI, 4096, .inl ((wrL g 0 L)))), (qn, .inl (cI, L.length, .inl (va_cpy (wrL g 0 L) (fun _ => 0) 0 0 L.length)))] := hD
      refine lv_aload_n hx hb d_Tape_quoted_74 rfl (lv_at hl 0 rfl) ?_
      refine w_same (fun hq => ?_)
      refine W.widen (k := 1) (n := 6 + qtN f n i) (Nat.le_of_ble_eq_true rfl) (by omega) ?_
      refine vx_ret ?_
      exact W.aret (v := .ref qn) hx hb hr (Or.inr ⟨_, rfl⟩) (Or.inr ⟨_, rfl⟩) (fun t ht hW => ⟨⟨(j, L), qn, rfl, hq1, ⟨by rw [ht]; exact hP, va_K.moved hW.alike hK, hD⟩, by rw [ht]; exact hq.mono (Nat.le_of_ble_eq_true rfl) (by show _ ≤ L.length; omega)⟩, hS.F ht⟩) hS.2.2 d_Tape_quoted_75
  · refine lv_aload_n hx hb d_Tape_quoted_29 rfl (lv_at hl 0 rfl) ?_
    have hPc := hP.sub (ws' := [(h0, .inr (8, [.ref qb, .ref qu, .int (nI L.length), .int ln, .int (nI n), .int (nI j), .int pl])), (qb, .inl (cB, 4096, .inl f))]) [0, 1] rfl
    have hDc := hD.sub (ws' := [(h0, .inr (8, [.ref qb, .ref qu, .int (nI L.length), .int ln, .int (nI n), .int (nI j), .int pl])), (qb, .inl (cB, 4096, .inl f))]) [0, 1] (by decide) rfl
    have hKc := hK.sub (tys' := [(cB, .byte)]) [0] rfl
    have hFc := va_free (wc := [(h0, .inr (8, [.ref qb, .ref qu, .int (nI L.length), .int ln, .int (nI n), .int (nI j), .int pl])), (qb, .inl (cB, 4096, .inl f))]) hD hS hA [0, 1] rfl
    refine va_calli (va_runV (As := []) (rest := []) ⟨hx, hb, hml, hown, hts⟩ (c_Tape_here l dC dI cB h0 qb H (.ref qu) ((nI L.length)) ln pl f n j (by omega) (by omega)) (cwV 0 hts (gt_V (own := R_Tape) (C := R_Tape) (i := 35) (y := y_Tape_here) i_Tape_here w_396 w_363 w_364 w_2) rfl rfl rfl (by decide +kernel) ⟨Nat.le_of_ble_eq_true rfl, Nat.le_of_ble_eq_true rfl⟩) ⟨mp_blind, va_recv hKc hPc (ci := 8) (q0 := 0) rfl rfl, fun U hU hW => ⟨rfl, hU, by rw [hU]; exact hPc, va_K.moved hW.alike hKc, hDc.weaken (fun _ _ _ _ => trivial)⟩⟩ rfl rfl hl.1 rfl (lv_room (Nat.le_of_ble_eq_true rfl)) d_Tape_quoted_30 ⟨Nat.le_of_ble_eq_true rfl, Nat.le_of_ble_eq_true rfl⟩) hS (fun q _ h => hFc q h) hFc (fun r2 _u t H1 locs ht hvm hw hB hz1 hk1 hS => ?_)
    obtain ⟨hP1, hK1, hD1⟩ := hB
    rw [ht] at hP1
    obtain ⟨hP, hD⟩ := va_join (wr := [(qu, .inl (cI, 4096, .inl ((wrL g 0 L))))]) (w1 := [(h0, .inr (8, [.ref qb, .ref qu, .int (nI L.length), .int ln, .int (nI n), .int (nI j), .int pl])), (qb, .inl (cB, 4096, .inl f))]) hP hD [0, 1] [2] rfl rfl (by decide) (by decide) hk1 hFc hP1 hD1
    generalize H1 = H at hP hS ⊢
    have hP : va_P (dC, dI) classes [(qu, .inl (cI, 4096, .inl ((wrL g 0 L)))), (h0, .inr (8, [.ref qb, .ref qu, .int (nI L.length), .int ln, .int (nI n), .int (nI j), .int pl])), (qb, .inl (cB, 4096, .inl f))] H := hP
    have hD : va_D A [(qu, .inl (cI, 4096, .inl ((wrL g 0 L)))), (h0, .inr (8, [.ref qb, .ref qu, .int (nI L.length), .int ln, .int (nI n), .int (nI j), .int pl])), (qb, .inl (cB, 4096, .inl f))] := hD
    have hP := hP.sub (ws' := [(h0, .inr (8, [.ref qb, .ref qu, .int (nI L.length), .int ln, .int (nI n), .int (nI j), .int pl])), (qb, .inl (cB, 4096, .inl f)), (qu, .inl (cI, 4096, .inl ((wrL g 0 L))))]) [1, 2, 0] rfl
    have hD := hD.sub (ws' := [(h0, .inr (8, [.ref qb, .ref qu, .int (nI L.length), .int ln, .int (nI n), .int (nI j), .int pl])), (qb, .inl (cB, 4096, .inl f)), (qu, .inl (cI, 4096, .inl ((wrL g 0 L))))]) [1, 2, 0] (by decide) rfl
    have h_r2 : r2 = hereV f n j := hw
    refine lv_iload_n hx hb d_Tape_quoted_33 rfl (lv_at hl 1 rfl) ?_
    refine lv_icmp_eq (tgt := 48) hx hb d_Tape_quoted_34 (by decide) (fun c34 => ?_) (fun c34 => ?_)
    · refine lv_aload_n hx hb d_Tape_quoted_48 rfl (lv_at hl 0 rfl) ?_
      refine lv_iload_n hx hb d_Tape_quoted_49 rfl (lv_at hl 1 rfl) ?_
      have hPc := hP.sub (ws' := [(h0, .inr (8, [.ref qb, .ref qu, .int (nI L.length), .int ln, .int (nI n), .int (nI j), .int pl])), (qb, .inl (cB, 4096, .inl f))]) [0, 1] rfl
      have hDc := hD.sub (ws' := [(h0, .inr (8, [.ref qb, .ref qu, .int (nI L.length), .int ln, .int (nI n), .int (nI j), .int pl])), (qb, .inl (cB, 4096, .inl f))]) [0, 1] (by decide) rfl
      have hKc := hK.sub (tys' := [(cB, .byte)]) [0] rfl
      have hFc := va_free (wc := [(h0, .inr (8, [.ref qb, .ref qu, .int (nI L.length), .int ln, .int (nI n), .int (nI j), .int pl])), (qb, .inl (cB, 4096, .inl f))]) hD hS hA [0, 1] rfl
      refine w_same (fun hq0 => ?_)
      refine vx_callv (vx_runV (As := [.int q]) (rest := []) ⟨hx, hb, hml, hown, hts⟩ (c_Tape_take l hl9 dC dI cB h0 qb H (.ref qu) (nI L.length) ln pl f n j q (by omega) (by omega)) (cwV 1 hts (gt_V (own := R_Tape) (C := R_Tape) (i := 51) (y := y_Tape_take) i_Tape_take w_436 w_437 w_438 w_2) rfl rfl rfl (by decide +kernel) ⟨Nat.le_of_ble_eq_true rfl, Nat.le_of_ble_eq_true rfl⟩) ⟨mx_blind, va_recv hKc hPc (ci := 8) (q0 := 0) rfl rfl, fun U hU hW => ⟨rfl, ⟨hU, by rw [hU]; exact hPc, va_K.moved hW.alike hKc, hDc.weaken (fun _ _ _ _ => trivial)⟩, hN.warm hW, by rw [hU]; exact ZX.moved' hW.alike (ZX.narrow' (ZX.kept' hZ hS.2.1) hFc)⟩⟩ rfl rfl hl.1 rfl (lv_room (Nat.le_of_ble_eq_true rfl)) d_Tape_quoted_50 ⟨Nat.le_of_ble_eq_true rfl, (by show _ ≤ 6 + qtN f n i; omega)⟩) hS (fun q _ h => hFc q h) hFc (fun q _ h => hFc q h) (fun E ce q9 _u t H1 locs ht hvm hw hB hz1 hk1 hS hce hcv hcl => ?_) (fun _u t H1 locs ht hvm hw hB hz1 hk1 hS => ?_)
      · obtain ⟨hE, hP1, hK1, hD1⟩ := hB
        rw [ht] at hP1
        obtain ⟨hP, hD⟩ := va_join (wr := [(qu, .inl (cI, 4096, .inl ((wrL g 0 L))))]) (w1 := [(h0, .inr (8, [.ref qb, .ref qu, .int (nI L.length), .int ln, .int (nI n), .int (nI j), .int (nI j)])), (qb, .inl (cB, 4096, .inl f))]) hP hD [0, 1] [2] rfl rfl (by decide) (by decide) hk1 hFc hP1 hD1
        generalize H1 = H at hP hS hce ⊢
        have hP : va_P (dC, dI) classes [(qu, .inl (cI, 4096, .inl ((wrL g 0 L)))), (h0, .inr (8, [.ref qb, .ref qu, .int (nI L.length), .int ln, .int (nI n), .int (nI j), .int (nI j)])), (qb, .inl (cB, 4096, .inl f))] H := hP
        have hD : va_D A [(qu, .inl (cI, 4096, .inl ((wrL g 0 L)))), (h0, .inr (8, [.ref qb, .ref qu, .int (nI L.length), .int ln, .int (nI n), .int (nI j), .int (nI j)])), (qb, .inl (cB, 4096, .inl f))] := hD
        have hP := hP.sub (ws' := [(h0, .inr (8, [.ref qb, .ref qu, .int (nI L.length), .int ln, .int (nI n), .int (nI j), .int (nI j)])), (qb, .inl (cB, 4096, .inl f)), (qu, .inl (cI, 4096, .inl ((wrL g 0 L))))]) [1, 2, 0] rfl
        have hD := hD.sub (ws' := [(h0, .inr (8, [.ref qb, .ref qu, .int (nI L.length), .int ln, .int (nI n), .int (nI j), .int (nI j)])), (qb, .inl (cB, 4096, .inl f)), (qu, .inl (cI, 4096, .inl ((wrL g 0 L))))]) [1, 2, 0] (by decide) rfl
        exact vx_out (fun x hx => (hex x hx).elim) hlocks hce hcv hcl (fun t ht2 ha => ⟨(nI j, nI L.length, nI j, wrL g 0 L), (absurd (h_r2.symm.trans c34) hw), ⟨hE, by rw [ht2]; exact hP, va_K.moved ha hK, hD⟩, hS.F ht2⟩) hS.2.2 (Nat.le_of_ble_eq_true rfl) (by omega)
      · obtain ⟨⟨hP1, hK1, hD1⟩, hz9⟩ := hB
        rw [ht] at hP1
        rw [ht] at hz9
        refine w_tight (hq0.trans hz9) ?_
        have hq0 := hq0.trans hz9
        obtain ⟨hP, hD⟩ := va_join (wr := [(qu, .inl (cI, 4096, .inl ((wrL g 0 L))))]) (w1 := [(h0, .inr (8, [.ref qb, .ref qu, .int (nI L.length), .int ln, .int (nI n), .int (nI (j + 1)), .int pl])), (qb, .inl (cB, 4096, .inl f))]) hP hD [0, 1] [2] rfl rfl (by decide) (by decide) hk1 hFc hP1 hD1
        generalize H1 = H at hP hS ⊢
        have hP : va_P (dC, dI) classes [(qu, .inl (cI, 4096, .inl ((wrL g 0 L)))), (h0, .inr (8, [.ref qb, .ref qu, .int (nI L.length), .int ln, .int (nI n), .int (nI (j + 1)), .int pl])), (qb, .inl (cB, 4096, .inl f))] H := hP
        have hD : va_D A [(qu, .inl (cI, 4096, .inl ((wrL g 0 L)))), (h0, .inr (8, [.ref qb, .ref qu, .int (nI L.length), .int ln, .int (nI n), .int (nI (j + 1)), .int pl])), (qb, .inl (cB, 4096, .inl f))] := hD
        have hP := hP.sub (ws' := [(h0, .inr (8, [.ref qb, .ref qu, .int (nI L.length), .int ln, .int (nI n), .int (nI (j + 1)), .int pl])), (qb, .inl (cB, 4096, .inl f)), (qu, .inl (cI, 4096, .inl ((wrL g 0 L))))]) [1, 2, 0] rfl
        have hD := hD.sub (ws' := [(h0, .inr (8, [.ref qb, .ref qu, .int (nI L.length), .int ln, .int (nI n), .int (nI (j + 1)), .int pl])), (qb, .inl (cB, 4096, .inl f)), (qu, .inl (cI, 4096, .inl ((wrL g 0 L))))]) [1, 2, 0] (by decide) rfl
        have hw : hereV f n j = q := hw
        have hq1 : qtR f n i = some (j, L) := by unfold qtR; rw [← h_q, ← hI2]; exact qtF_q hw
        have hjn : j < n := here_n hin (hw.trans h_q)
        have hqn : qtN f n i = L.length := by unfold qtN; rw [hq1]; rfl
        refine lv_aload_n hx hb d_Tape_quoted_53 rfl (lv_at hl 0 rfl) ?_
        refine va_get (D := (dC, dI)) (ci := 8) (v := .int (nI L.length)) (C := R_Tape) (T := F_Tape) (N := 7) hx hb hts in_Tape hown hK hP 0 rfl rfl 2 (by decide) (hts _ w_46) (fun _ h9 => h9) rfl d_Tape_quoted_54 ?_
        refine va_newa (atype := .int) (ty := .int) (N' := L.length) (a0 := (L.length, .inl (fun _ => 0))) hx hb (hts _ w_73) rfl hK hP hD hS hA (fun _ => rfl) (nI_pos (by omega)) (nI_clamp (by omega)) (by show L.length * 4 ≤ 536870912; omega) (Nat.le_of_ble_eq_true rfl) (by show _ ≤ 6 + qtN f n i; omega) d_Tape_quoted_57 (fun qn cA H hK hP hD hS => ?_)
        obtain rfl : cI = cA := Option.some.inj ((hK.2 1 _ rfl).2.symm.trans (hK.2 2 _ rfl).2)
        have hK := hK.sub (tys' := [(cB, .byte), (cI, .int)]) [0, 1] rfl
        have hP : va_P (dC, dI) classes [(h0, .inr (8, [.ref qb, .ref qu, .int (nI L.length), .int ln, .int (nI n), .int (nI (j + 1)), .int pl])), (qb, .inl (cB, 4096, .inl f)), (qu, .inl (cI, 4096, .inl ((wrL g 0 L)))), (qn, .inl (cI, L.length, .inl (fun _ => 0)))] H := hP
        have hD : va_D A [(h0, .inr (8, [.ref qb, .ref qu, .int (nI L.length), .int ln, .int (nI n), .int (nI (j + 1)), .int pl])), (qb, .inl (cB, 4096, .inl f)), (qu, .inl (cI, 4096, .inl ((wrL g 0 L)))), (qn, .inl (cI, L.length, .inl (fun _ => 0)))] := hD
        refine lv_astore_n (lv' := [(2, .ref qn), (0, .ref h0), (1, .int q)]) hx hb d_Tape_quoted_59 rfl hl (by decide) rfl (fun ls hl => ?_)
        refine lv_aload_n hx hb d_Tape_quoted_60 rfl (lv_at hl 1 rfl) ?_
        refine va_get (D := (dC, dI)) (ci := 8) (v := .ref qu) (C := R_Tape) (T := F_Tape) (N := 7) hx hb hts in_Tape hown hK hP 0 rfl rfl 1 (by decide) (hts _ w_45) (fun _ h9 => h9) rfl d_Tape_quoted_61 ?_
        refine lv_iconst (v := 0) hx hb d_Tape_quoted_64 (by decide) ?_
        refine lv_aload_n hx hb d_Tape_quoted_65 rfl (lv_at hl 0 rfl) ?_
        refine lv_iconst (v := 0) hx hb d_Tape_quoted_66 (by decide) ?_
        refine lv_aload_n hx hb d_Tape_quoted_67 rfl (lv_at hl 1 rfl) ?_
        refine va_get (D := (dC, dI)) (ci := 8) (v := .int (nI L.length)) (C := R_Tape) (T := F_Tape) (N := 7) hx hb hts in_Tape hown hK hP 0 rfl rfl 2 (by decide) (hts _ w_46) (fun _ h9 => h9) rfl d_Tape_quoted_68 ?_
        refine va_copyi (q0 := 2) (q1 := 3) (t0 := 1) (t1 := 1) hx hb (hml.trans hl.1.symm) hown (hts _ w_440) (hts _ w_442) (hts _ w_441) (hts _ w_17) hK hP hD hS rfl rfl rfl rfl rfl (by decide) (by decide) (nI_pos (by omega)) (by rw [nI_clamp (by omega)]; show 0 + L.length ≤ 4096; omega) (by rw [nI_clamp (by omega)]; show 0 + L.length ≤ L.length; omega) (fun _ _ => rfl) (Nat.le_of_ble_eq_true rfl) (Nat.le_of_ble_eq_true rfl) d_Tape_quoted_71 (fun H locs hP hD hS => ?_)
        rw [show (nI L.length).toNatClampNeg = L.length from nI_clamp (by omega)] at hP hD
        have hP : va_P (dC, dI) classes [(h0, .inr (8, [.ref qb, .ref qu, .int (nI L.length), .int ln, .int (nI n), .int (nI (j + 1)), .int pl])), (qb, .inl (cB, 4096, .inl f)), (qu, .inl (cI, 4096, .inl ((wrL g 0 L)))), (qn, .inl (cI, L.length, .inl (va_cpy (wrL g 0 L) (fun _ => 0) 0 0 L.length)))] H := hP
        have hD : va_D A [(h0, .inr (8, [.ref qb, .ref qu, .int (nI L.length), .int ln, .int (nI n), .int (nI (j + 1)), .int pl])), (qb, .inl (cB, 4096, .inl f)), (qu, .inl (cI, 4096, .inl ((wrL g 0 L)))), (qn, .inl (cI, L.length, .inl (va_cpy (wrL g 0 L) (fun _ => 0) 0 0 L.length)))] := hD
        refine lv_aload_n hx hb d_Tape_quoted_74 rfl (lv_at hl 0 rfl) ?_
        refine w_same (fun hq => ?_)
        refine W.widen (k := 1) (n := 6 + qtN f n i) (Nat.le_of_ble_eq_true rfl) (by omega) ?_
        refine vx_ret ?_
        exact W.aret (v := .ref qn) hx hb hr (Or.inr ⟨_, rfl⟩) (Or.inr ⟨_, rfl⟩) (fun t ht hW => ⟨⟨(j, L), qn, rfl, hq1, ⟨by rw [ht]; exact hP, va_K.moved hW.alike hK, hD⟩, by rw [ht]; exact hq.mono (Nat.le_of_ble_eq_true rfl) (by show _ ≤ L.length; omega)⟩, hS.F ht⟩) hS.2.2 d_Tape_quoted_75
    · refine lv_aload_n hx hb d_Tape_quoted_37 rfl (lv_at hl 0 rfl) ?_
      refine lv_iload_n hx hb d_Tape_quoted_38 rfl (lv_at hl 1 rfl) ?_
      have ht0 : 0 < tt := Nat.pos_of_ne_zero (fun h => by subst h; exact c26 (by decide))
      have hPc := hP.sub (ws' := [(h0, .inr (8, [.ref qb, .ref qu, .int (nI L.length), .int ln, .int (nI n), .int (nI j), .int pl])), (qb, .inl (cB, 4096, .inl f)), (qu, .inl (cI, 4096, .inl ((wrL g 0 L))))]) [0, 1, 2] rfl
      have hDc := hD.sub (ws' := [(h0, .inr (8, [.ref qb, .ref qu, .int (nI L.length), .int ln, .int (nI n), .int (nI j), .int pl])), (qb, .inl (cB, 4096, .inl f)), (qu, .inl (cI, 4096, .inl ((wrL g 0 L))))]) [0, 1, 2] (by decide) rfl
      have hKc := hK.sub (tys' := [(cB, .byte), (cI, .int)]) [0, 1] rfl
      have hFc := va_free (wc := [(h0, .inr (8, [.ref qb, .ref qu, .int (nI L.length), .int ln, .int (nI n), .int (nI j), .int pl])), (qb, .inl (cB, 4096, .inl f)), (qu, .inl (cI, 4096, .inl ((wrL g 0 L))))]) hD hS hA [0, 1, 2] rfl
      refine w_same (fun hq0 => ?_)
      refine vx_callv (vx_runV (As := [.int q]) (rest := []) ⟨hx, hb, hml, hown, hts⟩ (c_Tape_character l hl9 dC dI cB cI h0 qb qu H ln pl f (wrL g 0 L) n j L.length q (by omega) (by omega) (by omega)) (cwV 1 hts (gt_V (own := R_Tape) (C := R_Tape) (i := 73) (y := y_Tape_character) i_Tape_character w_409 w_411 (gt_sel (y := y_Tape_character) (n := 7) (by decide +kernel)) w_2) rfl rfl rfl (by decide +kernel) ⟨Nat.le_of_ble_eq_true rfl, Nat.le_of_ble_eq_true rfl⟩) ⟨mx_blind, va_recv hKc hPc (ci := 8) (q0 := 0) rfl rfl, fun U hU hW => ⟨rfl, ⟨hU, by rw [hU]; exact hPc, va_K.moved hW.alike hKc, hDc.weaken (fun _ _ _ _ => trivial)⟩, hN.warm hW, by rw [hU]; exact ZX.moved' hW.alike (ZX.narrow' (ZX.kept' hZ hS.2.1) hFc)⟩⟩ rfl rfl hl.1 rfl (lv_room (Nat.le_of_ble_eq_true rfl)) d_Tape_quoted_39 ⟨Nat.le_of_ble_eq_true rfl, (by show _ ≤ 6 + qtN f n i; omega)⟩) hS (fun q _ h => hFc q h) hFc (fun q _ h => hFc q h) (fun E ce q9 u t H1 locs ht hvm hw hB hz1 hk1 hS hce hcv hcl => ?_) (fun u t H1 locs ht hvm hw hB hz1 hk1 hS => ?_)
      · obtain ⟨hE, hP1, hK1, hD1⟩ := hB
        rw [ht] at hP1
        obtain ⟨hP, hD⟩ := va_join (wr := []) (w1 := [(h0, .inr (8, [.ref qb, .ref qu, .int u.2.1, .int ln, .int (nI n), .int u.1, .int (nI j)])), (qb, .inl (cB, 4096, .inl f)), (qu, .inl (cI, 4096, .inl u.2.2))]) hP hD [0, 1, 2] [] rfl rfl (by decide) (by decide) hk1 hFc hP1 hD1
        generalize H1 = H at hP hS hce ⊢
        have hP : va_P (dC, dI) classes [(h0, .inr (8, [.ref qb, .ref qu, .int u.2.1, .int ln, .int (nI n), .int u.1, .int (nI j)])), (qb, .inl (cB, 4096, .inl f)), (qu, .inl (cI, 4096, .inl u.2.2))] H := hP
        have hD : va_D A [(h0, .inr (8, [.ref qb, .ref qu, .int u.2.1, .int ln, .int (nI n), .int u.1, .int (nI j)])), (qb, .inl (cB, 4096, .inl f)), (qu, .inl (cI, 4096, .inl u.2.2))] := hD
        exact vx_out (fun x hx => (hex x hx).elim) hlocks hce hcv hcl (fun t ht2 ha => ⟨(u.1, u.2.1, nI j, u.2.2), (by show qtR f n i = none; unfold qtR; rw [← h_q, ← hI2]; obtain ⟨t0, rfl⟩ : ∃ t0, tt = t0 + 1 := ⟨tt - 1, by omega⟩; exact qtF_n (fun h => c34 (h_r2.trans h)) (chN_F hw)), ⟨hE, by rw [ht2]; exact hP, va_K.moved ha hK, hD⟩, hS.F ht2⟩) hS.2.2 (Nat.le_of_ble_eq_true rfl) (by omega)
      · obtain ⟨⟨hP1, hK1, hD1⟩, hz9⟩ := hB
        rw [ht] at hP1
        rw [ht] at hz9
        refine w_tight (hq0.trans hz9) ?_
        have hq0 := hq0.trans hz9
        obtain ⟨hP, hD⟩ := va_join (wr := []) (w1 := [(h0, .inr (8, [.ref qb, .ref qu, .int (nI u.2.1), .int ln, .int (nI n), .int (nI u.1), .int pl])), (qb, .inl (cB, 4096, .inl f)), (qu, .inl (cI, 4096, .inl u.2.2))]) hP hD [0, 1, 2] [] rfl rfl (by decide) (by decide) hk1 hFc hP1 hD1
        generalize H1 = H at hP hS ⊢
        have hP : va_P (dC, dI) classes [(h0, .inr (8, [.ref qb, .ref qu, .int (nI u.2.1), .int ln, .int (nI n), .int (nI u.1), .int pl])), (qb, .inl (cB, 4096, .inl f)), (qu, .inl (cI, 4096, .inl u.2.2))] H := hP
        have hD : va_D A [(h0, .inr (8, [.ref qb, .ref qu, .int (nI u.2.1), .int ln, .int (nI n), .int (nI u.1), .int pl])), (qb, .inl (cB, 4096, .inl f)), (qu, .inl (cI, 4096, .inl u.2.2))] := hD
        refine lv_iinc (v := nI (4096 - tt) + 1) (lv' := [(2, .int (nI (4096 - tt) + 1)), (0, .ref h0), (1, .int q)]) hx hb d_Tape_quoted_42 hl (k := 2) rfl rfl (by decide) rfl (fun ls hl => ?_)
        refine lv_goto (tgt := 22) hx hb d_Tape_quoted_45 (by decide) ?_
        rw [show (nI (4096 - tt) + 1 : Int32) = nI (4096 - (tt - 1)) by rw [nI_1]; congr 1; omega] at hl
        obtain ⟨L1, hc1, hc2, hc3⟩ := hw
        have hcb := chR_b hc1
        have hcF := chR_F hc1
        have hqs : qtF f n q tt j L = qtF f n q (tt - 1) u.1 (L ++ L1) := by obtain ⟨t0, rfl⟩ : ∃ t0, tt = t0 + 1 := ⟨tt - 1, by omega⟩; exact qtF_s (fun h => c34 (h_r2.trans h)) hcF
        have e1 : u.2.1 = (L ++ L1).length := by rw [hc2, List.length_append]
        have e2 : u.2.2 = wrL g 0 (L ++ L1) := by rw [hc3, wrL_app, Nat.zero_add]
        rw [e1, e2] at hP hD
        exact ih (tt - 1, u.1, L ++ L1) _ _ _ ⟨by omega, by rw [← hI2]; exact hqs.symm, by rw [List.length_append]; omega, by omega⟩ (by show tt - 1 < tt; omega) hP hD hS (lv_sub hl [1, 2, 0] rfl)
