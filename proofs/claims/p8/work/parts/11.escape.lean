theorem w_422 : (.methodLink "QueryBench$Tape" 95 ⟨"QueryBench$Tape", "fourHexDigits", "()I"⟩ : Cond) ∈ gtbl := gt_in 422 (by decide +kernel) (by decide +kernel)
theorem w_424 : (.instanceMethod ⟨"QueryBench$Tape", "fourHexDigits", "()I"⟩ : Cond) ∈ gtbl := gt_in 424 (by decide +kernel) (by decide +kernel)
def escC (x : Int32) : Int32 := if x = 98 then 8 else if x = 116 then 9 else if x = 110 then 10 else if x = 102 then 12 else if x = 114 then 13 else -1
/-- what a \\ at i stands for (or -1), and where it ends -/
def escV (f : Nat → Int32) (n i : Nat) (q : Int32) : Int32 × Nat := if hereV f n (i + 1) = q ∨ hereV f n (i + 1) = 92 ∨ hereV f n (i + 1) = 47 then (hereV f n (i + 1), i + 1 + 1) else if hereV f n (i + 1) = 117 then hex4 f n 4 (i + 1 + 1) 0 else (escC (hereV f n (i + 1)), i + 1 + 1)
theorem escC_out {x : Int32} (h : x.toInt < 98 ∨ 117 < x.toInt) : escC x = -1 ∧ ¬ x = 117 := by
  have ne : ∀ v : Int32, (98 ≤ v.toInt ∧ v.toInt ≤ 117) → ¬ x = v := fun v hv e => by subst e; omega
  refine ⟨?_, ne 117 (by decide)⟩
  unfold escC
  rw [if_neg (ne 98 (by decide)), if_neg (ne 116 (by decide)), if_neg (ne 110 (by decide)), if_neg (ne 102 (by decide)), if_neg (ne 114 (by decide))]
abbrev b_Tape_escape : ByteArray := prog_10_method_14_code
def y_Tape_escape : MethodName := ⟨"QueryBench$Tape", "escape", "(I)I"⟩
abbrev k_Tape_escape : Cond := .code y_Tape_escape b_Tape_escape 3 (some .int)
theorem i_Tape_escape : k_Tape_escape ∈ gtbl := gt_in 421 (by decide +kernel) (by decide +kernel)
theorem d_Tape_escape_0 : decode b_Tape_escape 0 = .ok (.aload_n 0, 1) := by decide +kernel
theorem d_Tape_escape_1 : decode b_Tape_escape 1 = .ok (.dup, 1) := by decide +kernel
theorem d_Tape_escape_2 : decode b_Tape_escape 2 = .ok (.getfield 29, 3) := by decide +kernel
theorem d_Tape_escape_5 : decode b_Tape_escape 5 = .ok (.iconst 1, 1) := by decide +kernel
theorem d_Tape_escape_6 : decode b_Tape_escape 6 = .ok (.iadd, 1) := by decide +kernel
theorem d_Tape_escape_7 : decode b_Tape_escape 7 = .ok (.putfield 29, 3) := by decide +kernel
theorem d_Tape_escape_10 : decode b_Tape_escape 10 = .ok (.aload_n 0, 1) := by decide +kernel
theorem d_Tape_escape_11 : decode b_Tape_escape 11 = .ok (.invokevirtual 35, 3) := by decide +kernel
theorem d_Tape_escape_14 : decode b_Tape_escape 14 = .ok (.istore_n 2, 1) := by decide +kernel
theorem d_Tape_escape_15 : decode b_Tape_escape 15 = .ok (.aload_n 0, 1) := by decide +kernel
theorem d_Tape_escape_16 : decode b_Tape_escape 16 = .ok (.dup, 1) := by decide +kernel
theorem d_Tape_escape_17 : decode b_Tape_escape 17 = .ok (.getfield 29, 3) := by decide +kernel
theorem d_Tape_escape_20 : decode b_Tape_escape 20 = .ok (.iconst 1, 1) := by decide +kernel
theorem d_Tape_escape_21 : decode b_Tape_escape 21 = .ok (.iadd, 1) := by decide +kernel
theorem d_Tape_escape_22 : decode b_Tape_escape 22 = .ok (.putfield 29, 3) := by decide +kernel
theorem d_Tape_escape_25 : decode b_Tape_escape 25 = .ok (.iload_n 2, 1) := by decide +kernel
theorem d_Tape_escape_26 : decode b_Tape_escape 26 = .ok (.iload_n 1, 1) := by decide +kernel
theorem d_Tape_escape_27 : decode b_Tape_escape 27 = .ok (.if_icmp .eq 15, 3) := by decide +kernel
theorem d_Tape_escape_30 : decode b_Tape_escape 30 = .ok (.iload_n 2, 1) := by decide +kernel
theorem d_Tape_escape_31 : decode b_Tape_escape 31 = .ok (.bipush 92, 2) := by decide +kernel
theorem d_Tape_escape_33 : decode b_Tape_escape 33 = .ok (.if_icmp .eq 9, 3) := by decide +kernel
theorem d_Tape_escape_36 : decode b_Tape_escape 36 = .ok (.iload_n 2, 1) := by decide +kernel
theorem d_Tape_escape_37 : decode b_Tape_escape 37 = .ok (.bipush 47, 2) := by decide +kernel
theorem d_Tape_escape_39 : decode b_Tape_escape 39 = .ok (.if_icmp .ne 5, 3) := by decide +kernel
theorem d_Tape_escape_42 : decode b_Tape_escape 42 = .ok (.iload_n 2, 1) := by decide +kernel
theorem d_Tape_escape_43 : decode b_Tape_escape 43 = .ok (.ireturn, 1) := by decide +kernel
theorem d_Tape_escape_44 : decode b_Tape_escape 44 = .ok (.iload_n 2, 1) := by decide +kernel
theorem d_Tape_escape_45 : decode b_Tape_escape 45 = .ok (.tableswitch 115 98 117 #[95, 115, 115, 115, 104, 115, 115, 115, 115, 115, 115, 115, 101, 115, 115, 115, 107, 115, 98, 110], 95) := by decide +kernel
theorem d_Tape_escape_140 : decode b_Tape_escape 140 = .ok (.bipush 8, 2) := by decide +kernel
theorem d_Tape_escape_142 : decode b_Tape_escape 142 = .ok (.ireturn, 1) := by decide +kernel
theorem d_Tape_escape_143 : decode b_Tape_escape 143 = .ok (.bipush 9, 2) := by decide +kernel
theorem d_Tape_escape_145 : decode b_Tape_escape 145 = .ok (.ireturn, 1) := by decide +kernel
theorem d_Tape_escape_146 : decode b_Tape_escape 146 = .ok (.bipush 10, 2) := by decide +kernel
theorem d_Tape_escape_148 : decode b_Tape_escape 148 = .ok (.ireturn, 1) := by decide +kernel
theorem d_Tape_escape_149 : decode b_Tape_escape 149 = .ok (.bipush 12, 2) := by decide +kernel
theorem d_Tape_escape_151 : decode b_Tape_escape 151 = .ok (.ireturn, 1) := by decide +kernel
theorem d_Tape_escape_152 : decode b_Tape_escape 152 = .ok (.bipush 13, 2) := by decide +kernel
theorem d_Tape_escape_154 : decode b_Tape_escape 154 = .ok (.ireturn, 1) := by decide +kernel
theorem d_Tape_escape_155 : decode b_Tape_escape 155 = .ok (.aload_n 0, 1) := by decide +kernel
theorem d_Tape_escape_156 : decode b_Tape_escape 156 = .ok (.invokevirtual 95, 3) := by decide +kernel
theorem d_Tape_escape_159 : decode b_Tape_escape 159 = .ok (.ireturn, 1) := by decide +kernel
theorem d_Tape_escape_160 : decode b_Tape_escape 160 = .ok (.iconst (-1), 1) := by decide +kernel
theorem d_Tape_escape_161 : decode b_Tape_escape 161 = .ok (.ireturn, 1) := by decide +kernel
set_option maxHeartbeats 4000000 in
set_option maxRecDepth 100000 in
/-- Tape.escape -/
theorem c_Tape_escape (l : Launch) (dC : Nat → ClassId) (dI : Nat → Nat → Nat) (cB : ClassId) (h0 qb : Nat) (sz : Heap) (ru : Value) (uc ln pl : Int32) (f : Nat → Int32) (n i : Nat) (q : Int32) (hn0 : n ≤ 4096) (hi0 : i ≤ 900000) : Met l y_Tape_escape (k_Tape_escape :: gtbl) ({ frames := 1, cells := 0, slots := 0, locals := 24 }) (va_Pc [.ref h0, .int q] (mp dC dI [(h0, .inr (8, [.ref qb, ru, .int uc, .int ln, .int (nI n), .int (nI i), .int pl])), (qb, .inl (cB, 4096, .inl f))] [(cB, .byte)] sz)) (va_Qi (fun (r : Int32) (u : Nat) => (r, u) = escV f n i q) (fun u => mz dC dI [(h0, .inr (8, [.ref qb, ru, .int uc, .int ln, .int (nI n), .int (nI u), .int pl])), (qb, .inl (cB, 4096, .inl f))] [(cB, .byte)] (va_A [(h0, .inr (8, [.ref qb, ru, .int uc, .int ln, .int (nI n), .int (nI i), .int pl])), (qb, .inl (cB, 4096, .inl f))] sz.size)) (va_A [(h0, .inr (8, [.ref qb, ru, .int uc, .int ln, .int (nI n), .int (nI i), .int pl])), (qb, .inl (cB, 4096, .inl f))] sz.size)) 0 0 (va_A [(h0, .inr (8, [.ref qb, ru, .int uc, .int ln, .int (nI n), .int (nI i), .int pl])), (qb, .inl (cB, 4096, .inl f))] sz.size) := by
  refine Met.ofW (cc := b_Tape_escape) (maxL := 3) (ret := (some .int)) (by decide) rfl ?_
  intro p e s m args below meth c s₁ B hml hv
  obtain ⟨rfl, hsz, hP, hK, hD0⟩ := hv
  have hx := B.exec
  have hb := B.bytes
  have hr := B.returns
  have hts0 := atoms_spec (ws := k_Tape_escape :: gtbl) B.pre
  have hts := fun w h => hts0 w (List.mem_cons_of_mem _ h)
  have hown : s.vm.findClass R_Tape = some m.cls := findClass_of_methodNamed B.named
  have hlocks := B.notSynchronized
  subst hsz
  have hD := hD0.self (sz := s.heap.size)
  generalize hAe : va_A [(h0, .inr (8, [.ref qb, ru, .int uc, .int ln, .int (nI n), .int (nI i), .int pl])), (qb, .inl (cB, 4096, .inl f))] s.heap.size = A at hD ⊢
  have hA : ∀ q : Nat, s.heap.size ≤ q → A q := fun q h => by rw [← hAe]; exact Or.inr h
  have hS : va_S A s.heap s.heap [] := va_S.rf
  have hP : va_P (dC, dI) classes [(h0, .inr (8, [.ref qb, ru, .int uc, .int ln, .int (nI n), .int (nI i), .int pl])), (qb, .inl (cB, 4096, .inl f))] s.heap := hP
  have hl := lv_entry ([.ref h0, .int q]) (n := 3) (Nat.le_of_ble_eq_true rfl)
  rw [lg_entry_eq]
  generalize (lg_sl ([.ref h0, .int q]) ++ List.replicate (3 - (lg_sl ([.ref h0, .int q])).length) Slot.unset).toArray = ls at hl ⊢
  have hl : lv_has ls 3 [(0, .ref h0), (1, .int q)] := hl
  refine lv_aload_n hx hb d_Tape_escape_0 rfl (lv_at hl 0 rfl) ?_
  refine lv_dup hx hb d_Tape_escape_1 rfl ?_
  refine va_get (D := (dC, dI)) (ci := 8) (v := .int (nI i)) (C := R_Tape) (T := F_Tape) (N := 7) hx hb hts in_Tape hown hK hP 0 rfl rfl 5 (by decide) (hts _ w_54) (fun _ h9 => h9) rfl d_Tape_escape_2 ?_
  refine lv_iconst (v := 1) hx hb d_Tape_escape_5 (by decide) ?_
  refine lv_iadd hx hb d_Tape_escape_6 ?_
  refine W.eq (g2 := F0 m 7 ls [.int (nI (i + 1)), .ref h0]) (by rw [show ((nI i) + 1) = (nI (i + 1)) from nI_1 _]) ?_
  refine va_put (D := (dC, dI)) (ci := 8) (v := .int (nI (i + 1))) (ty := .int) (C := R_Tape) (T := F_Tape) (N := 7) hx hb hts in_Tape t_Tape t_Tape_ok n_Tape hown hK hP hD hS 0 rfl rfl 5 (by decide) (hts _ w_54) (fun _ h9 => h9) rfl (by decide +kernel) rfl rfl (Nat.le_of_ble_eq_true rfl) d_Tape_escape_7 (fun H locs hP hD hS => ?_)
  have hP : va_P (dC, dI) classes [(h0, .inr (8, [.ref qb, ru, .int uc, .int ln, .int (nI n), .int (nI (i + 1)), .int pl])), (qb, .inl (cB, 4096, .inl f))] H := hP
  have hD : va_D A [(h0, .inr (8, [.ref qb, ru, .int uc, .int ln, .int (nI n), .int (nI (i + 1)), .int pl])), (qb, .inl (cB, 4096, .inl f))] := hD
  refine lv_aload_n hx hb d_Tape_escape_10 rfl (lv_at hl 0 rfl) ?_
  have hPc := hP.sub (ws' := [(h0, .inr (8, [.ref qb, ru, .int uc, .int ln, .int (nI n), .int (nI (i + 1)), .int pl])), (qb, .inl (cB, 4096, .inl f))]) [0, 1] rfl
  have hDc := hD.sub (ws' := [(h0, .inr (8, [.ref qb, ru, .int uc, .int ln, .int (nI n), .int (nI (i + 1)), .int pl])), (qb, .inl (cB, 4096, .inl f))]) [0, 1] (by decide) rfl
  have hKc := hK.sub (tys' := [(cB, .byte)]) [0] rfl
  have hFc := va_free (wc := [(h0, .inr (8, [.ref qb, ru, .int uc, .int ln, .int (nI n), .int (nI (i + 1)), .int pl])), (qb, .inl (cB, 4096, .inl f))]) hD hS hA [0, 1] rfl
  refine va_calli (va_runV (As := []) (rest := []) ⟨hx, hb, hml, hown, hts⟩ (c_Tape_here l dC dI cB h0 qb H ru uc ln pl f n (i + 1) (by omega) (by omega)) (cwV 0 hts (gt_V (own := R_Tape) (C := R_Tape) (i := 35) (y := y_Tape_here) i_Tape_here w_396 w_363 w_364 w_2) rfl rfl rfl (by decide +kernel) ⟨Nat.le_of_ble_eq_true rfl, Nat.le_of_ble_eq_true rfl⟩) ⟨mp_blind, va_recv hKc hPc (ci := 8) (q0 := 0) rfl rfl, fun U hU hW => ⟨rfl, hU, by rw [hU]; exact hPc, va_K.moved hW.alike hKc, hDc.weaken (fun _ _ _ _ => trivial)⟩⟩ rfl rfl hl.1 rfl (lv_room (Nat.le_of_ble_eq_true rfl)) d_Tape_escape_11 ⟨Nat.le_of_ble_eq_true rfl, Nat.le_of_ble_eq_true rfl⟩) hS (fun q _ h => hFc q h) hFc (fun r u t H1 locs ht hvm hw hB hz1 hk1 hS => ?_)
  obtain ⟨hP1, hK1, hD1⟩ := hB
  rw [ht] at hP1
  obtain ⟨hP, hD⟩ := va_join (wr := []) (w1 := [(h0, .inr (8, [.ref qb, ru, .int uc, .int ln, .int (nI n), .int (nI (i + 1)), .int pl])), (qb, .inl (cB, 4096, .inl f))]) hP hD [0, 1] [] rfl rfl (by decide) (by decide) hk1 hFc hP1 hD1
  generalize H1 = H at hP hS ⊢
  have hP : va_P (dC, dI) classes [(h0, .inr (8, [.ref qb, ru, .int uc, .int ln, .int (nI n), .int (nI (i + 1)), .int pl])), (qb, .inl (cB, 4096, .inl f))] H := hP
  have hD : va_D A [(h0, .inr (8, [.ref qb, ru, .int uc, .int ln, .int (nI n), .int (nI (i + 1)), .int pl])), (qb, .inl (cB, 4096, .inl f))] := hD
  have hw : r = hereV f n (i + 1) := hw
  refine lv_istore_n (lv' := [(2, .int r), (0, .ref h0), (1, .int q)]) hx hb d_Tape_escape_14 rfl hl (by decide) rfl (fun ls hl => ?_)
  refine lv_aload_n hx hb d_Tape_escape_15 rfl (lv_at hl 1 rfl) ?_
  refine lv_dup hx hb d_Tape_escape_16 rfl ?_
  refine va_get (D := (dC, dI)) (ci := 8) (v := .int (nI (i + 1))) (C := R_Tape) (T := F_Tape) (N := 7) hx hb hts in_Tape hown hK hP 0 rfl rfl 5 (by decide) (hts _ w_54) (fun _ h9 => h9) rfl d_Tape_escape_17 ?_
  refine lv_iconst (v := 1) hx hb d_Tape_escape_20 (by decide) ?_
  refine lv_iadd hx hb d_Tape_escape_21 ?_
  refine W.eq (g2 := F0 m 22 ls [.int (nI (i + 1 + 1)), .ref h0]) (by rw [show ((nI (i + 1)) + 1) = (nI (i + 1 + 1)) from nI_1 _]) ?_
  refine va_put (D := (dC, dI)) (ci := 8) (v := .int (nI (i + 1 + 1))) (ty := .int) (C := R_Tape) (T := F_Tape) (N := 7) hx hb hts in_Tape t_Tape t_Tape_ok n_Tape hown hK hP hD hS 0 rfl rfl 5 (by decide) (hts _ w_54) (fun _ h9 => h9) rfl (by decide +kernel) rfl rfl (Nat.le_of_ble_eq_true rfl) d_Tape_escape_22 (fun H locs hP hD hS => ?_)
  have hP : va_P (dC, dI) classes [(h0, .inr (8, [.ref qb, ru, .int uc, .int ln, .int (nI n), .int (nI (i + 1 + 1)), .int pl])), (qb, .inl (cB, 4096, .inl f))] H := hP
  have hD : va_D A [(h0, .inr (8, [.ref qb, ru, .int uc, .int ln, .int (nI n), .int (nI (i + 1 + 1)), .int pl])), (qb, .inl (cB, 4096, .inl f))] := hD
  refine lv_iload_n hx hb d_Tape_escape_25 rfl (lv_at hl 0 rfl) ?_
  refine lv_iload_n hx hb d_Tape_escape_26 rfl (lv_at hl 2 rfl) ?_
  refine lv_icmp_eq (tgt := 42) hx hb d_Tape_escape_27 (by decide) (fun c27 => ?_) (fun c27 => ?_)
  · refine lv_iload_n hx hb d_Tape_escape_42 rfl (lv_at hl 0 rfl) ?_
    exact W.iret (v := r) hx hb hr (fun t ht hW => ⟨⟨r, i + 1 + 1, rfl, by unfold escV; rw [← hw, if_pos (Or.inl c27)], by rw [ht]; exact hP, va_K.moved hW.alike hK, hD⟩, hS.F ht⟩) hS.2.2 d_Tape_escape_43
  · refine lv_iload_n hx hb d_Tape_escape_30 rfl (lv_at hl 0 rfl) ?_
    refine lv_bipush (v := 92) hx hb d_Tape_escape_31 (by decide) ?_
    refine lv_icmp_eq (tgt := 42) hx hb d_Tape_escape_33 (by decide) (fun c33 => ?_) (fun c33 => ?_)
    · refine lv_iload_n hx hb d_Tape_escape_42 rfl (lv_at hl 0 rfl) ?_
      exact W.iret (v := r) hx hb hr (fun t ht hW => ⟨⟨r, i + 1 + 1, rfl, by unfold escV; rw [← hw, if_pos (Or.inr (Or.inl c33))], by rw [ht]; exact hP, va_K.moved hW.alike hK, hD⟩, hS.F ht⟩) hS.2.2 d_Tape_escape_43
    · refine lv_iload_n hx hb d_Tape_escape_36 rfl (lv_at hl 0 rfl) ?_
      refine lv_bipush (v := 47) hx hb d_Tape_escape_37 (by decide) ?_
      refine lv_icmp_ne (tgt := 44) hx hb d_Tape_escape_39 (by decide) (fun c39 => ?_) (fun c39 => ?_)
      · refine lv_iload_n hx hb d_Tape_escape_44 rfl (lv_at hl 0 rfl) ?_
        have hne : ¬ (r = q ∨ r = 92 ∨ r = 47) := by rintro (h | h | h) <;> first | exact c27 h | exact c33 h | exact c39 h
        by_cases ho : r.toInt < 98 ∨ 117 < r.toInt
        · refine lv_tableOut (tgt := 160) hx hb d_Tape_escape_45 ho (by decide) ?_
          have hv := escC_out ho
          refine lv_iconst (v := (-1)) hx hb d_Tape_escape_160 (by decide) ?_
          exact W.iret (v := (-1)) hx hb hr (fun t ht hW => ⟨⟨(-1), i + 1 + 1, rfl, by unfold escV; rw [← hw, if_neg hne, if_neg hv.2, hv.1], by rw [ht]; exact hP, va_K.moved hW.alike hK, hD⟩, hS.F ht⟩) hS.2.2 d_Tape_escape_161
        · have h20 : r.toInt = 98 ∨ r.toInt = 99 ∨ r.toInt = 100 ∨ r.toInt = 101 ∨ r.toInt = 102 ∨ r.toInt = 103 ∨ r.toInt = 104 ∨ r.toInt = 105 ∨ r.toInt = 106 ∨ r.toInt = 107 ∨ r.toInt = 108 ∨ r.toInt = 109 ∨ r.toInt = 110 ∨ r.toInt = 111 ∨ r.toInt = 112 ∨ r.toInt = 113 ∨ r.toInt = 114 ∨ r.toInt = 115 ∨ r.toInt = 116 ∨ r.toInt = 117 := by omega
          rcases h20 with h | h | h | h | h | h | h | h | h | h | h | h | h | h | h | h | h | h | h | h
          · refine lv_tableIn (tgt := 140) hx hb d_Tape_escape_45 (by omega) (by omega) (by rw [h]; rfl) (by decide) ?_
            have hrv : r = 98 := Int32.toInt_inj.mp (h.trans (by decide))
            refine lv_bipush (v := 8) hx hb d_Tape_escape_140 (by decide) ?_
            exact W.iret (v := 8) hx hb hr (fun t ht hW => ⟨⟨8, i + 1 + 1, rfl, by unfold escV; rw [← hw, if_neg hne, hrv]; rfl, by rw [ht]; exact hP, va_K.moved hW.alike hK, hD⟩, hS.F ht⟩) hS.2.2 d_Tape_escape_142
          · refine lv_tableIn (tgt := 160) hx hb d_Tape_escape_45 (by omega) (by omega) (by rw [h]; rfl) (by decide) ?_
            have hrv : r = 99 := Int32.toInt_inj.mp (h.trans (by decide))
            refine lv_iconst (v := (-1)) hx hb d_Tape_escape_160 (by decide) ?_
            exact W.iret (v := (-1)) hx hb hr (fun t ht hW => ⟨⟨(-1), i + 1 + 1, rfl, by unfold escV; rw [← hw, if_neg hne, hrv]; rfl, by rw [ht]; exact hP, va_K.moved hW.alike hK, hD⟩, hS.F ht⟩) hS.2.2 d_Tape_escape_161
          · refine lv_tableIn (tgt := 160) hx hb d_Tape_escape_45 (by omega) (by omega) (by rw [h]; rfl) (by decide) ?_
            have hrv : r = 100 := Int32.toInt_inj.mp (h.trans (by decide))
            refine lv_iconst (v := (-1)) hx hb d_Tape_escape_160 (by decide) ?_
            exact W.iret (v := (-1)) hx hb hr (fun t ht hW => ⟨⟨(-1), i + 1 + 1, rfl, by unfold escV; rw [← hw, if_neg hne, hrv]; rfl, by rw [ht]; exact hP, va_K.moved hW.alike hK, hD⟩, hS.F ht⟩) hS.2.2 d_Tape_escape_161
          · refine lv_tableIn (tgt := 160) hx hb d_Tape_escape_45 (by omega) (by omega) (by rw [h]; rfl) (by decide) ?_
            have hrv : r = 101 := Int32.toInt_inj.mp (h.trans (by decide))
            refine lv_iconst (v := (-1)) hx hb d_Tape_escape_160 (by decide) ?_
            exact W.iret (v := (-1)) hx hb hr (fun t ht hW => ⟨⟨(-1), i + 1 + 1, rfl, by unfold escV; rw [← hw, if_neg hne, hrv]; rfl, by rw [ht]; exact hP, va_K.moved hW.alike hK, hD⟩, hS.F ht⟩) hS.2.2 d_Tape_escape_161
          · refine lv_tableIn (tgt := 149) hx hb d_Tape_escape_45 (by omega) (by omega) (by rw [h]; rfl) (by decide) ?_
            have hrv : r = 102 := Int32.toInt_inj.mp (h.trans (by decide))
            refine lv_bipush (v := 12) hx hb d_Tape_escape_149 (by decide) ?_
            exact W.iret (v := 12) hx hb hr (fun t ht hW => ⟨⟨12, i + 1 + 1, rfl, by unfold escV; rw [← hw, if_neg hne, hrv]; rfl, by rw [ht]; exact hP, va_K.moved hW.alike hK, hD⟩, hS.F ht⟩) hS.2.2 d_Tape_escape_151
          · refine lv_tableIn (tgt := 160) hx hb d_Tape_escape_45 (by omega) (by omega) (by rw [h]; rfl) (by decide) ?_
            have hrv : r = 103 := Int32.toInt_inj.mp (h.trans (by decide))
            refine lv_iconst (v := (-1)) hx hb d_Tape_escape_160 (by decide) ?_
            exact W.iret (v := (-1)) hx hb hr (fun t ht hW => ⟨⟨(-1), i + 1 + 1, rfl, by unfold escV; rw [← hw, if_neg hne, hrv]; rfl, by rw [ht]; exact hP, va_K.moved hW.alike hK, hD⟩, hS.F ht⟩) hS.2.2 d_Tape_escape_161
          · refine lv_tableIn (tgt := 160) hx hb d_Tape_escape_45 (by omega) (by omega) (by rw [h]; rfl) (by decide) ?_
            have hrv : r = 104 := Int32.toInt_inj.mp (h.trans (by decide))
            refine lv_iconst (v := (-1)) hx hb d_Tape_escape_160 (by decide) ?_
            exact W.iret (v := (-1)) hx hb hr (fun t ht hW => ⟨⟨(-1), i + 1 + 1, rfl, by unfold escV; rw [← hw, if_neg hne, hrv]; rfl, by rw [ht]; exact hP, va_K.moved hW.alike hK, hD⟩, hS.F ht⟩) hS.2.2 d_Tape_escape_161
          · refine lv_tableIn (tgt := 160) hx hb d_Tape_escape_45 (by omega) (by omega) (by rw [h]; rfl) (by decide) ?_
            have hrv : r = 105 := Int32.toInt_inj.mp (h.trans (by decide))
            refine lv_iconst (v := (-1)) hx hb d_Tape_escape_160 (by decide) ?_
            exact W.iret (v := (-1)) hx hb hr (fun t ht hW => ⟨⟨(-1), i + 1 + 1, rfl, by unfold escV; rw [← hw, if_neg hne, hrv]; rfl, by rw [ht]; exact hP, va_K.moved hW.alike hK, hD⟩, hS.F ht⟩) hS.2.2 d_Tape_escape_161
          · refine lv_tableIn (tgt := 160) hx hb d_Tape_escape_45 (by omega) (by omega) (by rw [h]; rfl) (by decide) ?_
            have hrv : r = 106 := Int32.toInt_inj.mp (h.trans (by decide))
            refine lv_iconst (v := (-1)) hx hb d_Tape_escape_160 (by decide) ?_
            exact W.iret (v := (-1)) hx hb hr (fun t ht hW => ⟨⟨(-1), i + 1 + 1, rfl, by unfold escV; rw [← hw, if_neg hne, hrv]; rfl, by rw [ht]; exact hP, va_K.moved hW.alike hK, hD⟩, hS.F ht⟩) hS.2.2 d_Tape_escape_161
          · refine lv_tableIn (tgt := 160) hx hb d_Tape_escape_45 (by omega) (by omega) (by rw [h]; rfl) (by decide) ?_
            have hrv : r = 107 := Int32.toInt_inj.mp (h.trans (by decide))
            refine lv_iconst (v := (-1)) hx hb d_Tape_escape_160 (by decide) ?_
            exact W.iret (v := (-1)) hx hb hr (fun t ht hW => ⟨⟨(-1), i + 1 + 1, rfl, by unfold escV; rw [← hw, if_neg hne, hrv]; rfl, by rw [ht]; exact hP, va_K.moved hW.alike hK, hD⟩, hS.F ht⟩) hS.2.2 d_Tape_escape_161
          · refine lv_tableIn (tgt := 160) hx hb d_Tape_escape_45 (by omega) (by omega) (by rw [h]; rfl) (by decide) ?_
            have hrv : r = 108 := Int32.toInt_inj.mp (h.trans (by decide))
            refine lv_iconst (v := (-1)) hx hb d_Tape_escape_160 (by decide) ?_
            exact W.iret (v := (-1)) hx hb hr (fun t ht hW => ⟨⟨(-1), i + 1 + 1, rfl, by unfold escV; rw [← hw, if_neg hne, hrv]; rfl, by rw [ht]; exact hP, va_K.moved hW.alike hK, hD⟩, hS.F ht⟩) hS.2.2 d_Tape_escape_161
          · refine lv_tableIn (tgt := 160) hx hb d_Tape_escape_45 (by omega) (by omega) (by rw [h]; rfl) (by decide) ?_
            have hrv : r = 109 := Int32.toInt_inj.mp (h.trans (by decide))
            refine lv_iconst (v := (-1)) hx hb d_Tape_escape_160 (by decide) ?_
            exact W.iret (v := (-1)) hx hb hr (fun t ht hW => ⟨⟨(-1), i + 1 + 1, rfl, by unfold escV; rw [← hw, if_neg hne, hrv]; rfl, by rw [ht]; exact hP, va_K.moved hW.alike hK, hD⟩, hS.F ht⟩) hS.2.2 d_Tape_escape_161
          · refine lv_tableIn (tgt := 146) hx hb d_Tape_escape_45 (by omega) (by omega) (by rw [h]; rfl) (by decide) ?_
            have hrv : r = 110 := Int32.toInt_inj.mp (h.trans (by decide))
            refine lv_bipush (v := 10) hx hb d_Tape_escape_146 (by decide) ?_
            exact W.iret (v := 10) hx hb hr (fun t ht hW => ⟨⟨10, i + 1 + 1, rfl, by unfold escV; rw [← hw, if_neg hne, hrv]; rfl, by rw [ht]; exact hP, va_K.moved hW.alike hK, hD⟩, hS.F ht⟩) hS.2.2 d_Tape_escape_148
          · refine lv_tableIn (tgt := 160) hx hb d_Tape_escape_45 (by omega) (by omega) (by rw [h]; rfl) (by decide) ?_
            have hrv : r = 111 := Int32.toInt_inj.mp (h.trans (by decide))
            refine lv_iconst (v := (-1)) hx hb d_Tape_escape_160 (by decide) ?_
            exact W.iret (v := (-1)) hx hb hr (fun t ht hW => ⟨⟨(-1), i + 1 + 1, rfl, by unfold escV; rw [← hw, if_neg hne, hrv]; rfl, by rw [ht]; exact hP, va_K.moved hW.alike hK, hD⟩, hS.F ht⟩) hS.2.2 d_Tape_escape_161
          · refine lv_tableIn (tgt := 160) hx hb d_Tape_escape_45 (by omega) (by omega) (by rw [h]; rfl) (by decide) ?_
            have hrv : r = 112 := Int32.toInt_inj.mp (h.trans (by decide))
            refine lv_iconst (v := (-1)) hx hb d_Tape_escape_160 (by decide) ?_
            exact W.iret (v := (-1)) hx hb hr (fun t ht hW => ⟨⟨(-1), i + 1 + 1, rfl, by unfold escV; rw [← hw, if_neg hne, hrv]; rfl, by rw [ht]; exact hP, va_K.moved hW.alike hK, hD⟩, hS.F ht⟩) hS.2.2 d_Tape_escape_161
          · refine lv_tableIn (tgt := 160) hx hb d_Tape_escape_45 (by omega) (by omega) (by rw [h]; rfl) (by decide) ?_
            have hrv : r = 113 := Int32.toInt_inj.mp (h.trans (by decide))
            refine lv_iconst (v := (-1)) hx hb d_Tape_escape_160 (by decide) ?_
            exact W.iret (v := (-1)) hx hb hr (fun t ht hW => ⟨⟨(-1), i + 1 + 1, rfl, by unfold escV; rw [← hw, if_neg hne, hrv]; rfl, by rw [ht]; exact hP, va_K.moved hW.alike hK, hD⟩, hS.F ht⟩) hS.2.2 d_Tape_escape_161
          · refine lv_tableIn (tgt := 152) hx hb d_Tape_escape_45 (by omega) (by omega) (by rw [h]; rfl) (by decide) ?_
            have hrv : r = 114 := Int32.toInt_inj.mp (h.trans (by decide))
            refine lv_bipush (v := 13) hx hb d_Tape_escape_152 (by decide) ?_
            exact W.iret (v := 13) hx hb hr (fun t ht hW => ⟨⟨13, i + 1 + 1, rfl, by unfold escV; rw [← hw, if_neg hne, hrv]; rfl, by rw [ht]; exact hP, va_K.moved hW.alike hK, hD⟩, hS.F ht⟩) hS.2.2 d_Tape_escape_154
          · refine lv_tableIn (tgt := 160) hx hb d_Tape_escape_45 (by omega) (by omega) (by rw [h]; rfl) (by decide) ?_
            have hrv : r = 115 := Int32.toInt_inj.mp (h.trans (by decide))
            refine lv_iconst (v := (-1)) hx hb d_Tape_escape_160 (by decide) ?_
            exact W.iret (v := (-1)) hx hb hr (fun t ht hW => ⟨⟨(-1), i + 1 + 1, rfl, by unfold escV; rw [← hw, if_neg hne, hrv]; rfl, by rw [ht]; exact hP, va_K.moved hW.alike hK, hD⟩, hS.F ht⟩) hS.2.2 d_Tape_escape_161
          · refine lv_tableIn (tgt := 143) hx hb d_Tape_escape_45 (by omega) (by omega) (by rw [h]; rfl) (by decide) ?_
            have hrv : r = 116 := Int32.toInt_inj.mp (h.trans (by decide))
            refine lv_bipush (v := 9) hx hb d_Tape_escape_143 (by decide) ?_
            exact W.iret (v := 9) hx hb hr (fun t ht hW => ⟨⟨9, i + 1 + 1, rfl, by unfold escV; rw [← hw, if_neg hne, hrv]; rfl, by rw [ht]; exact hP, va_K.moved hW.alike hK, hD⟩, hS.F ht⟩) hS.2.2 d_Tape_escape_145
          · refine lv_tableIn (tgt := 155) hx hb d_Tape_escape_45 (by omega) (by omega) (by rw [h]; rfl) (by decide) ?_
            have hrv : r = 117 := Int32.toInt_inj.mp (h.trans (by decide))
            refine lv_aload_n hx hb d_Tape_escape_155 rfl (lv_at hl 1 rfl) ?_
            have hw0 := hw
            have hPc := hP.sub (ws' := [(h0, .inr (8, [.ref qb, ru, .int uc, .int ln, .int (nI n), .int (nI (i + 1 + 1)), .int pl])), (qb, .inl (cB, 4096, .inl f))]) [0, 1] rfl
            have hDc := hD.sub (ws' := [(h0, .inr (8, [.ref qb, ru, .int uc, .int ln, .int (nI n), .int (nI (i + 1 + 1)), .int pl])), (qb, .inl (cB, 4096, .inl f))]) [0, 1] (by decide) rfl
            have hKc := hK.sub (tys' := [(cB, .byte)]) [0] rfl
            have hFc := va_free (wc := [(h0, .inr (8, [.ref qb, ru, .int uc, .int ln, .int (nI n), .int (nI (i + 1 + 1)), .int pl])), (qb, .inl (cB, 4096, .inl f))]) hD hS hA [0, 1] rfl
            refine va_calli (va_runV (As := []) (rest := []) ⟨hx, hb, hml, hown, hts⟩ (c_Tape_fourHexDigits l dC dI cB h0 qb H ru uc ln pl f n (i + 1 + 1) (by omega) (by omega)) (cwV 0 hts (gt_V (own := R_Tape) (C := R_Tape) (i := 95) (y := y_Tape_fourHexDigits) i_Tape_fourHexDigits w_422 w_424 (gt_sel (y := y_Tape_fourHexDigits) (n := 7) (by decide +kernel)) w_2) rfl rfl rfl (by decide +kernel) ⟨Nat.le_of_ble_eq_true rfl, Nat.le_of_ble_eq_true rfl⟩) ⟨mp_blind, va_recv hKc hPc (ci := 8) (q0 := 0) rfl rfl, fun U hU hW => ⟨rfl, hU, by rw [hU]; exact hPc, va_K.moved hW.alike hKc, hDc.weaken (fun _ _ _ _ => trivial)⟩⟩ rfl rfl hl.1 rfl (lv_room (Nat.le_of_ble_eq_true rfl)) d_Tape_escape_156 ⟨Nat.le_of_ble_eq_true rfl, Nat.le_of_ble_eq_true rfl⟩) hS (fun q _ h => hFc q h) hFc (fun r2 u t H1 locs ht hvm hw hB hz1 hk1 hS => ?_)
            obtain ⟨hP1, hK1, hD1⟩ := hB
            rw [ht] at hP1
            obtain ⟨hP, hD⟩ := va_join (wr := []) (w1 := [(h0, .inr (8, [.ref qb, ru, .int uc, .int ln, .int (nI n), .int (nI u), .int pl])), (qb, .inl (cB, 4096, .inl f))]) hP hD [0, 1] [] rfl rfl (by decide) (by decide) hk1 hFc hP1 hD1
            generalize H1 = H at hP hS ⊢
            have hP : va_P (dC, dI) classes [(h0, .inr (8, [.ref qb, ru, .int uc, .int ln, .int (nI n), .int (nI u), .int pl])), (qb, .inl (cB, 4096, .inl f))] H := hP
            have hD : va_D A [(h0, .inr (8, [.ref qb, ru, .int uc, .int ln, .int (nI n), .int (nI u), .int pl])), (qb, .inl (cB, 4096, .inl f))] := hD
            have hw : (r2, u) = hex4 f n 4 (i + 1 + 1) 0 := hw
            exact W.iret (v := r2) hx hb hr (fun t ht hW => ⟨⟨r2, u, rfl, by unfold escV; rw [← hw0, if_neg hne, if_pos hrv]; exact hw, by rw [ht]; exact hP, va_K.moved hW.alike hK, hD⟩, hS.F ht⟩) hS.2.2 d_Tape_escape_159
      · refine lv_iload_n hx hb d_Tape_escape_42 rfl (lv_at hl 0 rfl) ?_
        exact W.iret (v := r) hx hb hr (fun t ht hW => ⟨⟨r, i + 1 + 1, rfl, by unfold escV; rw [← hw, if_pos (Or.inr (Or.inr c39))], by rw [ht]; exact hP, va_K.moved hW.alike hK, hD⟩, hS.F ht⟩) hS.2.2 d_Tape_escape_43
