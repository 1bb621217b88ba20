theorem w_140 : (.fieldLink "QueryBench" 117 "QueryBench$Printer" "bytes" "[B" : Cond) ∈ gtbl := gt_in 140 (by decide +kernel) (by decide +kernel)
/-- eight bytes of a row, the highest first, zeros behind its end -/
def wdC (f : Nat → Int32) (n : Nat) : Nat → Nat → Int64 → Int64
  | 0, _, a => a
  | c + 1, k, a => wdC f n c (k + 1) ((a <<< ((8 : Int32).toInt64 &&& 63)) ||| (if k < n then f k &&& 255 else 0).toInt64)
abbrev b_QB_word : ByteArray := prog_1_method_8_code
def y_QB_word : MethodName := ⟨"QueryBench", "word", "(I)J"⟩
abbrev k_QB_word : Cond := .code y_QB_word b_QB_word 6 (some .long)
theorem i_QB_word : k_QB_word ∈ gtbl := gt_in 1012 (by decide +kernel) (by decide +kernel)
theorem d_QB_word_0 : decode b_QB_word 0 = .ok (.iload_n 1, 1) := by decide +kernel
theorem d_QB_word_1 : decode b_QB_word 1 = .ok (.ifCond .lt 14, 3) := by decide +kernel
theorem d_QB_word_4 : decode b_QB_word 4 = .ok (.iload_n 1, 1) := by decide +kernel
theorem d_QB_word_5 : decode b_QB_word 5 = .ok (.aload_n 0, 1) := by decide +kernel
theorem d_QB_word_6 : decode b_QB_word 6 = .ok (.getfield 48, 3) := by decide +kernel
theorem d_QB_word_9 : decode b_QB_word 9 = .ok (.getfield 103, 3) := by decide +kernel
theorem d_QB_word_12 : decode b_QB_word 12 = .ok (.if_icmp .lt 11, 3) := by decide +kernel
theorem d_QB_word_15 : decode b_QB_word 15 = .ok (.new 59, 3) := by decide +kernel
theorem d_QB_word_18 : decode b_QB_word 18 = .ok (.dup, 1) := by decide +kernel
theorem d_QB_word_19 : decode b_QB_word 19 = .ok (.invokespecial 61, 3) := by decide +kernel
theorem d_QB_word_22 : decode b_QB_word 22 = .ok (.athrow, 1) := by decide +kernel
theorem d_QB_word_23 : decode b_QB_word 23 = .ok (.lconst 0, 1) := by decide +kernel
theorem d_QB_word_24 : decode b_QB_word 24 = .ok (.lstore_n 2, 1) := by decide +kernel
theorem d_QB_word_25 : decode b_QB_word 25 = .ok (.iload_n 1, 1) := by decide +kernel
theorem d_QB_word_26 : decode b_QB_word 26 = .ok (.istore 4, 2) := by decide +kernel
theorem d_QB_word_28 : decode b_QB_word 28 = .ok (.iload 4, 2) := by decide +kernel
theorem d_QB_word_30 : decode b_QB_word 30 = .ok (.iload_n 1, 1) := by decide +kernel
theorem d_QB_word_31 : decode b_QB_word 31 = .ok (.bipush 8, 2) := by decide +kernel
theorem d_QB_word_33 : decode b_QB_word 33 = .ok (.iadd, 1) := by decide +kernel
theorem d_QB_word_34 : decode b_QB_word 34 = .ok (.if_icmp .ge 50, 3) := by decide +kernel
theorem d_QB_word_37 : decode b_QB_word 37 = .ok (.iload 4, 2) := by decide +kernel
theorem d_QB_word_39 : decode b_QB_word 39 = .ok (.aload_n 0, 1) := by decide +kernel
theorem d_QB_word_40 : decode b_QB_word 40 = .ok (.getfield 48, 3) := by decide +kernel
theorem d_QB_word_43 : decode b_QB_word 43 = .ok (.getfield 103, 3) := by decide +kernel
theorem d_QB_word_46 : decode b_QB_word 46 = .ok (.if_icmp .ge 20, 3) := by decide +kernel
theorem d_QB_word_49 : decode b_QB_word 49 = .ok (.aload_n 0, 1) := by decide +kernel
theorem d_QB_word_50 : decode b_QB_word 50 = .ok (.getfield 48, 3) := by decide +kernel
theorem d_QB_word_53 : decode b_QB_word 53 = .ok (.getfield 117, 3) := by decide +kernel
theorem d_QB_word_56 : decode b_QB_word 56 = .ok (.iload 4, 2) := by decide +kernel
theorem d_QB_word_58 : decode b_QB_word 58 = .ok (.baload, 1) := by decide +kernel
theorem d_QB_word_59 : decode b_QB_word 59 = .ok (.sipush 255, 3) := by decide +kernel
theorem d_QB_word_62 : decode b_QB_word 62 = .ok (.iand, 1) := by decide +kernel
theorem d_QB_word_63 : decode b_QB_word 63 = .ok (.goto 4, 3) := by decide +kernel
theorem d_QB_word_66 : decode b_QB_word 66 = .ok (.iconst 0, 1) := by decide +kernel
theorem d_QB_word_67 : decode b_QB_word 67 = .ok (.istore 5, 2) := by decide +kernel
theorem d_QB_word_69 : decode b_QB_word 69 = .ok (.lload_n 2, 1) := by decide +kernel
theorem d_QB_word_70 : decode b_QB_word 70 = .ok (.bipush 8, 2) := by decide +kernel
theorem d_QB_word_72 : decode b_QB_word 72 = .ok (.lshl, 1) := by decide +kernel
theorem d_QB_word_73 : decode b_QB_word 73 = .ok (.iload 5, 2) := by decide +kernel
theorem d_QB_word_75 : decode b_QB_word 75 = .ok (.i2l, 1) := by decide +kernel
theorem d_QB_word_76 : decode b_QB_word 76 = .ok (.lor, 1) := by decide +kernel
theorem d_QB_word_77 : decode b_QB_word 77 = .ok (.lstore_n 2, 1) := by decide +kernel
theorem d_QB_word_78 : decode b_QB_word 78 = .ok (.iinc 4 1, 3) := by decide +kernel
theorem d_QB_word_81 : decode b_QB_word 81 = .ok (.goto (-53), 3) := by decide +kernel
theorem d_QB_word_84 : decode b_QB_word 84 = .ok (.lload_n 2, 1) := by decide +kernel
theorem d_QB_word_85 : decode b_QB_word 85 = .ok (.lreturn, 1) := by decide +kernel
theorem xa_QB_word_15 : ∀ w ∈ vx_at0 R_QB 61 "java/lang/IndexOutOfBoundsException" ["java/lang/RuntimeException", "java/lang/Exception"], (goodWord w = true ∧ w ∈ lw_tbl) ∨ w ∈ nwl := by decide +kernel
theorem xa_QB_word_15_g : ∀ w ∈ Cond.classLink R_QB 59 "java/lang/IndexOutOfBoundsException" :: Cond.initialized "java/lang/IndexOutOfBoundsException" :: vx_at0 R_QB 61 "java/lang/IndexOutOfBoundsException" ["java/lang/RuntimeException", "java/lang/Exception"], vx_ot w = true := by decide +kernel
set_option maxHeartbeats 4000000 in
set_option maxRecDepth 100000 in
/-- QueryBench.word -/
theorem c_QB_word (l : Launch) (hl9 : l.stackTraces = false) (dC : Nat → ClassId) (dI : Nat → Nat → Nat) (cB : ClassId) (q0 p1 pb : Nat) (sz : Heap) (r0 r1 r2 r3 r4 r5 r7 rps : Value) (f : Nat → Int32) (n : Nat) (ii : Int32) (hn0 : n ≤ 16384) : vx_Met l y_QB_word (k_QB_word :: gtbl) ({ frames := 8, cells := 1, slots := 6, locals := 110 }) (va_Pc [.ref q0, .int ii] (mx dC dI [(q0, .inr (11, [r0, r1, r2, r3, r4, r5, .ref p1, r7])), (p1, .inr (3, [.ref pb, .int (nI n), rps])), (pb, .inl (cB, 16384, .inl f))] [(cB, .byte)] sz)) (va_Ql (fun (r : Int64) (_ : Unit) => (¬ ii < 0 ∧ ii < nI n) ∧ ∀ k9, k9 < n ∧ ii = nI k9 → r = wdC f n 8 k9 0) (fun _ t => mz dC dI [(q0, .inr (11, [r0, r1, r2, r3, r4, r5, .ref p1, r7])), (p1, .inr (3, [.ref pb, .int (nI n), rps])), (pb, .inl (cB, 16384, .inl f))] [(cB, .byte)] (va_A [(q0, .inr (11, [r0, r1, r2, r3, r4, r5, .ref p1, r7])), (p1, .inr (3, [.ref pb, .int (nI n), rps])), (pb, .inl (cB, 16384, .inl f))] sz.size) t ∧ szk sz t.heap 0 0) (va_A [(q0, .inr (11, [r0, r1, r2, r3, r4, r5, .ref p1, r7])), (p1, .inr (3, [.ref pb, .int (nI n), rps])), (pb, .inl (cB, 16384, .inl f))] sz.size)) (vx_X (fun _ : Unit => ¬ (¬ ii < 0 ∧ ii < nI n)) (fun E _ t => E = "java/lang/IndexOutOfBoundsException" ∧ mz dC dI [(q0, .inr (11, [r0, r1, r2, r3, r4, r5, .ref p1, r7])), (p1, .inr (3, [.ref pb, .int (nI n), rps])), (pb, .inl (cB, 16384, .inl f))] [(cB, .byte)] (va_A [(q0, .inr (11, [r0, r1, r2, r3, r4, r5, .ref p1, r7])), (p1, .inr (3, [.ref pb, .int (nI n), rps])), (pb, .inl (cB, 16384, .inl f))] sz.size) t) (va_A [(q0, .inr (11, [r0, r1, r2, r3, r4, r5, .ref p1, r7])), (p1, .inr (3, [.ref pb, .int (nI n), rps])), (pb, .inl (cB, 16384, .inl f))] sz.size)) 1 6 (va_A [(q0, .inr (11, [r0, r1, r2, r3, r4, r5, .ref p1, r7])), (p1, .inr (3, [.ref pb, .int (nI n), rps])), (pb, .inl (cB, 16384, .inl f))] sz.size) := by
  refine vx_ofW (cc := b_QB_word) (maxL := 6) (ret := (some .long)) (by decide) rfl ?_
  intro p e s m args below meth c s₁ B hml hex hv
  obtain ⟨rfl, ⟨hsz, hP, hK, hD0⟩, hN, hZ⟩ := hv
  have hx := B.exec
  have hb := B.bytes
  have hr := B.returns
  have hts0 := atoms_spec (ws := k_QB_word :: gtbl) B.pre
  have hts := fun w h => hts0 w (List.mem_cons_of_mem _ h)
  have hown : s.vm.findClass R_QB = some m.cls := findClass_of_methodNamed B.named
  have hlocks := B.notSynchronized
  subst hsz
  have hD := hD0.self (sz := s.heap.size)
  generalize hAe : va_A [(q0, .inr (11, [r0, r1, r2, r3, r4, r5, .ref p1, r7])), (p1, .inr (3, [.ref pb, .int (nI n), rps])), (pb, .inl (cB, 16384, .inl f))] s.heap.size = A at hD hZ ⊢
  have hA : ∀ q : Nat, s.heap.size ≤ q → A q := fun q h => by rw [← hAe]; exact Or.inr h
  have hS : va_S A s.heap s.heap [] := va_S.rf
  have hP : va_P (dC, dI) classes [(q0, .inr (11, [r0, r1, r2, r3, r4, r5, .ref p1, r7])), (p1, .inr (3, [.ref pb, .int (nI n), rps])), (pb, .inl (cB, 16384, .inl f))] s.heap := hP
  have hl := lv_entry ([.ref q0, .int ii]) (n := 6) (Nat.le_of_ble_eq_true rfl)
  rw [lg_entry_eq]
  generalize (lg_sl ([.ref q0, .int ii]) ++ List.replicate (6 - (lg_sl ([.ref q0, .int ii])).length) Slot.unset).toArray = ls at hl ⊢
  have hl : lv_has ls 6 [(0, .ref q0), (1, .int ii)] := hl
  refine lv_iload_n hx hb d_QB_word_0 rfl (lv_at hl 1 rfl) ?_
  refine lv_if_lt (tgt := 15) hx hb d_QB_word_1 (by decide) (fun c1 => ?_) (fun c1 => ?_)
  · exact vx_throw0 (own := R_QB) (cls := "java/lang/IndexOutOfBoundsException") (names := ["java/lang/RuntimeException", "java/lang/Exception"]) hx hb hl9 hown (by decide +kernel) (by decide +kernel) (hts _ w_184) (hts _ w_12) (hat hts hN xa_QB_word_15) xa_QB_word_15_g hZ.1 hZ.2 hS (hl.1.trans hml.symm) d_QB_word_15 d_QB_word_18 d_QB_word_19 d_QB_word_22 (fun x hx => (hex x hx).elim) (Nat.le_of_ble_eq_true rfl) (Nat.le_of_ble_eq_true rfl) (Nat.le_of_ble_eq_true rfl) (Nat.le_of_ble_eq_true rfl) hlocks (fun t ha hsz hk => ⟨(), (fun h => h.1 c1), ⟨rfl, hP.kept (fun k q hq => hk q.1 (hP k q hq).lt), va_K.moved ha hK, hD⟩, Nat.le_trans hS.1 hsz, fun q h1 h2 => (hk q (Nat.lt_of_lt_of_le h1 hS.1)).trans (hS.2.1 q h1 h2)⟩) hS.2.2 (Nat.le_of_ble_eq_true rfl) (Nat.le_of_ble_eq_true rfl)
  · refine lv_iload_n hx hb d_QB_word_4 rfl (lv_at hl 1 rfl) ?_
    refine lv_aload_n hx hb d_QB_word_5 rfl (lv_at hl 0 rfl) ?_
    refine va_get (D := (dC, dI)) (ci := 11) (v := .ref p1) (C := R_QB) (T := F_QB) (N := 8) hx hb hts in_QB hown hK hP 0 rfl rfl 6 (by decide) (hts _ w_157) (fun _ h9 => h9) rfl d_QB_word_6 ?_
    refine va_get (D := (dC, dI)) (ci := 3) (v := .int (nI n)) (C := R_Printer) (T := F_Printer) (N := 3) hx hb hts in_Printer hown hK hP 1 rfl rfl 1 (by decide) (hts _ w_142) (fun _ h9 => h9) rfl d_QB_word_9 ?_
    refine lv_icmp_lt (tgt := 23) hx hb d_QB_word_12 (by decide) (fun c12 => ?_) (fun c12 => ?_)
    · obtain ⟨k0, hk1, hk2⟩ := nI_of c1
      have hkn : k0 < n := by rw [hk2, nI_ltI hk1 (by omega)] at c12; exact c12
      rw [hk2] at hl
      refine lv_lconst (v := 0) hx hb d_QB_word_23 (by decide) ?_
      refine lv_lstore_n (lv' := [(2, .long 0), (0, .ref q0), (1, .int (nI k0))]) hx hb d_QB_word_24 rfl hl (by decide) rfl (fun ls hl => ?_)
      refine lv_iload_n hx hb d_QB_word_25 rfl (lv_at hl 2 rfl) ?_
      refine lv_istore (lv' := [(4, .int (nI k0)), (2, .long 0), (0, .ref q0), (1, .int (nI k0))]) hx hb d_QB_word_26 hl (by decide) rfl (fun ls hl => ?_)
      refine w_loop (D := (dC, dI)) (cl := classes) (A := A) (H0 := s.heap) (nL := 6) 28 (σ := Nat × Nat × Int64) (fun ⟨c9, k, a⟩ => c9 ≤ 8 ∧ k + c9 = k0 + 8 ∧ wdC f n c9 k a = wdC f n 8 k0 0) (fun ⟨c9, k, a⟩ => c9) (fun ⟨c9, k, a⟩ => [(q0, .inr (11, [r0, r1, r2, r3, r4, r5, .ref p1, r7])), (p1, .inr (3, [.ref pb, .int (nI n), rps])), (pb, .inl (cB, 16384, .inl f))]) (fun ⟨c9, k, a⟩ => [(0, .ref q0), (1, .int (nI k0)), (2, .long a), (4, .int (nI k))]) ?_ (8, k0, 0) ⟨by omega, by omega, rfl⟩ hP hD hS (lv_sub hl [2, 3, 1, 0] rfl)
      rintro ⟨c9, k, a⟩ H locs ls hI ih hP hD hS hl
      have hP : va_P (dC, dI) classes [(q0, .inr (11, [r0, r1, r2, r3, r4, r5, .ref p1, r7])), (p1, .inr (3, [.ref pb, .int (nI n), rps])), (pb, .inl (cB, 16384, .inl f))] H := hP
      have hD : va_D A [(q0, .inr (11, [r0, r1, r2, r3, r4, r5, .ref p1, r7])), (p1, .inr (3, [.ref pb, .int (nI n), rps])), (pb, .inl (cB, 16384, .inl f))] := hD
      have hl : lv_has ls 6 [(0, .ref q0), (1, .int (nI k0)), (2, .long a), (4, .int (nI k))] := hl
      obtain ⟨hI1, hI2, hI3⟩ := hI
      refine lv_iload hx hb d_QB_word_28 (lv_at hl 3 rfl) ?_
      refine lv_iload_n hx hb d_QB_word_30 rfl (lv_at hl 1 rfl) ?_
      refine lv_bipush (v := 8) hx hb d_QB_word_31 (by decide) ?_
      refine lv_iadd hx hb d_QB_word_33 ?_
      refine W.eq (g2 := F0 m 34 ls [.int (nI (k0 + 8)), .int (nI k)]) (by rw [show ((nI k0) + 8) = (nI (k0 + 8)) from nI_add k0 8]) ?_
      refine lv_icmp_ge (tgt := 84) hx hb d_QB_word_34 (by decide) (fun c34 => ?_) (fun c34 => ?_)
      · have hc9 : c9 = 0 := by rw [nI_leI (by omega) (by omega)] at c34; omega
        refine lv_lload_n hx hb d_QB_word_84 rfl (lv_at hl 2 rfl) ?_
        have hfin : a = wdC f n 8 k0 0 := by rw [← hI3, hc9]; rfl
        refine w_same (fun hq => ?_)
        refine W.widen (k := 1) (n := 6) (Nat.le_of_ble_eq_true rfl) (Nat.le_of_ble_eq_true rfl) ?_
        refine vx_ret ?_
        exact W.lret (v := a) hx hb hr (fun t ht hW => ⟨⟨a, (), rfl, ⟨⟨c1, c12⟩, fun k9 hk8 => by rw [hfin]; congr 1; exact (nI_eq hk1 (by omega)).mp (hk2.symm.trans hk8.2)⟩, ⟨by rw [ht]; exact hP, va_K.moved hW.alike hK, hD⟩, by rw [ht]; exact hq⟩, hS.F ht⟩) hS.2.2 d_QB_word_85
      · have hc9 : 0 < c9 := by rw [nI_leI (by omega) (by omega)] at c34; omega
        refine lv_iload hx hb d_QB_word_37 (lv_at hl 3 rfl) ?_
        refine lv_aload_n hx hb d_QB_word_39 rfl (lv_at hl 0 rfl) ?_
        refine va_get (D := (dC, dI)) (ci := 11) (v := .ref p1) (C := R_QB) (T := F_QB) (N := 8) hx hb hts in_QB hown hK hP 0 rfl rfl 6 (by decide) (hts _ w_157) (fun _ h9 => h9) rfl d_QB_word_40 ?_
        refine va_get (D := (dC, dI)) (ci := 3) (v := .int (nI n)) (C := R_Printer) (T := F_Printer) (N := 3) hx hb hts in_Printer hown hK hP 1 rfl rfl 1 (by decide) (hts _ w_142) (fun _ h9 => h9) rfl d_QB_word_43 ?_
        refine lv_icmp_ge (tgt := 66) hx hb d_QB_word_46 (by decide) (fun c46 => ?_) (fun c46 => ?_)
        · have hk9 : ¬ k < n := by rw [nI_leI (by omega) (by omega)] at c46; omega
          refine lv_iconst (v := 0) hx hb d_QB_word_66 (by decide) ?_
          refine lv_istore (lv' := [(5, .int 0), (0, .ref q0), (1, .int (nI k0)), (2, .long a), (4, .int (nI k))]) hx hb d_QB_word_67 hl (by decide) rfl (fun ls hl => ?_)
          refine lv_lload_n hx hb d_QB_word_69 rfl (lv_at hl 3 rfl) ?_
          refine lv_bipush (v := 8) hx hb d_QB_word_70 (by decide) ?_
          refine lv_lshl (v := a <<< ((8 : Int32).toInt64 &&& 63)) hx hb d_QB_word_72 rfl ?_
          refine lv_iload hx hb d_QB_word_73 (lv_at hl 0 rfl) ?_
          refine lv_i2l (v := (0 : Int32).toInt64) hx hb d_QB_word_75 rfl ?_
          refine lv_lor hx hb d_QB_word_76 ?_
          refine lv_lstore_n (lv' := [(2, .long ((a <<< ((8 : Int32).toInt64 &&& 63)) ||| ((0 : Int32).toInt64))), (5, .int 0), (0, .ref q0), (1, .int (nI k0)), (4, .int (nI k))]) hx hb d_QB_word_77 rfl hl (by decide) rfl (fun ls hl => ?_)
          refine lv_iinc (v := nI (k + 1)) (lv' := [(4, .int (nI (k + 1))), (2, .long ((a <<< ((8 : Int32).toInt64 &&& 63)) ||| ((0 : Int32).toInt64))), (5, .int 0), (0, .ref q0), (1, .int (nI k0))]) hx hb d_QB_word_78 hl (k := 4) rfl (nI_1 k) (by decide) rfl (fun ls hl => ?_)
          refine lv_goto (tgt := 28) hx hb d_QB_word_81 (by decide) ?_
          have hst : wdC f n c9 k a = wdC f n (c9 - 1) (k + 1) (((a <<< ((8 : Int32).toInt64 &&& 63)) ||| ((0 : Int32).toInt64))) := by obtain ⟨c0, rfl⟩ : ∃ c0, c9 = c0 + 1 := ⟨c9 - 1, by omega⟩; simp only [wdC]; rw [if_neg hk9]; rfl
          exact ih (c9 - 1, k + 1, ((a <<< ((8 : Int32).toInt64 &&& 63)) ||| ((0 : Int32).toInt64))) _ _ _ ⟨by omega, by omega, by rw [← hI3]; exact hst.symm⟩ (by show c9 - 1 < c9; omega) hP hD hS (lv_sub hl [3, 4, 1, 0] rfl)
        · have hk9 : k < n := by rw [nI_leI (by omega) (by omega)] at c46; omega
          refine lv_aload_n hx hb d_QB_word_49 rfl (lv_at hl 0 rfl) ?_
          refine va_get (D := (dC, dI)) (ci := 11) (v := .ref p1) (C := R_QB) (T := F_QB) (N := 8) hx hb hts in_QB hown hK hP 0 rfl rfl 6 (by decide) (hts _ w_157) (fun _ h9 => h9) rfl d_QB_word_50 ?_
          refine va_get (D := (dC, dI)) (ci := 3) (v := .ref pb) (C := R_Printer) (T := F_Printer) (N := 3) hx hb hts in_Printer hown hK hP 1 rfl rfl 0 (by decide) (hts _ w_140) (fun _ h9 => h9) rfl d_QB_word_53 ?_
          refine lv_iload hx hb d_QB_word_56 (lv_at hl 3 rfl) ?_
          refine va_bald hx hb hK hP 2 0 rfl rfl (vp_in_nI (show k < 16384 by omega) (by decide)) d_QB_word_58 ?_
          rw [show (nI k).toNatClampNeg = k from nI_clamp (by omega)]
          refine lv_sipush (v := 255) hx hb d_QB_word_59 (by decide) ?_
          refine lv_iand hx hb d_QB_word_62 ?_
          refine lv_goto (tgt := 67) hx hb d_QB_word_63 (by decide) ?_
          refine lv_istore (lv' := [(5, .int ((f k) &&& 255)), (0, .ref q0), (1, .int (nI k0)), (2, .long a), (4, .int (nI k))]) hx hb d_QB_word_67 hl (by decide) rfl (fun ls hl => ?_)
          refine lv_lload_n hx hb d_QB_word_69 rfl (lv_at hl 3 rfl) ?_
          refine lv_bipush (v := 8) hx hb d_QB_word_70 (by decide) ?_
          refine lv_lshl (v := a <<< ((8 : Int32).toInt64 &&& 63)) hx hb d_QB_word_72 rfl ?_
          refine lv_iload hx hb d_QB_word_73 (lv_at hl 0 rfl) ?_
          refine lv_i2l (v := (((f k) &&& 255)).toInt64) hx hb d_QB_word_75 rfl ?_
          refine lv_lor hx hb d_QB_word_76 ?_
          refine lv_lstore_n (lv' := [(2, .long ((a <<< ((8 : Int32).toInt64 &&& 63)) ||| ((((f k) &&& 255)).toInt64))), (5, .int ((f k) &&& 255)), (0, .ref q0), (1, .int (nI k0)), (4, .int (nI k))]) hx hb d_QB_word_77 rfl hl (by decide) rfl (fun ls hl => ?_)
          refine lv_iinc (v := nI (k + 1)) (lv' := [(4, .int (nI (k + 1))), (2, .long ((a <<< ((8 : Int32).toInt64 &&& 63)) ||| ((((f k) &&& 255)).toInt64))), (5, .int ((f k) &&& 255)), (0, .ref q0), (1, .int (nI k0))]) hx hb d_QB_word_78 hl (k := 4) rfl (nI_1 k) (by decide) rfl (fun ls hl => ?_)
          refine lv_goto (tgt := 28) hx hb d_QB_word_81 (by decide) ?_
          have hst : wdC f n c9 k a = wdC f n (c9 - 1) (k + 1) (((a <<< ((8 : Int32).toInt64 &&& 63)) ||| ((((f k) &&& 255)).toInt64))) := by obtain ⟨c0, rfl⟩ : ∃ c0, c9 = c0 + 1 := ⟨c9 - 1, by omega⟩; simp only [wdC]; rw [if_pos hk9]; rfl
          exact ih (c9 - 1, k + 1, ((a <<< ((8 : Int32).toInt64 &&& 63)) ||| ((((f k) &&& 255)).toInt64))) _ _ _ ⟨by omega, by omega, by rw [← hI3]; exact hst.symm⟩ (by show c9 - 1 < c9; omega) hP hD hS (lv_sub hl [3, 4, 1, 0] rfl)
    · exact vx_throw0 (own := R_QB) (cls := "java/lang/IndexOutOfBoundsException") (names := ["java/lang/RuntimeException", "java/lang/Exception"]) hx hb hl9 hown (by decide +kernel) (by decide +kernel) (hts _ w_184) (hts _ w_12) (hat hts hN xa_QB_word_15) xa_QB_word_15_g hZ.1 hZ.2 hS (hl.1.trans hml.symm) d_QB_word_15 d_QB_word_18 d_QB_word_19 d_QB_word_22 (fun x hx => (hex x hx).elim) (Nat.le_of_ble_eq_true rfl) (Nat.le_of_ble_eq_true rfl) (Nat.le_of_ble_eq_true rfl) (Nat.le_of_ble_eq_true rfl) hlocks (fun t ha hsz hk => ⟨(), (fun h => c12 h.2), ⟨rfl, hP.kept (fun k q hq => hk q.1 (hP k q hq).lt), va_K.moved ha hK, hD⟩, Nat.le_trans hS.1 hsz, fun q h1 h2 => (hk q (Nat.lt_of_lt_of_le h1 hS.1)).trans (hS.2.1 q h1 h2)⟩) hS.2.2 (Nat.le_of_ble_eq_true rfl) (Nat.le_of_ble_eq_true rfl)
