theorem w_1091 : (.fieldLink "QueryBenchModel" 13 "QueryBenchModel" "result" "[B" : Cond) ∈ gtbl := gt_in 1091 (by decide +kernel) (by decide +kernel)
theorem w_1204 : (.constantLong "QueryBenchModel" 133 255 : Cond) ∈ gtbl := gt_in 1204 (by decide +kernel) (by decide +kernel)
theorem w255 (x : Int32) : (x &&& 255).toInt64 = x.toInt64 &&& 255 := by rw [Int32.toInt64_and]; rfl
abbrev b_Mo_word : ByteArray := prog_14_method_10_code
def y_Mo_word : MethodName := ⟨"QueryBenchModel", "word", "(I)J"⟩
abbrev k_Mo_word : Cond := .code y_Mo_word b_Mo_word 5 (some .long)
theorem i_Mo_word : k_Mo_word ∈ gtbl := gt_in 1203 (by decide +kernel) (by decide +kernel)
theorem d_Mo_word_0 : decode b_Mo_word 0 = .ok (.aload_n 0, 1) := by decide +kernel
theorem d_Mo_word_1 : decode b_Mo_word 1 = .ok (.iload_n 1, 1) := by decide +kernel
theorem d_Mo_word_2 : decode b_Mo_word 2 = .ok (.ifCond .lt 15, 3) := by decide +kernel
theorem d_Mo_word_5 : decode b_Mo_word 5 = .ok (.iload_n 1, 1) := by decide +kernel
theorem d_Mo_word_6 : decode b_Mo_word 6 = .ok (.aload_n 0, 1) := by decide +kernel
theorem d_Mo_word_7 : decode b_Mo_word 7 = .ok (.getfield 130, 3) := by decide +kernel
theorem d_Mo_word_10 : decode b_Mo_word 10 = .ok (.if_icmp .ge 7, 3) := by decide +kernel
theorem d_Mo_word_13 : decode b_Mo_word 13 = .ok (.iconst 1, 1) := by decide +kernel
theorem d_Mo_word_14 : decode b_Mo_word 14 = .ok (.goto 4, 3) := by decide +kernel
theorem d_Mo_word_17 : decode b_Mo_word 17 = .ok (.iconst 0, 1) := by decide +kernel
theorem d_Mo_word_18 : decode b_Mo_word 18 = .ok (.iconst 1, 1) := by decide +kernel
theorem d_Mo_word_19 : decode b_Mo_word 19 = .ok (.invokevirtual 122, 3) := by decide +kernel
theorem d_Mo_word_22 : decode b_Mo_word 22 = .ok (.ifCond .ne 5, 3) := by decide +kernel
theorem d_Mo_word_25 : decode b_Mo_word 25 = .ok (.lconst 0, 1) := by decide +kernel
theorem d_Mo_word_26 : decode b_Mo_word 26 = .ok (.lreturn, 1) := by decide +kernel
theorem d_Mo_word_27 : decode b_Mo_word 27 = .ok (.lconst 0, 1) := by decide +kernel
theorem d_Mo_word_28 : decode b_Mo_word 28 = .ok (.lstore_n 2, 1) := by decide +kernel
theorem d_Mo_word_29 : decode b_Mo_word 29 = .ok (.iload_n 1, 1) := by decide +kernel
theorem d_Mo_word_30 : decode b_Mo_word 30 = .ok (.istore 4, 2) := by decide +kernel
theorem d_Mo_word_32 : decode b_Mo_word 32 = .ok (.iload 4, 2) := by decide +kernel
theorem d_Mo_word_34 : decode b_Mo_word 34 = .ok (.iload_n 1, 1) := by decide +kernel
theorem d_Mo_word_35 : decode b_Mo_word 35 = .ok (.bipush 8, 2) := by decide +kernel
theorem d_Mo_word_37 : decode b_Mo_word 37 = .ok (.iadd, 1) := by decide +kernel
theorem d_Mo_word_38 : decode b_Mo_word 38 = .ok (.if_icmp .ge 40, 3) := by decide +kernel
theorem d_Mo_word_41 : decode b_Mo_word 41 = .ok (.lload_n 2, 1) := by decide +kernel
theorem d_Mo_word_42 : decode b_Mo_word 42 = .ok (.bipush 8, 2) := by decide +kernel
theorem d_Mo_word_44 : decode b_Mo_word 44 = .ok (.lshl, 1) := by decide +kernel
theorem d_Mo_word_45 : decode b_Mo_word 45 = .ok (.iload 4, 2) := by decide +kernel
theorem d_Mo_word_47 : decode b_Mo_word 47 = .ok (.aload_n 0, 1) := by decide +kernel
theorem d_Mo_word_48 : decode b_Mo_word 48 = .ok (.getfield 130, 3) := by decide +kernel
theorem d_Mo_word_51 : decode b_Mo_word 51 = .ok (.if_icmp .ge 18, 3) := by decide +kernel
theorem d_Mo_word_54 : decode b_Mo_word 54 = .ok (.aload_n 0, 1) := by decide +kernel
theorem d_Mo_word_55 : decode b_Mo_word 55 = .ok (.getfield 13, 3) := by decide +kernel
theorem d_Mo_word_58 : decode b_Mo_word 58 = .ok (.iload 4, 2) := by decide +kernel
theorem d_Mo_word_60 : decode b_Mo_word 60 = .ok (.baload, 1) := by decide +kernel
theorem d_Mo_word_61 : decode b_Mo_word 61 = .ok (.i2l, 1) := by decide +kernel
theorem d_Mo_word_62 : decode b_Mo_word 62 = .ok (.ldc2_w 133, 3) := by decide +kernel
theorem d_Mo_word_65 : decode b_Mo_word 65 = .ok (.land, 1) := by decide +kernel
theorem d_Mo_word_66 : decode b_Mo_word 66 = .ok (.goto 4, 3) := by decide +kernel
theorem d_Mo_word_69 : decode b_Mo_word 69 = .ok (.lconst 0, 1) := by decide +kernel
theorem d_Mo_word_70 : decode b_Mo_word 70 = .ok (.lor, 1) := by decide +kernel
theorem d_Mo_word_71 : decode b_Mo_word 71 = .ok (.lstore_n 2, 1) := by decide +kernel
theorem d_Mo_word_72 : decode b_Mo_word 72 = .ok (.iinc 4 1, 3) := by decide +kernel
theorem d_Mo_word_75 : decode b_Mo_word 75 = .ok (.goto (-43), 3) := by decide +kernel
theorem d_Mo_word_78 : decode b_Mo_word 78 = .ok (.lload_n 2, 1) := by decide +kernel
theorem d_Mo_word_79 : decode b_Mo_word 79 = .ok (.lreturn, 1) := by decide +kernel
set_option maxHeartbeats 4000000 in
set_option maxRecDepth 100000 in
/-- the reference: word(i) -/
theorem c_Mo_word (l : Launch) (dC : Nat → ClassId) (dI : Nat → Nat → Nat) (mo : Nat) (sz : Heap) (v : Nat → Value) (cB : ClassId) (qr rl : Nat) (f : Nat → Int32) (ii : Int32) (hrl : rl ≤ 16384) (h2 : v 2 = .ref qr) (h3 : v 3 = .int (nI rl)) : Met l y_Mo_word (k_Mo_word :: gtbl) ({ frames := 1, cells := 0, slots := 0, locals := 24 }) (va_Pc [.ref mo, .int ii] (mp dC dI [(mo, .inr (13, MF 30 v)), (qr, .inl (cB, 16384, .inl f))] [(cB, .byte)] sz)) (va_Ql (fun (r : Int64) (u : Nat → Value) => (∃ k9, k9 < rl ∧ ii = nI k9 ∧ r = wdC f rl 8 k9 0 ∧ u = va_up v 4 (.int 0)) ∨ (¬ (¬ ii < 0 ∧ ii < nI rl) ∧ u = va_up v 4 (.int 1))) (fun u t9 => mz dC dI [(mo, .inr (13, MF 30 u)), (qr, .inl (cB, 16384, .inl f))] [(cB, .byte)] (va_A [(mo, .inr (13, MF 30 v)), (qr, .inl (cB, 16384, .inl f))] sz.size) t9) (va_A [(mo, .inr (13, MF 30 v)), (qr, .inl (cB, 16384, .inl f))] sz.size)) 0 0 (va_A [(mo, .inr (13, MF 30 v)), (qr, .inl (cB, 16384, .inl f))] sz.size) := by
  refine Met.ofW (cc := b_Mo_word) (maxL := 5) (ret := (some .long)) (by decide) rfl ?_
  intro p e s m args below meth c s₁ B hml hv
  obtain ⟨rfl, hsz, hP, hK, hD0⟩ := hv
  have hx := B.exec
  have hb := B.bytes
  have hr := B.returns
  have hts0 := atoms_spec (ws := k_Mo_word :: gtbl) B.pre
  have hts := fun w h => hts0 w (List.mem_cons_of_mem _ h)
  have hown : s.vm.findClass R_Mo = some m.cls := findClass_of_methodNamed B.named
  have hlocks := B.notSynchronized
  subst hsz
  have hD := hD0.self (sz := s.heap.size)
  generalize hAe : va_A [(mo, .inr (13, MF 30 v)), (qr, .inl (cB, 16384, .inl f))] s.heap.size = A at hD ⊢
  have hA : ∀ q : Nat, s.heap.size ≤ q → A q := fun q h => by rw [← hAe]; exact Or.inr h
  have hS : va_S A s.heap s.heap [] := va_S.rf
  have hP : va_P (dC, dI) classes [(mo, .inr (13, MF 30 v)), (qr, .inl (cB, 16384, .inl f))] s.heap := hP
  have hl := lv_entry ([.ref mo, .int ii]) (n := 5) (Nat.le_of_ble_eq_true rfl)
  rw [lg_entry_eq]
  generalize (lg_sl ([.ref mo, .int ii]) ++ List.replicate (5 - (lg_sl ([.ref mo, .int ii])).length) Slot.unset).toArray = ls at hl ⊢
  have hl : lv_has ls 5 [(0, .ref mo), (1, .int ii)] := hl
  refine lv_aload_n hx hb d_Mo_word_0 rfl (lv_at hl 0 rfl) ?_
  refine lv_iload_n hx hb d_Mo_word_1 rfl (lv_at hl 1 rfl) ?_
  refine lv_if_lt (tgt := 17) hx hb d_Mo_word_2 (by decide) (fun c2 => ?_) (fun c2 => ?_)
  · refine lv_iconst (v := 0) hx hb d_Mo_word_17 (by decide) ?_
    refine lv_iconst (v := 1) hx hb d_Mo_word_18 (by decide) ?_
    have hPc := hP.sub (ws' := [(mo, .inr (13, MF 30 v))]) [0] rfl
    have hDc := hD.sub (ws' := [(mo, .inr (13, MF 30 v))]) [0] (by decide) rfl
    have hKc := hK.sub (tys' := []) [] rfl
    have hFc := va_free (wc := [(mo, .inr (13, MF 30 v))]) hD hS hA [0] rfl
    refine va_calli (va_runV (As := [.int 0, .int 1]) (rest := []) ⟨hx, hb, hml, hown, hts⟩ (c_Mo_good0 l dC dI mo s.heap v 1) (cwV 2 hts (gt_V (own := R_Mo) (C := R_Mo) (i := 122) (y := y_Mo_good) i_Mo_good w_1188 w_1190 (gt_sel (y := y_Mo_good) (n := 30) (by decide +kernel)) w_7) rfl rfl rfl (by decide +kernel) ⟨Nat.le_of_ble_eq_true rfl, Nat.le_of_ble_eq_true rfl⟩) ⟨mp_blind, va_recv hKc hPc (ci := 13) (q0 := 0) rfl rfl, fun U hU hW => ⟨rfl, hU, by rw [hU]; exact hPc, va_K.moved hW.alike hKc, hDc.weaken (fun _ _ _ _ => trivial)⟩⟩ rfl rfl hl.1 rfl (lv_room (Nat.le_of_ble_eq_true rfl)) d_Mo_word_19 ⟨Nat.le_of_ble_eq_true rfl, Nat.le_of_ble_eq_true rfl⟩) hS (fun q _ h => hFc q h) hFc (fun r0 _u t9 H1 locs ht hvm hw hB hz1 hk1 hS => ?_)
    obtain ⟨hP1, hK1, hD1⟩ := hB
    rw [ht] at hP1
    obtain ⟨hP, hD⟩ := va_join (wr := [(qr, .inl (cB, 16384, .inl f))]) (w1 := [(mo, .inr (13, MF 30 (va_up v 4 (.int 1))))]) hP hD [0] [1] rfl rfl (by decide) (by decide) hk1 hFc hP1 hD1
    generalize H1 = H at hP hS ⊢
    have hP : va_P (dC, dI) classes [(qr, .inl (cB, 16384, .inl f)), (mo, .inr (13, MF 30 (va_up v 4 (.int 1))))] H := hP
    have hD : va_D A [(qr, .inl (cB, 16384, .inl f)), (mo, .inr (13, MF 30 (va_up v 4 (.int 1))))] := hD
    have hP := hP.sub (ws' := [(mo, .inr (13, MF 30 (va_up v 4 (.int 1)))), (qr, .inl (cB, 16384, .inl f))]) [1, 0] rfl
    have hD := hD.sub (ws' := [(mo, .inr (13, MF 30 (va_up v 4 (.int 1)))), (qr, .inl (cB, 16384, .inl f))]) [1, 0] (by decide) rfl
    have hw : r0 = 0 := hw
    subst hw
    refine lv_if_ne (tgt := 27) hx hb d_Mo_word_22 (by decide) (fun h => absurd h (by decide)) (fun _ => ?_)
    refine lv_lconst (v := 0) hx hb d_Mo_word_25 (by decide) ?_
    exact W.lret (v := 0) hx hb hr (fun t9 ht hW => ⟨⟨0, va_up v 4 (.int 1), rfl, Or.inr ⟨fun h => h.1 c2, rfl⟩, by rw [ht]; exact hP, va_K.moved hW.alike hK, hD⟩, hS.F ht⟩) hS.2.2 d_Mo_word_26
  · refine lv_iload_n hx hb d_Mo_word_5 rfl (lv_at hl 1 rfl) ?_
    refine lv_aload_n hx hb d_Mo_word_6 rfl (lv_at hl 0 rfl) ?_
    refine va_get (D := (dC, dI)) (ci := 13) (v := .int (nI rl)) (C := R_Mo) (T := F_Mo) (N := 30) hx hb hts in_Mo hown hK hP 0 rfl rfl 3 (by decide) (hts _ w_1092) (fun _ h9 => h9) (MFg (by decide) h3) d_Mo_word_7 ?_
    refine lv_icmp_ge (tgt := 17) hx hb d_Mo_word_10 (by decide) (fun c10 => ?_) (fun c10 => ?_)
    · refine lv_iconst (v := 0) hx hb d_Mo_word_17 (by decide) ?_
      refine lv_iconst (v := 1) hx hb d_Mo_word_18 (by decide) ?_
      have hPc := hP.sub (ws' := [(mo, .inr (13, MF 30 v))]) [0] rfl
      have hDc := hD.sub (ws' := [(mo, .inr (13, MF 30 v))]) [0] (by decide) rfl
      have hKc := hK.sub (tys' := []) [] rfl
      have hFc := va_free (wc := [(mo, .inr (13, MF 30 v))]) hD hS hA [0] rfl
      refine va_calli (va_runV (As := [.int 0, .int 1]) (rest := []) ⟨hx, hb, hml, hown, hts⟩ (c_Mo_good0 l dC dI mo s.heap v 1) (cwV 2 hts (gt_V (own := R_Mo) (C := R_Mo) (i := 122) (y := y_Mo_good) i_Mo_good w_1188 w_1190 (gt_sel (y := y_Mo_good) (n := 30) (by decide +kernel)) w_7) rfl rfl rfl (by decide +kernel) ⟨Nat.le_of_ble_eq_true rfl, Nat.le_of_ble_eq_true rfl⟩) ⟨mp_blind, va_recv hKc hPc (ci := 13) (q0 := 0) rfl rfl, fun U hU hW => ⟨rfl, hU, by rw [hU]; exact hPc, va_K.moved hW.alike hKc, hDc.weaken (fun _ _ _ _ => trivial)⟩⟩ rfl rfl hl.1 rfl (lv_room (Nat.le_of_ble_eq_true rfl)) d_Mo_word_19 ⟨Nat.le_of_ble_eq_true rfl, Nat.le_of_ble_eq_true rfl⟩) hS (fun q _ h => hFc q h) hFc (fun r0 _u t9 H1 locs ht hvm hw hB hz1 hk1 hS => ?_)
      obtain ⟨hP1, hK1, hD1⟩ := hB
      rw [ht] at hP1
      obtain ⟨hP, hD⟩ := va_join (wr := [(qr, .inl (cB, 16384, .inl f))]) (w1 := [(mo, .inr (13, MF 30 (va_up v 4 (.int 1))))]) hP hD [0] [1] rfl rfl (by decide) (by decide) hk1 hFc hP1 hD1
      generalize H1 = H at hP hS ⊢
      have hP : va_P (dC, dI) classes [(qr, .inl (cB, 16384, .inl f)), (mo, .inr (13, MF 30 (va_up v 4 (.int 1))))] H := hP
      have hD : va_D A [(qr, .inl (cB, 16384, .inl f)), (mo, .inr (13, MF 30 (va_up v 4 (.int 1))))] := hD
      have hP := hP.sub (ws' := [(mo, .inr (13, MF 30 (va_up v 4 (.int 1)))), (qr, .inl (cB, 16384, .inl f))]) [1, 0] rfl
      have hD := hD.sub (ws' := [(mo, .inr (13, MF 30 (va_up v 4 (.int 1)))), (qr, .inl (cB, 16384, .inl f))]) [1, 0] (by decide) rfl
      have hw : r0 = 0 := hw
      subst hw
      refine lv_if_ne (tgt := 27) hx hb d_Mo_word_22 (by decide) (fun h => absurd h (by decide)) (fun _ => ?_)
      refine lv_lconst (v := 0) hx hb d_Mo_word_25 (by decide) ?_
      exact W.lret (v := 0) hx hb hr (fun t9 ht hW => ⟨⟨0, va_up v 4 (.int 1), rfl, Or.inr ⟨fun h => absurd h.2 (Int32.not_lt.mpr c10), rfl⟩, by rw [ht]; exact hP, va_K.moved hW.alike hK, hD⟩, hS.F ht⟩) hS.2.2 d_Mo_word_26
    · refine lv_iconst (v := 1) hx hb d_Mo_word_13 (by decide) ?_
      refine lv_goto (tgt := 18) hx hb d_Mo_word_14 (by decide) ?_
      refine lv_iconst (v := 1) hx hb d_Mo_word_18 (by decide) ?_
      have hPc := hP.sub (ws' := [(mo, .inr (13, MF 30 v))]) [0] rfl
      have hDc := hD.sub (ws' := [(mo, .inr (13, MF 30 v))]) [0] (by decide) rfl
      have hKc := hK.sub (tys' := []) [] rfl
      have hFc := va_free (wc := [(mo, .inr (13, MF 30 v))]) hD hS hA [0] rfl
      refine va_calli (va_runV (As := [.int 1, .int 1]) (rest := []) ⟨hx, hb, hml, hown, hts⟩ (c_Mo_good1 l dC dI mo s.heap v 1) (cwV 2 hts (gt_V (own := R_Mo) (C := R_Mo) (i := 122) (y := y_Mo_good) i_Mo_good w_1188 w_1190 (gt_sel (y := y_Mo_good) (n := 30) (by decide +kernel)) w_7) rfl rfl rfl (by decide +kernel) ⟨Nat.le_of_ble_eq_true rfl, Nat.le_of_ble_eq_true rfl⟩) ⟨mp_blind, va_recv hKc hPc (ci := 13) (q0 := 0) rfl rfl, fun U hU hW => ⟨rfl, hU, by rw [hU]; exact hPc, va_K.moved hW.alike hKc, hDc.weaken (fun _ _ _ _ => trivial)⟩⟩ rfl rfl hl.1 rfl (lv_room (Nat.le_of_ble_eq_true rfl)) d_Mo_word_19 ⟨Nat.le_of_ble_eq_true rfl, Nat.le_of_ble_eq_true rfl⟩) hS (fun q _ h => hFc q h) hFc (fun r0 _u t9 H1 locs ht hvm hw hB hz1 hk1 hS => ?_)
      obtain ⟨hP1, hK1, hD1⟩ := hB
      rw [ht] at hP1
      obtain ⟨hP, hD⟩ := va_join (wr := [(qr, .inl (cB, 16384, .inl f))]) (w1 := [(mo, .inr (13, MF 30 (va_up v 4 (.int 0))))]) hP hD [0] [1] rfl rfl (by decide) (by decide) hk1 hFc hP1 hD1
      generalize H1 = H at hP hS ⊢
      have hP : va_P (dC, dI) classes [(qr, .inl (cB, 16384, .inl f)), (mo, .inr (13, MF 30 (va_up v 4 (.int 0))))] H := hP
      have hD : va_D A [(qr, .inl (cB, 16384, .inl f)), (mo, .inr (13, MF 30 (va_up v 4 (.int 0))))] := hD
      have hP := hP.sub (ws' := [(mo, .inr (13, MF 30 (va_up v 4 (.int 0)))), (qr, .inl (cB, 16384, .inl f))]) [1, 0] rfl
      have hD := hD.sub (ws' := [(mo, .inr (13, MF 30 (va_up v 4 (.int 0)))), (qr, .inl (cB, 16384, .inl f))]) [1, 0] (by decide) rfl
      have hw : r0 = 1 := hw
      subst hw
      refine lv_if_ne (tgt := 27) hx hb d_Mo_word_22 (by decide) (fun _ => ?_) (fun h => absurd h (by decide))
      refine lv_lconst (v := 0) hx hb d_Mo_word_27 (by decide) ?_
      refine lv_lstore_n (lv' := [(2, .long 0), (0, .ref mo), (1, .int ii)]) hx hb d_Mo_word_28 rfl hl (by decide) rfl (fun ls hl => ?_)
      refine lv_iload_n hx hb d_Mo_word_29 rfl (lv_at hl 2 rfl) ?_
      refine lv_istore (lv' := [(4, .int ii), (2, .long 0), (0, .ref mo), (1, .int ii)]) hx hb d_Mo_word_30 hl (by decide) rfl (fun ls hl => ?_)
      have hii : ii ≤ nI rl := by have h := Int32.not_le.mp c10; rw [Int32.lt_iff_toInt_lt] at h; rw [Int32.le_iff_toInt_le]; omega
      obtain ⟨k0, hk1, hk2⟩ := i32_lit (Int32.not_lt.mp c2) hii (by omega)
      rw [hk2] at hl
      have hl : lv_has ls 5 [(4, .int (nI k0)), (2, .long 0), (0, .ref mo), (1, .int (nI k0))] := hl
      have hk3 : k0 < rl := by rw [hk2, nI_leI (by omega) (by omega)] at c10; omega
      refine w_loop (D := (dC, dI)) (cl := classes) (A := A) (H0 := s.heap) (nL := 5) 32 (σ := Nat × Nat × Int64) (fun ⟨c9, k, a⟩ => c9 ≤ 8 ∧ k + c9 = k0 + 8 ∧ wdC f rl c9 k a = wdC f rl 8 k0 0) (fun ⟨c9, k, a⟩ => c9) (fun ⟨c9, k, a⟩ => [(mo, .inr (13, MF 30 (va_up v 4 (.int 0)))), (qr, .inl (cB, 16384, .inl f))]) (fun ⟨c9, k, a⟩ => [(0, .ref mo), (1, .int (nI k0)), (2, .long a), (4, .int (nI k))]) ?_ (8, k0, 0) ⟨Nat.le_refl _, rfl, rfl⟩ hP hD hS (lv_sub hl [2, 3, 1, 0] rfl)
      rintro ⟨c9, k, a⟩ H locs ls hI ih hP hD hS hl
      have hP : va_P (dC, dI) classes [(mo, .inr (13, MF 30 (va_up v 4 (.int 0)))), (qr, .inl (cB, 16384, .inl f))] H := hP
      have hD : va_D A [(mo, .inr (13, MF 30 (va_up v 4 (.int 0)))), (qr, .inl (cB, 16384, .inl f))] := hD
      have hl : lv_has ls 5 [(0, .ref mo), (1, .int (nI k0)), (2, .long a), (4, .int (nI k))] := hl
      obtain ⟨hc1, hc2, hc3⟩ := hI
      have hc1 : c9 ≤ 8 := hc1
      have hc2 : k + c9 = k0 + 8 := hc2
      have hc3 : wdC f rl c9 k a = wdC f rl 8 k0 0 := hc3
      refine lv_iload hx hb d_Mo_word_32 (lv_at hl 3 rfl) ?_
      refine lv_iload_n hx hb d_Mo_word_34 rfl (lv_at hl 1 rfl) ?_
      refine lv_bipush (v := 8) hx hb d_Mo_word_35 (by decide) ?_
      refine lv_iadd hx hb d_Mo_word_37 ?_
      refine W.eq (g2 := F0 m 38 ls [.int (nI (k0 + 8)), .int (nI k)]) (by rw [show ((nI k0) + 8) = (nI (k0 + 8)) from nI_add k0 8]) ?_
      refine lv_icmp_ge (tgt := 78) hx hb d_Mo_word_38 (by decide) (fun c38 => ?_) (fun c38 => ?_)
      · refine lv_lload_n hx hb d_Mo_word_78 rfl (lv_at hl 2 rfl) ?_
        have hfin : a = wdC f rl 8 k0 0 := by
          have hc0 : c9 = 0 := by rw [nI_leI (by omega) (by omega)] at c38; omega
          rw [hc0] at hc3
          exact hc3
        exact W.lret (v := a) hx hb hr (fun t9 ht hW => ⟨⟨a, va_up v 4 (.int 0), rfl, Or.inl ⟨k0, hk3, hk2, hfin, rfl⟩, by rw [ht]; exact hP, va_K.moved hW.alike hK, hD⟩, hS.F ht⟩) hS.2.2 d_Mo_word_79
      · refine lv_lload_n hx hb d_Mo_word_41 rfl (lv_at hl 2 rfl) ?_
        refine lv_bipush (v := 8) hx hb d_Mo_word_42 (by decide) ?_
        refine lv_lshl (v := a <<< ((8 : Int32).toInt64 &&& 63)) hx hb d_Mo_word_44 rfl ?_
        refine lv_iload hx hb d_Mo_word_45 (lv_at hl 3 rfl) ?_
        refine lv_aload_n hx hb d_Mo_word_47 rfl (lv_at hl 0 rfl) ?_
        refine va_get (D := (dC, dI)) (ci := 13) (v := .int (nI rl)) (C := R_Mo) (T := F_Mo) (N := 30) hx hb hts in_Mo hown hK hP 0 rfl rfl 3 (by decide) (hts _ w_1092) (fun _ h9 => h9) (MFg (by decide) ((va_up_ne _ _ (by decide)).trans (h3))) d_Mo_word_48 ?_
        refine lv_icmp_ge (tgt := 69) hx hb d_Mo_word_51 (by decide) (fun c51 => ?_) (fun c51 => ?_)
        · refine lv_lconst (v := 0) hx hb d_Mo_word_69 (by decide) ?_
          refine lv_lor hx hb d_Mo_word_70 ?_
          have hI8 : k ≤ k0 + 8 := by omega
          have hkl : k < k0 + 8 := by rw [nI_leI (by omega) (by omega)] at c38; omega
          refine lv_lstore_n (lv' := [(2, .long ((a <<< ((8 : Int32).toInt64 &&& 63)) ||| 0)), (0, .ref mo), (1, .int (nI k0)), (4, .int (nI k))]) hx hb d_Mo_word_71 rfl hl (by decide) rfl (fun ls hl => ?_)
          refine lv_iinc (v := nI (k + 1)) (lv' := [(4, .int (nI (k + 1))), (2, .long ((a <<< ((8 : Int32).toInt64 &&& 63)) ||| 0)), (0, .ref mo), (1, .int (nI k0))]) hx hb d_Mo_word_72 hl (k := 3) rfl (nI_1 k) (by decide) rfl (fun ls hl => ?_)
          refine lv_goto (tgt := 32) hx hb d_Mo_word_75 (by decide) ?_
          have hst : wdC f rl c9 k a = wdC f rl (c9 - 1) (k + 1) (((a <<< ((8 : Int32).toInt64 &&& 63)) ||| 0)) := by
            obtain ⟨c0, rfl⟩ : ∃ c0, c9 = c0 + 1 := ⟨c9 - 1, by omega⟩
            simp only [wdC]
            rw [if_neg (show ¬ k < rl by rw [nI_leI (by omega) (by omega)] at c51; omega)]
            rfl
          exact ih (c9 - 1, k + 1, ((a <<< ((8 : Int32).toInt64 &&& 63)) ||| 0)) _ _ _ ⟨by show c9 - 1 ≤ 8; omega, by show k + 1 + (c9 - 1) = k0 + 8; omega, hst.symm.trans hc3⟩ (by show c9 - 1 < c9; omega) hP hD hS (lv_sub hl [2, 3, 1, 0] rfl)
        · refine lv_aload_n hx hb d_Mo_word_54 rfl (lv_at hl 0 rfl) ?_
          refine va_get (D := (dC, dI)) (ci := 13) (v := .ref qr) (C := R_Mo) (T := F_Mo) (N := 30) hx hb hts in_Mo hown hK hP 0 rfl rfl 2 (by decide) (hts _ w_1091) (fun _ h9 => h9) (MFg (by decide) ((va_up_ne _ _ (by decide)).trans (h2))) d_Mo_word_55 ?_
          refine lv_iload hx hb d_Mo_word_58 (lv_at hl 3 rfl) ?_
          have hI9 : k ≤ k0 + 8 := by omega
          have hk9 : k < rl := by rw [nI_leI (by omega) (by omega)] at c51; omega
          refine va_bald hx hb hK hP 1 0 rfl rfl (vp_in_nI (show k < 16384 by omega) (by decide)) d_Mo_word_60 ?_
          rw [show (nI k).toNatClampNeg = k from nI_clamp (by omega)]
          refine lv_i2l (v := ((f k)).toInt64) hx hb d_Mo_word_61 rfl ?_
          refine lv_ldc2 (v := 255) hx hb hown (hts _ w_1204) d_Mo_word_62 ?_
          refine lv_land hx hb d_Mo_word_65 ?_
          refine lv_goto (tgt := 70) hx hb d_Mo_word_66 (by decide) ?_
          refine lv_lor hx hb d_Mo_word_70 ?_
          have hI8 : k ≤ k0 + 8 := by omega
          have hkl : k < k0 + 8 := by rw [nI_leI (by omega) (by omega)] at c38; omega
          refine lv_lstore_n (lv' := [(2, .long ((a <<< ((8 : Int32).toInt64 &&& 63)) ||| ((((f k)).toInt64) &&& 255))), (0, .ref mo), (1, .int (nI k0)), (4, .int (nI k))]) hx hb d_Mo_word_71 rfl hl (by decide) rfl (fun ls hl => ?_)
          refine lv_iinc (v := nI (k + 1)) (lv' := [(4, .int (nI (k + 1))), (2, .long ((a <<< ((8 : Int32).toInt64 &&& 63)) ||| ((((f k)).toInt64) &&& 255))), (0, .ref mo), (1, .int (nI k0))]) hx hb d_Mo_word_72 hl (k := 3) rfl (nI_1 k) (by decide) rfl (fun ls hl => ?_)
          refine lv_goto (tgt := 32) hx hb d_Mo_word_75 (by decide) ?_
          have hst : wdC f rl c9 k a = wdC f rl (c9 - 1) (k + 1) (((a <<< ((8 : Int32).toInt64 &&& 63)) ||| ((((f k)).toInt64) &&& 255))) := by
            obtain ⟨c0, rfl⟩ : ∃ c0, c9 = c0 + 1 := ⟨c9 - 1, by omega⟩
            simp only [wdC]
            rw [if_pos hk9, w255]
            rfl
          exact ih (c9 - 1, k + 1, ((a <<< ((8 : Int32).toInt64 &&& 63)) ||| ((((f k)).toInt64) &&& 255))) _ _ _ ⟨by show c9 - 1 ≤ 8; omega, by show k + 1 + (c9 - 1) = k0 + 8; omega, hst.symm.trans hc3⟩ (by show c9 - 1 < c9; omega) hP hD hS (lv_sub hl [2, 3, 1, 0] rfl)
