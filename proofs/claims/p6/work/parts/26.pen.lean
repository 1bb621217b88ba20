theorem w_1374 : (.methodLink "QueryBenchModel" 239 ⟨"QueryBenchModel", "write", "(I)V"⟩ : Cond) ∈ gtbl := gt_in 1374 (by decide +kernel) (by decide +kernel)
theorem w_1376 : (.instanceMethod ⟨"QueryBenchModel", "write", "(I)V"⟩ : Cond) ∈ gtbl := gt_in 1376 (by decide +kernel) (by decide +kernel)
/-- the reference's pen: how far it has written, and whether it went over -/
def nf (v : Nat → Value) (k : Nat) (ov : Int32) : Nat → Value := va_up (va_up v 11 (.int (nI k))) 12 (.int ov)
theorem nf_11 {v : Nat → Value} {k k2 : Nat} {ov : Int32} : va_up (nf v k ov) 11 (.int (nI k2)) = nf v k2 ov := by
  funext j
  unfold nf va_up
  by_cases h1 : j = 11
  · subst h1; simp
  · simp [h1]
theorem nf_12 {v : Nat → Value} {k : Nat} {ov o2 : Int32} : va_up (nf v k ov) 12 (.int o2) = nf v k o2 := by
  unfold nf
  rw [bx_uu]
theorem nf_ne {v : Nat → Value} {k j : Nat} {ov : Int32} (h1 : j ≠ 11) (h2 : j ≠ 12) : nf v k ov j = v j := by
  unfold nf
  rw [va_up_ne _ _ h2, va_up_ne _ _ h1]
theorem nf_k {v : Nat → Value} {k : Nat} {ov : Int32} : nf v k ov 11 = .int (nI k) := by
  unfold nf
  rw [va_up_ne _ _ (by decide), va_up_self]
theorem met_post {l : Launch} {y : MethodName} {ws : List Cond} {rm : Room} {Pc : Array Value → State → Prop} {Qc Qc' : Array Value → State → Outcome → State → Prop} {mc ms : Nat} {free : Addr → Prop} (h : Met l y ws rm Pc Qc mc ms free) (hq : ∀ a st o t, Qc a st o t → Qc' a st o t) : Met l y ws rm Pc Qc' mc ms free := by
  intro p e h1 h2 h3 s m args below hf ha hp hk
  obtain ⟨n, o, a1, a2, a3, a4, a5⟩ := h p e h1 h2 h3 s m args below hf ha hp hk
  exact ⟨n, o, a1, a2, a3, hq _ _ _ _ a4, a5⟩
/-- one more byte for the pen -/
def pen1 (s : Nat × Int32 × (Nat → Int32)) (x : Int32) : Nat × Int32 × (Nat → Int32) := if s.1 < 16384 then (s.1 + 1, s.2.1, upd s.2.2 s.1 (vp_nar .byte (x.toInt8.toInt32))) else (s.1, 1, s.2.2)
def penN (b : Nat → Int32) (s : Nat × Int32 × (Nat → Int32)) : Nat → Nat × Int32 × (Nat → Int32)
  | 0 => s
  | j + 1 => pen1 (penN b s j) (b j &&& 255)
theorem pen1_le {s : Nat × Int32 × (Nat → Int32)} {x : Int32} (h : s.1 ≤ 16384) : (pen1 s x).1 ≤ 16384 := by
  unfold pen1
  by_cases h1 : s.1 < 16384
  · rw [if_pos h1]; exact h1
  · rw [if_neg h1]; exact h
set_option maxHeartbeats 4000000 in
set_option maxRecDepth 100000 in
/-- the reference: write(b), in the pen's words -/
theorem c_Mo_pen (l : Launch) (dC : Nat → ClassId) (dI : Nat → Nat → Nat) (mo : Nat) (sz : Heap) (v : Nat → Value) (cB : ClassId) (qo : Nat) (s : Nat × Int32 × (Nat → Int32)) (x : Int32) (hk0 : s.1 ≤ 16384) (h10 : v 10 = .ref qo) : Met l y_Mo_write (k_Mo_write :: gtbl) ({ frames := 0, cells := 0, slots := 0, locals := 0 }) (va_Pc [.ref mo, .int x] (mp dC dI [(mo, .inr (13, MF 30 (nf v s.1 s.2.1))), (qo, .inl (cB, 16392, .inl s.2.2))] [(cB, .byte)] sz)) (va_Qv (fun (u : Nat × Int32 × (Nat → Int32)) => u = pen1 s x) (fun u => mz dC dI [(mo, .inr (13, MF 30 (nf v u.1 u.2.1))), (qo, .inl (cB, 16392, .inl u.2.2))] [(cB, .byte)] (va_A [(mo, .inr (13, MF 30 (nf v s.1 s.2.1))), (qo, .inl (cB, 16392, .inl s.2.2))] sz.size)) (va_A [(mo, .inr (13, MF 30 (nf v s.1 s.2.1))), (qo, .inl (cB, 16392, .inl s.2.2))] sz.size)) 0 0 (va_A [(mo, .inr (13, MF 30 (nf v s.1 s.2.1))), (qo, .inl (cB, 16392, .inl s.2.2))] sz.size) := by
  have h := c_Mo_write l dC dI mo sz (nf v s.1 s.2.1) cB qo s.2.2 s.1 x hk0 ((nf_ne (by decide) (by decide)).trans h10) nf_k
  refine met_post h ?_
  rintro a st o t ⟨⟨u, ho, hu, hB⟩, hF⟩
  refine ⟨⟨pen1 s x, ho, rfl, ?_⟩, hF⟩
  rcases hu with ⟨h1, rfl⟩ | ⟨h1, rfl⟩
  · have e : pen1 s x = (s.1 + 1, s.2.1, upd s.2.2 s.1 (vp_nar .byte (x.toInt8.toInt32))) := by unfold pen1; rw [if_pos h1]
    rw [e]
    have hB := hB
    rw [nf_11] at hB
    exact hB
  · have e : pen1 s x = (s.1, 1, s.2.2) := by unfold pen1; rw [if_neg h1]
    rw [e]
    have hB := hB
    rw [nf_12] at hB
    exact hB
abbrev b_Mo_writeS : ByteArray := prog_14_method_28_code
def y_Mo_writeS : MethodName := ⟨"QueryBenchModel", "write", "(Ljava/lang/String;)V"⟩
abbrev k_Mo_writeS : Cond := .code y_Mo_writeS b_Mo_writeS 3 none
theorem i_Mo_writeS : k_Mo_writeS ∈ gtbl := gt_in 1373 (by decide +kernel) (by decide +kernel)
theorem d_Mo_writeS_0 : decode b_Mo_writeS 0 = .ok (.iconst 0, 1) := by decide +kernel
theorem d_Mo_writeS_1 : decode b_Mo_writeS 1 = .ok (.istore_n 2, 1) := by decide +kernel
theorem d_Mo_writeS_2 : decode b_Mo_writeS 2 = .ok (.iload_n 2, 1) := by decide +kernel
theorem d_Mo_writeS_3 : decode b_Mo_writeS 3 = .ok (.aload_n 1, 1) := by decide +kernel
theorem d_Mo_writeS_4 : decode b_Mo_writeS 4 = .ok (.invokevirtual 155, 3) := by decide +kernel
theorem d_Mo_writeS_7 : decode b_Mo_writeS 7 = .ok (.if_icmp .ge 18, 3) := by decide +kernel
theorem d_Mo_writeS_10 : decode b_Mo_writeS 10 = .ok (.aload_n 0, 1) := by decide +kernel
theorem d_Mo_writeS_11 : decode b_Mo_writeS 11 = .ok (.aload_n 1, 1) := by decide +kernel
theorem d_Mo_writeS_12 : decode b_Mo_writeS 12 = .ok (.iload_n 2, 1) := by decide +kernel
theorem d_Mo_writeS_13 : decode b_Mo_writeS 13 = .ok (.invokevirtual 159, 3) := by decide +kernel
theorem d_Mo_writeS_16 : decode b_Mo_writeS 16 = .ok (.invokevirtual 239, 3) := by decide +kernel
theorem d_Mo_writeS_19 : decode b_Mo_writeS 19 = .ok (.iinc 2 1, 3) := by decide +kernel
theorem d_Mo_writeS_22 : decode b_Mo_writeS 22 = .ok (.goto (-20), 3) := by decide +kernel
theorem d_Mo_writeS_25 : decode b_Mo_writeS 25 = .ok (.return_, 1) := by decide +kernel
set_option maxHeartbeats 4000000 in
set_option maxRecDepth 100000 in
/-- the reference: write(text) -/
theorem c_Mo_writeS (l : Launch) (dC : Nat → ClassId) (dI : Nat → Nat → Nat) (mo : Nat) (sz : Heap) (v : Nat → Value) (cB : ClassId) (qo : Nat) (s0 : Nat × Int32 × (Nat → Int32)) (sa av len : Nat) (b : Nat → Int32) (hk0 : s0.1 ≤ 16384) (hlen : len ≤ 1000) (h10 : v 10 = .ref qo) : Met l y_Mo_writeS (k_Mo_writeS :: gtbl) ({ frames := 4, cells := 0, slots := 0, locals := 85 }) (va_Pc [.ref mo, .ref sa] (mstr sa av len b dC dI [(mo, .inr (13, MF 30 (nf v s0.1 s0.2.1))), (qo, .inl (cB, 16392, .inl s0.2.2))] [(cB, .byte)] sz)) (va_Qv (fun (_ : Unit) => (penN b s0 len).1 ≤ 16384) (fun _ => mz dC dI [(mo, .inr (13, MF 30 (nf v (penN b s0 len).1 (penN b s0 len).2.1))), (qo, .inl (cB, 16392, .inl (penN b s0 len).2.2))] [(cB, .byte)] (va_A [(mo, .inr (13, MF 30 (nf v s0.1 s0.2.1))), (qo, .inl (cB, 16392, .inl s0.2.2))] sz.size)) (va_A [(mo, .inr (13, MF 30 (nf v s0.1 s0.2.1))), (qo, .inl (cB, 16392, .inl s0.2.2))] sz.size)) 0 0 (va_A [(mo, .inr (13, MF 30 (nf v s0.1 s0.2.1))), (qo, .inl (cB, 16392, .inl s0.2.2))] sz.size) := by
  refine Met.ofW (cc := b_Mo_writeS) (maxL := 3) (ret := none) (by decide) rfl ?_
  intro p e s m args below meth c s₁ B hml hv
  obtain ⟨rfl, ⟨hsz, hP, hK, hD0⟩, hE⟩ := hv
  have hx := B.exec
  have hb := B.bytes
  have hr := B.returns
  have hts0 := atoms_spec (ws := k_Mo_writeS :: gtbl) B.pre
  have hts := fun w h => hts0 w (List.mem_cons_of_mem _ h)
  have hown : s.vm.findClass R_Mo = some m.cls := findClass_of_methodNamed B.named
  have hlocks := B.notSynchronized
  subst hsz
  have hD := hD0.self (sz := s.heap.size)
  generalize hAe : va_A [(mo, .inr (13, MF 30 (nf v s0.1 s0.2.1))), (qo, .inl (cB, 16392, .inl s0.2.2))] s.heap.size = A at hD hE ⊢
  have hA : ∀ q : Nat, s.heap.size ≤ q → A q := fun q h => by rw [← hAe]; exact Or.inr h
  have hS : va_S A s.heap s.heap [] := va_S.rf
  have hP : va_P (dC, dI) classes [(mo, .inr (13, MF 30 (nf v s0.1 s0.2.1))), (qo, .inl (cB, 16392, .inl s0.2.2))] s.heap := hP
  have hl := lv_entry ([.ref mo, .ref sa]) (n := 3) (Nat.le_of_ble_eq_true rfl)
  rw [lg_entry_eq]
  generalize (lg_sl ([.ref mo, .ref sa]) ++ List.replicate (3 - (lg_sl ([.ref mo, .ref sa])).length) Slot.unset).toArray = ls at hl ⊢
  have hl : lv_has ls 3 [(0, .ref mo), (1, .ref sa)] := hl
  refine lv_iconst (v := 0) hx hb d_Mo_writeS_0 (by decide) ?_
  refine lv_istore_n (lv' := [(2, .int 0), (0, .ref mo), (1, .ref sa)]) hx hb d_Mo_writeS_1 rfl hl (by decide) rfl (fun ls hl => ?_)
  refine w_loop (D := (dC, dI)) (cl := classes) (A := A) (H0 := s.heap) (nL := 3) 2 (σ := Nat) (fun j => j ≤ len ∧ (penN b s0 j).1 ≤ 16384) (fun j => len - j) (fun j => [(mo, .inr (13, MF 30 (nf v (penN b s0 j).1 (penN b s0 j).2.1))), (qo, .inl (cB, 16392, .inl (penN b s0 j).2.2))]) (fun j => [(0, .ref mo), (1, .ref sa), (2, .int (nI j))]) ?_ 0 ⟨Nat.zero_le _, hk0⟩ hP hD hS (lv_sub hl [1, 2, 0] rfl)
  rintro j H locs ls hI ih hP hD hS hl
  have hP : va_P (dC, dI) classes [(mo, .inr (13, MF 30 (nf v (penN b s0 j).1 (penN b s0 j).2.1))), (qo, .inl (cB, 16392, .inl (penN b s0 j).2.2))] H := hP
  have hD : va_D A [(mo, .inr (13, MF 30 (nf v (penN b s0 j).1 (penN b s0 j).2.1))), (qo, .inl (cB, 16392, .inl (penN b s0 j).2.2))] := hD
  have hl : lv_has ls 3 [(0, .ref mo), (1, .ref sa), (2, .int (nI j))] := hl
  refine lv_iload_n hx hb d_Mo_writeS_2 rfl (lv_at hl 2 rfl) ?_
  refine lv_aload_n hx hb d_Mo_writeS_3 rfl (lv_at hl 1 rfl) ?_
  have hPc := hP.sub (ws' := []) [] rfl
  have hDc := hD.sub (ws' := []) [] (by decide) rfl
  have hKc := hK.sub (tys' := []) [] rfl
  have hFc := va_free (wc := []) hD hS hA [] rfl
  refine va_calli (va_runV (As := []) (rest := [.int (nI j)]) ⟨hx, hb, hml, hown, hts⟩ (c_Str_length l dC dI H sa av len b) (cwV 0 hts (gt_V (own := R_Mo) (C := R_Str) (i := 155) (y := y_Str_length) i_Str_length w_1244 w_456 w_457 w_18) rfl rfl rfl (by decide +kernel) ⟨Nat.le_of_ble_eq_true rfl, Nat.le_of_ble_eq_true rfl⟩) ⟨mstr_blind, (by obtain ⟨cell, h1, h2, h3, -⟩ := va_O.kept hE.1 hS.2.1; exact ⟨cell, h1, h2, h3⟩), fun U hU hW => ⟨rfl, ⟨hU, by rw [hU]; exact hPc, va_K.moved hW.alike hKc, hDc.weaken (fun _ _ _ _ => trivial)⟩, by rw [hU]; exact SX.moved' hW.alike (SX.narrow' (SX.kept' hE hS.2.1) hFc)⟩⟩ rfl rfl hl.1 rfl (lv_room (Nat.le_of_ble_eq_true rfl)) d_Mo_writeS_4 ⟨Nat.le_of_ble_eq_true rfl, Nat.le_of_ble_eq_true rfl⟩) hS (fun q _ h => hFc q h) hFc (fun r _u t H1 locs ht hvm hw hB hz1 hk1 hS => ?_)
  obtain ⟨hP1, hK1, hD1⟩ := hB
  rw [ht] at hP1
  obtain ⟨hP, hD⟩ := va_join (wr := [(mo, .inr (13, MF 30 (nf v (penN b s0 j).1 (penN b s0 j).2.1))), (qo, .inl (cB, 16392, .inl (penN b s0 j).2.2))]) (w1 := []) hP hD [] [0, 1] rfl rfl (by decide) (by decide) hk1 hFc hP1 hD1
  generalize H1 = H at hP hS ⊢
  have hP : va_P (dC, dI) classes [(mo, .inr (13, MF 30 (nf v (penN b s0 j).1 (penN b s0 j).2.1))), (qo, .inl (cB, 16392, .inl (penN b s0 j).2.2))] H := hP
  have hD : va_D A [(mo, .inr (13, MF 30 (nf v (penN b s0 j).1 (penN b s0 j).2.1))), (qo, .inl (cB, 16392, .inl (penN b s0 j).2.2))] := hD
  have hw : r = (nI len) := hw
  subst hw
  refine lv_icmp_ge (tgt := 25) hx hb d_Mo_writeS_7 (by decide) (fun c7 => ?_) (fun c7 => ?_)
  · have hl0 : j = len := by rw [nI_leI (by omega) (by omega)] at c7; omega
    rw [hl0] at hP hD hI
    exact W.vret hx hb hr (fun t ht hW => ⟨⟨(), rfl, hI.2, by rw [ht]; exact hP, va_K.moved hW.alike hK, hD⟩, hS.F ht⟩) hS.2.2 d_Mo_writeS_25
  · refine lv_aload_n hx hb d_Mo_writeS_10 rfl (lv_at hl 0 rfl) ?_
    refine lv_aload_n hx hb d_Mo_writeS_11 rfl (lv_at hl 1 rfl) ?_
    refine lv_iload_n hx hb d_Mo_writeS_12 rfl (lv_at hl 2 rfl) ?_
    have hj : j < len := by rw [nI_leI (by omega) (by omega)] at c7; omega
    have hPc := hP.sub (ws' := []) [] rfl
    have hDc := hD.sub (ws' := []) [] (by decide) rfl
    have hKc := hK.sub (tys' := []) [] rfl
    have hFc := va_free (wc := []) hD hS hA [] rfl
    refine va_calli (va_runV (As := [.int (nI j)]) (rest := [.ref mo]) ⟨hx, hb, hml, hown, hts⟩ (c_Str_charAt l dC dI H sa av len b j hj (by omega)) (cwV 1 hts (gt_V (own := R_Mo) (C := R_Str) (i := 159) (y := y_Str_charAt) i_Str_charAt w_1245 w_466 w_467 w_18) rfl rfl rfl (by decide +kernel) ⟨Nat.le_of_ble_eq_true rfl, Nat.le_of_ble_eq_true rfl⟩) ⟨mstr_blind, (by obtain ⟨cell, h1, h2, h3, -⟩ := va_O.kept hE.1 hS.2.1; exact ⟨cell, h1, h2, h3⟩), fun U hU hW => ⟨rfl, ⟨hU, by rw [hU]; exact hPc, va_K.moved hW.alike hKc, hDc.weaken (fun _ _ _ _ => trivial)⟩, by rw [hU]; exact SX.moved' hW.alike (SX.narrow' (SX.kept' hE hS.2.1) hFc)⟩⟩ rfl rfl hl.1 rfl (lv_room (Nat.le_of_ble_eq_true rfl)) d_Mo_writeS_13 ⟨Nat.le_of_ble_eq_true rfl, Nat.le_of_ble_eq_true rfl⟩) hS (fun q _ h => hFc q h) hFc (fun r _u t H1 locs ht hvm hw hB hz1 hk1 hS => ?_)
    obtain ⟨hP1, hK1, hD1⟩ := hB
    rw [ht] at hP1
    obtain ⟨hP, hD⟩ := va_join (wr := [(mo, .inr (13, MF 30 (nf v (penN b s0 j).1 (penN b s0 j).2.1))), (qo, .inl (cB, 16392, .inl (penN b s0 j).2.2))]) (w1 := []) hP hD [] [0, 1] rfl rfl (by decide) (by decide) hk1 hFc hP1 hD1
    generalize H1 = H at hP hS ⊢
    have hP : va_P (dC, dI) classes [(mo, .inr (13, MF 30 (nf v (penN b s0 j).1 (penN b s0 j).2.1))), (qo, .inl (cB, 16392, .inl (penN b s0 j).2.2))] H := hP
    have hD : va_D A [(mo, .inr (13, MF 30 (nf v (penN b s0 j).1 (penN b s0 j).2.1))), (qo, .inl (cB, 16392, .inl (penN b s0 j).2.2))] := hD
    have hw : r = (b j &&& 255) := hw
    subst hw
    have hPc := hP.sub (ws' := [(mo, .inr (13, MF 30 (nf v (penN b s0 j).1 (penN b s0 j).2.1))), (qo, .inl (cB, 16392, .inl (penN b s0 j).2.2))]) [0, 1] rfl
    have hDc := hD.sub (ws' := [(mo, .inr (13, MF 30 (nf v (penN b s0 j).1 (penN b s0 j).2.1))), (qo, .inl (cB, 16392, .inl (penN b s0 j).2.2))]) [0, 1] (by decide) rfl
    have hKc := hK.sub (tys' := [(cB, .byte)]) [0] rfl
    have hFc := va_free (wc := [(mo, .inr (13, MF 30 (nf v (penN b s0 j).1 (penN b s0 j).2.1))), (qo, .inl (cB, 16392, .inl (penN b s0 j).2.2))]) hD hS hA [0, 1] rfl
    refine va_callv (va_runV (As := [.int (b j &&& 255)]) (rest := []) ⟨hx, hb, hml, hown, hts⟩ (c_Mo_pen l dC dI mo H v cB qo (penN b s0 j) (b j &&& 255) hI.2 h10) (cwV 1 hts (gt_V (own := R_Mo) (C := R_Mo) (i := 239) (y := y_Mo_write) i_Mo_write w_1374 w_1376 (gt_sel (y := y_Mo_write) (n := 30) (by decide +kernel)) w_7) rfl rfl rfl (by decide +kernel) ⟨Nat.le_of_ble_eq_true rfl, Nat.le_of_ble_eq_true rfl⟩) ⟨mp_blind, va_recv hKc hPc (ci := 13) (q0 := 0) rfl rfl, fun U hU hW => ⟨rfl, hU, by rw [hU]; exact hPc, va_K.moved hW.alike hKc, hDc.weaken (fun _ _ _ _ => trivial)⟩⟩ rfl rfl hl.1 rfl (lv_room (Nat.le_of_ble_eq_true rfl)) d_Mo_writeS_16 ⟨Nat.le_of_ble_eq_true rfl, Nat.le_of_ble_eq_true rfl⟩) hS (fun q _ h => hFc q h) hFc (fun u2 t H1 locs ht hvm hw hB hz1 hk1 hS => ?_)
    obtain ⟨hP1, hK1, hD1⟩ := hB
    rw [ht] at hP1
    obtain ⟨hP, hD⟩ := va_join (wr := []) (w1 := [(mo, .inr (13, MF 30 (nf v u2.1 u2.2.1))), (qo, .inl (cB, 16392, .inl u2.2.2))]) hP hD [0, 1] [] rfl rfl (by decide) (by decide) hk1 hFc hP1 hD1
    generalize H1 = H at hP hS ⊢
    have hP : va_P (dC, dI) classes [(mo, .inr (13, MF 30 (nf v u2.1 u2.2.1))), (qo, .inl (cB, 16392, .inl u2.2.2))] H := hP
    have hD : va_D A [(mo, .inr (13, MF 30 (nf v u2.1 u2.2.1))), (qo, .inl (cB, 16392, .inl u2.2.2))] := hD
    obtain rfl : u2 = penN b s0 (j + 1) := hw
    have hP : va_P (dC, dI) classes [(mo, .inr (13, MF 30 (nf v (penN b s0 (j + 1)).1 (penN b s0 (j + 1)).2.1))), (qo, .inl (cB, 16392, .inl (penN b s0 (j + 1)).2.2))] H := hP
    have hD : va_D A [(mo, .inr (13, MF 30 (nf v (penN b s0 (j + 1)).1 (penN b s0 (j + 1)).2.1))), (qo, .inl (cB, 16392, .inl (penN b s0 (j + 1)).2.2))] := hD
    refine lv_iinc (v := nI (j + 1)) (lv' := [(2, .int (nI (j + 1))), (0, .ref mo), (1, .ref sa)]) hx hb d_Mo_writeS_19 hl (k := 2) rfl (nI_1 j) (by decide) rfl (fun ls hl => ?_)
    refine lv_goto (tgt := 2) hx hb d_Mo_writeS_22 (by decide) ?_
    exact ih (j + 1) _ _ _ ⟨by omega, pen1_le hI.2⟩ (by show len - (j + 1) < len - j; omega) hP hD hS (lv_sub hl [1, 2, 0] rfl)
