theorem z_972 : (.methodLink "QueryBench$Printer" 96 ⟨"QueryBench$Printer", "unit", "(II)V"⟩ : Cond) ∈ gtbl := gt_in 972 (by decide +kernel) (by decide +kernel)
theorem z_974 : (.instanceMethod ⟨"QueryBench$Printer", "unit", "(II)V"⟩ : Cond) ∈ gtbl := gt_in 974 (by decide +kernel) (by decide +kernel)
theorem z_976 : (.methodLink "QueryBench$Printer" 100 ⟨"QueryBench$Printer", "shortEscape", "(II)I"⟩ : Cond) ∈ gtbl := gt_in 976 (by decide +kernel) (by decide +kernel)
theorem z_977 : (.static ⟨"QueryBench$Printer", "shortEscape", "(II)I"⟩ : Cond) ∈ gtbl := gt_in 977 (by decide +kernel) (by decide +kernel)
theorem z_980 : (.methodLink "QueryBench$Printer" 73 ⟨"QueryBench$Printer", "putLetters", "(Ljava/lang/String;)V"⟩ : Cond) ∈ gtbl := gt_in 980 (by decide +kernel) (by decide +kernel)
theorem z_982 : (.instanceMethod ⟨"QueryBench$Printer", "putLetters", "(Ljava/lang/String;)V"⟩ : Cond) ∈ gtbl := gt_in 982 (by decide +kernel) (by decide +kernel)
section PoolRows2
variable {p : Program} {l : Launch} {e : Env} {R : Room} {s : State} {m : MethodId} {args : Array Value} {below : List Frame} {meth : Method} {c : Code} {H : Heap} {locs : List Loc} {cells slots : Nat} {Q : State → Prop}
variable {cc : ByteArray} {pc : Nat} {ls : Array Slot} {rest : List Value} {D : va_G} {cl : List vw_C} {A : Nat → Prop} {a : Nat} {tys : List (ClassId × FieldType)} {X : va_W} {L : List Nat} {f : Nat → va_E} {H0 : Heap} {ws : va_W}
/-- an object of the pool into a row beside it -/
theorem vq_ast (hexec : p.tables.exec = Jvm.exec) (hb : c.code = cc) (hK : va_K D cl tys s) (hP : va_P D cl (X ++ va_pl L f) H) (hD : va_D A (X ++ va_pl L f)) (hS : va_S A H0 H locs) (q0 t0 ci : Nat) {cA : ClassId} {C : String} {T : u_T} {N n v : Nat} {vs : List Value} {g : Nat → Option Nat} (ha : (X ++ va_pl L f)[q0]? = some (a, .inl (cA, n, .inr (.inr (.inr (.inr g)))))) (ht : tys[t0]? = some (cA, .object C)) (hv : v ∈ L) (he : f v = .inr (ci, vs)) (hc : cl[ci]? = some (C, T, N)) {j : Nat} (hj : j < n) (hn : n ≤ 1000000) (hdg : decode cc pc = .ok (.aastore, 1))
    (kk : ∀ (H1 : Heap) (locs1 : List Loc), va_P D cl ((X ++ va_pl L f).set q0 (a, .inl (cA, n, .inr (.inr (.inr (.inr (va_up g j (some v)))))))) H1 → va_D A ((X ++ va_pl L f).set q0 (a, .inl (cA, n, .inr (.inr (.inr (.inr (va_up g j (some v)))))))) → va_S A H0 H1 locs1 → W p l e R s m args below meth c H1 locs1 cells slots Q (F0 m (pc + 1) ls rest)) : W p l e R s m args below meth c H locs cells slots Q (F0 m pc ls (.ref v :: .int (nI j) :: .ref a :: rest)) := by
  obtain ⟨qk, h0⟩ := va_pl_get (X := X) (f := f) hv
  rw [he] at h0
  refine va_astq (r := (C, T, N)) hexec hb hK hP hD hS q0 t0 qk ci ha ht h0 hc (vp_in_nI hj (by omega)) hdg (fun H1 locs1 h1 h2 h3 => ?_)
  rw [nI_clamp (by omega)] at h1 h2
  exact kk H1 locs1 h1 h2 h3
/-- a row of values: what is known to be there -/
theorem vq_ald0 (hexec : p.tables.exec = Jvm.exec) (hb : c.code = cc) (hK : va_K D cl tys s) (hP : va_P D cl ws H) (q0 t0 : Nat) {cA : ClassId} {C : String} {n : Nat} {g : Nat → Option Nat} (ha : ws[q0]? = some (a, .inl (cA, n, .inr (.inr (.inr (.inr g)))))) (ht : tys[t0]? = some (cA, .object C)) {j : Nat} {o : Option Nat} (hj : j < n) (hn : n ≤ 1000000) (hg : g j = o) (hdg : decode cc pc = .ok (.aaload, 1))
    (kk : W p l e R s m args below meth c H locs cells slots Q (F0 m (pc + 1) ls (va_rf o :: rest))) : W p l e R s m args below meth c H locs cells slots Q (F0 m pc ls (.int (nI j) :: .ref a :: rest)) := by
  refine va_aldq hexec hb hK hP q0 t0 ha ht (vp_in_nI hj (by omega)) hdg ?_
  rw [nI_clamp (by omega), hg]
  exact kk
end PoolRows2
theorem nI_neg1 (j : Nat) : nI j - 1 = nI j + Int32.ofInt (-1) := by rw [Int32.sub_eq_add_neg]; rfl
abbrev sh5 (x : Int32) : Prop := x = 12 ∨ x = 8 ∨ x = 4 ∨ x = 0 ∨ x = -4
theorem sh5_s {x : Int32} (h : sh5 x) (h0 : ¬ x < 0) : sh5 (x + Int32.ofInt (-4)) ∧ (x + Int32.ofInt (-4) + 4).toInt.toNat < (x + 4).toInt.toNat := by
  rcases h with rfl | rfl | rfl | rfl | rfl
  · decide
  · decide
  · decide
  · decide
  · exact absurd (by decide) h0
abbrev b_Printer_unit : ByteArray := prog_5_method_10_code
def y_Printer_unit : MethodName := ⟨"QueryBench$Printer", "unit", "(II)V"⟩
abbrev k_Printer_unit : Cond := .code y_Printer_unit b_Printer_unit 5 none
theorem i_Printer_unit : k_Printer_unit ∈ gtbl := gt_in 975 (by decide +kernel) (by decide +kernel)
theorem d_Printer_unit_0 : decode b_Printer_unit 0 = .ok (.iload_n 1, 1) := by decide +kernel
theorem d_Printer_unit_1 : decode b_Printer_unit 1 = .ok (.iload_n 2, 1) := by decide +kernel
theorem d_Printer_unit_2 : decode b_Printer_unit 2 = .ok (.invokestatic 100, 3) := by decide +kernel
theorem d_Printer_unit_5 : decode b_Printer_unit 5 = .ok (.istore_n 3, 1) := by decide +kernel
theorem d_Printer_unit_6 : decode b_Printer_unit 6 = .ok (.iload_n 3, 1) := by decide +kernel
theorem d_Printer_unit_7 : decode b_Printer_unit 7 = .ok (.ifCond .eq 17, 3) := by decide +kernel
theorem d_Printer_unit_10 : decode b_Printer_unit 10 = .ok (.aload_n 0, 1) := by decide +kernel
theorem d_Printer_unit_11 : decode b_Printer_unit 11 = .ok (.bipush 92, 2) := by decide +kernel
theorem d_Printer_unit_13 : decode b_Printer_unit 13 = .ok (.invokevirtual 25, 3) := by decide +kernel
theorem d_Printer_unit_16 : decode b_Printer_unit 16 = .ok (.aload_n 0, 1) := by decide +kernel
theorem d_Printer_unit_17 : decode b_Printer_unit 17 = .ok (.iload_n 3, 1) := by decide +kernel
theorem d_Printer_unit_18 : decode b_Printer_unit 18 = .ok (.invokevirtual 25, 3) := by decide +kernel
theorem d_Printer_unit_21 : decode b_Printer_unit 21 = .ok (.goto 60, 3) := by decide +kernel
theorem d_Printer_unit_24 : decode b_Printer_unit 24 = .ok (.iload_n 1, 1) := by decide +kernel
theorem d_Printer_unit_25 : decode b_Printer_unit 25 = .ok (.bipush 32, 2) := by decide +kernel
theorem d_Printer_unit_27 : decode b_Printer_unit 27 = .ok (.if_icmp .lt 17, 3) := by decide +kernel
theorem d_Printer_unit_30 : decode b_Printer_unit 30 = .ok (.iload_n 1, 1) := by decide +kernel
theorem d_Printer_unit_31 : decode b_Printer_unit 31 = .ok (.bipush 126, 2) := by decide +kernel
theorem d_Printer_unit_33 : decode b_Printer_unit 33 = .ok (.if_icmp .gt 11, 3) := by decide +kernel
theorem d_Printer_unit_36 : decode b_Printer_unit 36 = .ok (.aload_n 0, 1) := by decide +kernel
theorem d_Printer_unit_37 : decode b_Printer_unit 37 = .ok (.iload_n 1, 1) := by decide +kernel
theorem d_Printer_unit_38 : decode b_Printer_unit 38 = .ok (.invokevirtual 25, 3) := by decide +kernel
theorem d_Printer_unit_41 : decode b_Printer_unit 41 = .ok (.goto 40, 3) := by decide +kernel
theorem d_Printer_unit_44 : decode b_Printer_unit 44 = .ok (.aload_n 0, 1) := by decide +kernel
theorem d_Printer_unit_45 : decode b_Printer_unit 45 = .ok (.ldc 104, 2) := by decide +kernel
theorem d_Printer_unit_47 : decode b_Printer_unit 47 = .ok (.invokevirtual 73, 3) := by decide +kernel
theorem d_Printer_unit_50 : decode b_Printer_unit 50 = .ok (.bipush 12, 2) := by decide +kernel
theorem d_Printer_unit_52 : decode b_Printer_unit 52 = .ok (.istore 4, 2) := by decide +kernel
theorem d_Printer_unit_54 : decode b_Printer_unit 54 = .ok (.iload 4, 2) := by decide +kernel
theorem d_Printer_unit_56 : decode b_Printer_unit 56 = .ok (.ifCond .lt 25, 3) := by decide +kernel
theorem d_Printer_unit_59 : decode b_Printer_unit 59 = .ok (.aload_n 0, 1) := by decide +kernel
theorem d_Printer_unit_60 : decode b_Printer_unit 60 = .ok (.ldc 106, 2) := by decide +kernel
theorem d_Printer_unit_62 : decode b_Printer_unit 62 = .ok (.iload_n 1, 1) := by decide +kernel
theorem d_Printer_unit_63 : decode b_Printer_unit 63 = .ok (.iload 4, 2) := by decide +kernel
theorem d_Printer_unit_65 : decode b_Printer_unit 65 = .ok (.ishr, 1) := by decide +kernel
theorem d_Printer_unit_66 : decode b_Printer_unit 66 = .ok (.bipush 15, 2) := by decide +kernel
theorem d_Printer_unit_68 : decode b_Printer_unit 68 = .ok (.iand, 1) := by decide +kernel
theorem d_Printer_unit_69 : decode b_Printer_unit 69 = .ok (.invokevirtual 45, 3) := by decide +kernel
theorem d_Printer_unit_72 : decode b_Printer_unit 72 = .ok (.invokevirtual 25, 3) := by decide +kernel
theorem d_Printer_unit_75 : decode b_Printer_unit 75 = .ok (.iinc 4 (-4), 3) := by decide +kernel
theorem d_Printer_unit_78 : decode b_Printer_unit 78 = .ok (.goto (-24), 3) := by decide +kernel
theorem d_Printer_unit_81 : decode b_Printer_unit 81 = .ok (.return_, 1) := by decide +kernel
set_option maxHeartbeats 4000000 in
set_option maxRecDepth 100000 in
/-- Printer.unit -/
theorem c_Printer_unit (l : Launch) (hl9 : l.stackTraces = false) (K : Nat → Nat × Nat) (dC : Nat → ClassId) (dI : Nat → Nat → Nat) (sz : Heap) (cB : ClassId) (p1 pb ps : Nat) (g : Nat → Int32) (k : Nat) (hk : k ≤ 16384) (x q : Int32) : vx_Met l y_Printer_unit (k_Printer_unit :: gtbl) ({ frames := 10, cells := 1, slots := 6, locals := 190 }) (va_Pc [.ref p1, .int x, .int q] (ml K dC dI ([(p1, .inr (3, [.ref pb, .int (nI k), .ref ps])), (pb, .inl (cB, 16384, .inl g))]) [(cB, .byte)] sz)) (va_Qv (fun (u : Nat × (Nat → Int32)) => u.1 ≤ 16384) (fun u t9 => mz dC dI ([(p1, .inr (3, [.ref pb, .int (nI u.1), .ref ps])), (pb, .inl (cB, 16384, .inl u.2))]) [(cB, .byte)] (va_A ([(p1, .inr (3, [.ref pb, .int (nI k), .ref ps])), (pb, .inl (cB, 16384, .inl g))]) sz.size) t9 ∧ szk sz t9.heap (0) (0)) (va_A ([(p1, .inr (3, [.ref pb, .int (nI k), .ref ps])), (pb, .inl (cB, 16384, .inl g))]) sz.size)) (vx_X (fun (u : Int32 × (Nat → Int32)) => True) (fun En u t9 => En = IOB ∧ mz dC dI ([(p1, .inr (3, [.ref pb, .int u.1, .ref ps])), (pb, .inl (cB, 16384, .inl u.2))]) [(cB, .byte)] (va_A ([(p1, .inr (3, [.ref pb, .int (nI k), .ref ps])), (pb, .inl (cB, 16384, .inl g))]) sz.size) t9) (va_A ([(p1, .inr (3, [.ref pb, .int (nI k), .ref ps])), (pb, .inl (cB, 16384, .inl g))]) sz.size)) (1) (6) (va_A ([(p1, .inr (3, [.ref pb, .int (nI k), .ref ps])), (pb, .inl (cB, 16384, .inl g))]) sz.size) := by
  refine vx_ofW (cc := b_Printer_unit) (maxL := 5) (ret := none) (by decide) rfl ?_
  intro p e s m args below meth c s₁ B hml hex hv
  obtain ⟨rfl, ⟨hsz, hP, hK, hD0⟩, hN, hZ, hC, hV⟩ := hv
  have hx := B.exec
  have hb := B.bytes
  have hr := B.returns
  have hts0 := atoms_spec (ws := k_Printer_unit :: gtbl) B.pre
  have hts := fun w h => hts0 w (List.mem_cons_of_mem _ h)
  have hown : s.vm.findClass R_Printer = some m.cls := findClass_of_methodNamed B.named
  have hlocks := B.notSynchronized
  subst hsz
  have hD := hD0.self (sz := s.heap.size)
  generalize hAe : va_A ([(p1, .inr (3, [.ref pb, .int (nI k), .ref ps])), (pb, .inl (cB, 16384, .inl g))]) s.heap.size = A at hD hZ hC ⊢
  have hA : ∀ q : Nat, s.heap.size ≤ q → A q := fun q h => by rw [← hAe]; exact Or.inr h
  have hS : va_S A s.heap s.heap [] := va_S.rf
  have hP : va_P (dC, dI) classes ([(p1, .inr (3, [.ref pb, .int (nI k), .ref ps])), (pb, .inl (cB, 16384, .inl g))]) s.heap := hP
  have hl := lv_entry ([.ref p1, .int x, .int q]) (n := 5) (Nat.le_of_ble_eq_true rfl)
  rw [lg_entry_eq]
  generalize (lg_sl ([.ref p1, .int x, .int q]) ++ List.replicate (5 - (lg_sl ([.ref p1, .int x, .int q])).length) Slot.unset).toArray = ls at hl ⊢
  have hl : lv_has ls 5 [(0, .ref p1), (1, .int x), (2, .int q)] := hl
  refine lv_iload_n hx hb d_Printer_unit_0 rfl (lv_at hl 1 rfl) ?_
  refine lv_iload_n hx hb d_Printer_unit_1 rfl (lv_at hl 2 rfl) ?_
  refine vp_callSi (va_Run.run (va_runS (As := [.int x, .int q]) (rest := []) ⟨hx, hb, hml, hown, hts⟩ (c_Printer_shortEscape l dC dI s.heap x q) (va_cwS 2 hts (gt_S (own := R_Printer) (i := 100) (y := y_Printer_shortEscape) i_Printer_shortEscape z_976 z_977 w_6) rfl rfl rfl (by decide +kernel) ⟨Nat.le_of_ble_eq_true rfl, Nat.le_of_ble_eq_true rfl⟩) ⟨mT_blind, fun U hU hW => ⟨rfl, hN.warm hW⟩⟩ rfl rfl hl.1 rfl (lv_room (Nat.le_of_ble_eq_true rfl)) d_Printer_unit_2 ⟨Nat.le_of_ble_eq_true rfl, Nat.le_of_ble_eq_true rfl⟩)) (fun r1 h_r1 => ?_)
  refine lv_istore_n (lv' := [(3, .int r1), (0, .ref p1), (1, .int x), (2, .int q)]) hx hb d_Printer_unit_5 rfl hl (by decide) rfl (fun ls hl => ?_)
  refine lv_iload_n hx hb d_Printer_unit_6 rfl (lv_at hl 0 rfl) ?_
  refine lv_if_eq (tgt := 24) hx hb d_Printer_unit_7 (by decide) (fun c7 => ?_) (fun c7 => ?_)
  · refine lv_iload_n hx hb d_Printer_unit_24 rfl (lv_at hl 2 rfl) ?_
    refine lv_bipush (v := 32) hx hb d_Printer_unit_25 (by decide) ?_
    refine lv_icmp_lt (tgt := 44) hx hb d_Printer_unit_27 (by decide) (fun c27 => ?_) (fun c27 => ?_)
    · refine lv_aload_n hx hb d_Printer_unit_44 rfl (lv_at hl 1 rfl) ?_
      refine va_ldcS hx hb hown (hC 3 _ rfl).2 d_Printer_unit_45 ?_
      have hPc := hP.sub (ws' := [(p1, .inr (3, [.ref pb, .int (nI k), .ref ps])), (pb, .inl (cB, 16384, .inl g))]) [0, 1] rfl
      have hDc := hD.sub (ws' := [(p1, .inr (3, [.ref pb, .int (nI k), .ref ps])), (pb, .inl (cB, 16384, .inl g))]) [0, 1] (by decide) rfl
      have hFc := va_free (wc := [(p1, .inr (3, [.ref pb, .int (nI k), .ref ps])), (pb, .inl (cB, 16384, .inl g))]) hD hS hA [0, 1] rfl
      have hKc := hK.sub (tys' := [(cB, .byte)]) [0] rfl
      refine w_same (fun hq0 => ?_)
      refine vx_callv (vx_runV (As := [.ref (K 3).1]) (rest := []) ⟨hx, hb, hml, hown, hts⟩ (w_putLetters l hl9 dC dI cB p1 pb s.heap (.ref ps) g k (K 3).1 (K 3).2 2 (ctx 3) hk (by decide)) (cwV 1 hts (gt_V (own := R_Printer) (C := R_Printer) (i := 73) (y := y_Printer_putLetters) i_Printer_putLetters z_980 z_982 (gt_sel (y := y_Printer_putLetters) (n := 3) (by decide +kernel)) w_6) rfl rfl rfl (by decide +kernel) ⟨Nat.le_of_ble_eq_true rfl, Nat.le_of_ble_eq_true rfl⟩) ⟨mt_blind, va_recv hK hP (ci := 3) (q0 := 0) rfl rfl, fun U hU hW => ⟨rfl, ⟨hU, by rw [hU]; exact hPc, va_K.moved hW.alike hKc, hDc.weaken (fun _ _ _ _ => trivial)⟩, hN.warm hW, by rw [hU]; exact ZX.moved' hW.alike (ZX.narrow' (ZX.kept' hZ hS.2.1) hFc), by rw [hU]; exact SX.moved' hW.alike (SX.narrow' (SX.kept' (hC 3 _ rfl).1 hS.2.1) hFc)⟩⟩ rfl rfl hl.1 rfl (lv_room (Nat.le_of_ble_eq_true rfl)) d_Printer_unit_47 ⟨Nat.le_of_ble_eq_true rfl, Nat.le_of_ble_eq_true rfl⟩) hS (fun q _ h => hFc q h) hFc (fun q _ h => hFc q h) (fun En ce q9 ⟨kx, gx⟩ t9 H1 locs ht hvm hw hB hz1 hk1 hS hce hcv hcl => ?_) (fun ⟨k2, g2⟩ t9 H1 locs ht hvm hw hB hz1 hk1 hS => ?_)
      · obtain ⟨hEn, hP1, hK1, hD1⟩ := hB
        rw [ht] at hP1
        obtain ⟨hP, hD⟩ := va_join (wr := []) (w1 := [(p1, .inr (3, [.ref pb, .int (nI kx), .ref ps])), (pb, .inl (cB, 16384, .inl gx))]) hP hD [0, 1] [] rfl rfl (by decide) (by decide) hk1 hFc hP1 hD1
        generalize H1 = H at hP hS hce ⊢
        have hP : va_P (dC, dI) classes ([(p1, .inr (3, [.ref pb, .int (nI kx), .ref ps])), (pb, .inl (cB, 16384, .inl gx))]) H := hP
        have hD : va_D A ([(p1, .inr (3, [.ref pb, .int (nI kx), .ref ps])), (pb, .inl (cB, 16384, .inl gx))]) := hD
        exact vx_out (fun x hx => (hex x hx).elim) hlocks hce hcv hcl (fun t9 ht2 ha => ⟨(nI kx, gx), trivial, ⟨hEn, by rw [ht2]; exact hP, va_K.moved ha hK, hD⟩, hS.F ht2⟩) hS.2.2 (Nat.le_of_ble_eq_true rfl) (Nat.le_of_ble_eq_true rfl)
      · obtain ⟨⟨hP1, hK1, hD1⟩, hz9⟩ := hB
        rw [ht] at hP1
        rw [ht] at hz9
        refine w_tight (hq0.trans hz9) ?_
        have hq0 := hq0.trans hz9
        obtain ⟨hP, hD⟩ := va_join (wr := []) (w1 := [(p1, .inr (3, [.ref pb, .int (nI k2), .ref ps])), (pb, .inl (cB, 16384, .inl g2))]) hP hD [0, 1] [] rfl rfl (by decide) (by decide) hk1 hFc hP1 hD1
        generalize H1 = H at hP hS hq0 ⊢
        have hP : va_P (dC, dI) classes ([(p1, .inr (3, [.ref pb, .int (nI k2), .ref ps])), (pb, .inl (cB, 16384, .inl g2))]) H := hP
        have hD : va_D A ([(p1, .inr (3, [.ref pb, .int (nI k2), .ref ps])), (pb, .inl (cB, 16384, .inl g2))]) := hD
        have hk2 : k2 ≤ 16384 := hw
        refine lv_bipush (v := 12) hx hb d_Printer_unit_50 (by decide) ?_
        refine lv_istore (lv' := [(4, .int 12), (3, .int r1), (0, .ref p1), (1, .int x), (2, .int q)]) hx hb d_Printer_unit_52 hl (by decide) rfl (fun ls hl => ?_)
        refine w_loop (D := (dC, dI)) (cl := classes) (A := A) (H0 := s.heap) (nL := 5) 54 (σ := Int32 × Nat × (Nat → Int32)) (fun ⟨sh, k, g⟩ => sh5 sh ∧ k ≤ 16384) (fun ⟨sh, k, g⟩ => (sh + 4).toInt.toNat) (fun ⟨sh, k, g⟩ => [(p1, .inr (3, [.ref pb, .int (nI k), .ref ps])), (pb, .inl (cB, 16384, .inl g))]) (fun ⟨sh, k, g⟩ => [(0, .ref p1), (1, .int x), (4, .int sh)]) ?_ (12, k2, g2) ⟨Or.inl rfl, hk2⟩ hP hD hS (lv_sub hl [2, 3, 0] rfl)
        rintro ⟨sh, k, g⟩ H locs ls hI ih hP hD hS hl
        have hP : va_P (dC, dI) classes ([(p1, .inr (3, [.ref pb, .int (nI k), .ref ps])), (pb, .inl (cB, 16384, .inl g))]) H := hP
        have hD : va_D A ([(p1, .inr (3, [.ref pb, .int (nI k), .ref ps])), (pb, .inl (cB, 16384, .inl g))]) := hD
        have hl : lv_has ls 5 [(0, .ref p1), (1, .int x), (4, .int sh)] := hl
        obtain ⟨hsh, hk⟩ := hI
        have hsh : sh5 sh := hsh
        have hk : k ≤ 16384 := hk
        refine lv_iload hx hb d_Printer_unit_54 (lv_at hl 2 rfl) ?_
        refine lv_if_lt (tgt := 81) hx hb d_Printer_unit_56 (by decide) (fun c56 => ?_) (fun c56 => ?_)
        · refine w_same (fun hq => ?_)
          refine W.widen (k := 1) (n := 6) (Nat.le_of_ble_eq_true rfl) (Nat.le_of_ble_eq_true rfl) ?_
          refine vx_ret ?_
          exact W.vret hx hb hr (fun t9 ht hW => ⟨⟨(k, g), rfl, hk, ⟨by rw [ht]; exact hP, va_K.moved hW.alike hK, hD⟩, by rw [ht]; exact hq⟩, hS.F ht⟩) hS.2.2 d_Printer_unit_81
        · refine lv_aload_n hx hb d_Printer_unit_59 rfl (lv_at hl 0 rfl) ?_
          refine va_ldcS hx hb hown (hC 4 _ rfl).2 d_Printer_unit_60 ?_
          refine lv_iload_n hx hb d_Printer_unit_62 rfl (lv_at hl 1 rfl) ?_
          refine lv_iload hx hb d_Printer_unit_63 (lv_at hl 2 rfl) ?_
          refine lv_ishr hx hb d_Printer_unit_65 ?_
          refine lv_bipush (v := 15) hx hb d_Printer_unit_66 (by decide) ?_
          refine lv_iand hx hb d_Printer_unit_68 ?_
          obtain ⟨j9, hj9, ej9⟩ := pk_andE ((x >>> (sh &&& 31))) (m := 15) 4 (by decide)
          refine W.eq (g2 := F0 m 69 ls [.int (nI j9), .ref (K 4).1, .ref p1]) (by rw [show ((x >>> (sh &&& 31)) &&& 15) = (nI j9) from ej9]) ?_
          have hPc := hP.sub (ws' := []) [] rfl
          have hDc := hD.sub (ws' := []) [] (by decide) rfl
          have hFc := va_free (wc := []) hD hS hA [] rfl
          have hKc := hK.sub (tys' := []) [] rfl
          refine va_calli (va_runV (As := [.int (nI j9)]) (rest := [.ref p1]) ⟨hx, hb, hml, hown, hts⟩ (c_Str_charAt l dC dI H (K 4).1 (K 4).2 16 (ctx 4) j9 hj9 (by decide)) (cwV 1 hts (gt_V (own := R_Printer) (C := R_Str) (i := 45) (y := y_Str_charAt) i_Str_charAt w_985 w_466 w_467 w_18) rfl rfl rfl (by decide +kernel) ⟨Nat.le_of_ble_eq_true rfl, Nat.le_of_ble_eq_true rfl⟩) ⟨mstr_blind, (by obtain ⟨cell, h1, h2, h3, -⟩ := va_O.kept (hC 4 _ rfl).1.1 hS.2.1; exact ⟨cell, h1, h2, h3⟩), fun U hU hW => ⟨rfl, ⟨hU, by rw [hU]; exact hPc, va_K.moved hW.alike hKc, hDc.weaken (fun _ _ _ _ => trivial)⟩, by rw [hU]; exact SX.moved' hW.alike (SX.narrow' (SX.kept' (hC 4 _ rfl).1 hS.2.1) hFc)⟩⟩ rfl rfl hl.1 rfl (lv_room (Nat.le_of_ble_eq_true rfl)) d_Printer_unit_69 ⟨Nat.le_of_ble_eq_true rfl, Nat.le_of_ble_eq_true rfl⟩) hS (fun q _ h => hFc q h) hFc (fun ch _u t9 H1 locs ht hvm hw hB hz1 hk1 hS => ?_)
          obtain ⟨hP1, hK1, hD1⟩ := hB
          rw [ht] at hP1
          obtain ⟨hP, hD⟩ := va_join (wr := [(p1, .inr (3, [.ref pb, .int (nI k), .ref ps])), (pb, .inl (cB, 16384, .inl g))]) (w1 := []) hP hD [] [0, 1] rfl rfl (by decide) (by decide) hk1 hFc hP1 hD1
          generalize H1 = H at hP hS ⊢
          have hP : va_P (dC, dI) classes ([(p1, .inr (3, [.ref pb, .int (nI k), .ref ps])), (pb, .inl (cB, 16384, .inl g))]) H := hP
          have hD : va_D A ([(p1, .inr (3, [.ref pb, .int (nI k), .ref ps])), (pb, .inl (cB, 16384, .inl g))]) := hD
          have hPc := hP.sub (ws' := [(p1, .inr (3, [.ref pb, .int (nI k), .ref ps])), (pb, .inl (cB, 16384, .inl g))]) [0, 1] rfl
          have hDc := hD.sub (ws' := [(p1, .inr (3, [.ref pb, .int (nI k), .ref ps])), (pb, .inl (cB, 16384, .inl g))]) [0, 1] (by decide) rfl
          have hFc := va_free (wc := [(p1, .inr (3, [.ref pb, .int (nI k), .ref ps])), (pb, .inl (cB, 16384, .inl g))]) hD hS hA [0, 1] rfl
          have hKc := hK.sub (tys' := [(cB, .byte)]) [0] rfl
          refine w_same (fun hq0 => ?_)
          refine vx_callv (vx_runV (As := [.int ch]) (rest := []) ⟨hx, hb, hml, hown, hts⟩ (w_put l hl9 dC dI cB p1 pb H (.ref ps) g k ch hk) (cwV 1 hts (gt_V (own := R_Printer) (C := R_Printer) (i := 25) (y := y_Printer_put) i_Printer_put w_957 w_959 (gt_sel (y := y_Printer_put) (n := 3) (by decide +kernel)) w_6) rfl rfl rfl (by decide +kernel) ⟨Nat.le_of_ble_eq_true rfl, Nat.le_of_ble_eq_true rfl⟩) ⟨mx_blind, va_recv hK hP (ci := 3) (q0 := 0) rfl rfl, fun U hU hW => ⟨rfl, ⟨hU, by rw [hU]; exact hPc, va_K.moved hW.alike hKc, hDc.weaken (fun _ _ _ _ => trivial)⟩, hN.warm hW, by rw [hU]; exact ZX.moved' hW.alike (ZX.narrow' (ZX.kept' hZ hS.2.1) hFc)⟩⟩ rfl rfl hl.1 rfl (lv_room (Nat.le_of_ble_eq_true rfl)) d_Printer_unit_72 ⟨Nat.le_of_ble_eq_true rfl, Nat.le_of_ble_eq_true rfl⟩) hS (fun q _ h => hFc q h) hFc (fun q _ h => hFc q h) (fun En ce q9 ⟨kx, gx⟩ t9 H1 locs ht hvm hw hB hz1 hk1 hS hce hcv hcl => ?_) (fun ⟨k3, g3⟩ t9 H1 locs ht hvm hw hB hz1 hk1 hS => ?_)
          · obtain ⟨hEn, hP1, hK1, hD1⟩ := hB
            rw [ht] at hP1
            obtain ⟨hP, hD⟩ := va_join (wr := []) (w1 := [(p1, .inr (3, [.ref pb, .int (nI kx), .ref ps])), (pb, .inl (cB, 16384, .inl gx))]) hP hD [0, 1] [] rfl rfl (by decide) (by decide) hk1 hFc hP1 hD1
            generalize H1 = H at hP hS hce ⊢
            have hP : va_P (dC, dI) classes ([(p1, .inr (3, [.ref pb, .int (nI kx), .ref ps])), (pb, .inl (cB, 16384, .inl gx))]) H := hP
            have hD : va_D A ([(p1, .inr (3, [.ref pb, .int (nI kx), .ref ps])), (pb, .inl (cB, 16384, .inl gx))]) := hD
            exact vx_out (fun x hx => (hex x hx).elim) hlocks hce hcv hcl (fun t9 ht2 ha => ⟨(nI kx, gx), trivial, ⟨hEn, by rw [ht2]; exact hP, va_K.moved ha hK, hD⟩, hS.F ht2⟩) hS.2.2 (Nat.le_of_ble_eq_true rfl) (Nat.le_of_ble_eq_true rfl)
          · obtain ⟨⟨hP1, hK1, hD1⟩, hz9⟩ := hB
            rw [ht] at hP1
            rw [ht] at hz9
            refine w_tight (hq0.trans hz9) ?_
            have hq0 := hq0.trans hz9
            obtain ⟨hP, hD⟩ := va_join (wr := []) (w1 := [(p1, .inr (3, [.ref pb, .int (nI k3), .ref ps])), (pb, .inl (cB, 16384, .inl g3))]) hP hD [0, 1] [] rfl rfl (by decide) (by decide) hk1 hFc hP1 hD1
            generalize H1 = H at hP hS hq0 ⊢
            have hP : va_P (dC, dI) classes ([(p1, .inr (3, [.ref pb, .int (nI k3), .ref ps])), (pb, .inl (cB, 16384, .inl g3))]) H := hP
            have hD : va_D A ([(p1, .inr (3, [.ref pb, .int (nI k3), .ref ps])), (pb, .inl (cB, 16384, .inl g3))]) := hD
            have hk3 : k3 ≤ 16384 := hw
            refine lv_iinc (v := sh + Int32.ofInt (-4)) (lv' := [(4, .int (sh + Int32.ofInt (-4))), (0, .ref p1), (1, .int x)]) hx hb d_Printer_unit_75 hl (k := 2) rfl rfl (by decide) rfl (fun ls hl => ?_)
            refine lv_goto (tgt := 54) hx hb d_Printer_unit_78 (by decide) ?_
            have h5 := sh5_s hsh c56
            exact ih (sh + Int32.ofInt (-4), k3, g3) _ _ _ ⟨h5.1, hk3⟩ h5.2 hP hD hS (lv_sub hl [1, 2, 0] rfl)
    · refine lv_iload_n hx hb d_Printer_unit_30 rfl (lv_at hl 2 rfl) ?_
      refine lv_bipush (v := 126) hx hb d_Printer_unit_31 (by decide) ?_
      refine lv_icmp_gt (tgt := 44) hx hb d_Printer_unit_33 (by decide) (fun c33 => ?_) (fun c33 => ?_)
      · refine lv_aload_n hx hb d_Printer_unit_44 rfl (lv_at hl 1 rfl) ?_
        refine va_ldcS hx hb hown (hC 3 _ rfl).2 d_Printer_unit_45 ?_
        have hPc := hP.sub (ws' := [(p1, .inr (3, [.ref pb, .int (nI k), .ref ps])), (pb, .inl (cB, 16384, .inl g))]) [0, 1] rfl
        have hDc := hD.sub (ws' := [(p1, .inr (3, [.ref pb, .int (nI k), .ref ps])), (pb, .inl (cB, 16384, .inl g))]) [0, 1] (by decide) rfl
        have hFc := va_free (wc := [(p1, .inr (3, [.ref pb, .int (nI k), .ref ps])), (pb, .inl (cB, 16384, .inl g))]) hD hS hA [0, 1] rfl
        have hKc := hK.sub (tys' := [(cB, .byte)]) [0] rfl
        refine w_same (fun hq0 => ?_)
        refine vx_callv (vx_runV (As := [.ref (K 3).1]) (rest := []) ⟨hx, hb, hml, hown, hts⟩ (w_putLetters l hl9 dC dI cB p1 pb s.heap (.ref ps) g k (K 3).1 (K 3).2 2 (ctx 3) hk (by decide)) (cwV 1 hts (gt_V (own := R_Printer) (C := R_Printer) (i := 73) (y := y_Printer_putLetters) i_Printer_putLetters z_980 z_982 (gt_sel (y := y_Printer_putLetters) (n := 3) (by decide +kernel)) w_6) rfl rfl rfl (by decide +kernel) ⟨Nat.le_of_ble_eq_true rfl, Nat.le_of_ble_eq_true rfl⟩) ⟨mt_blind, va_recv hK hP (ci := 3) (q0 := 0) rfl rfl, fun U hU hW => ⟨rfl, ⟨hU, by rw [hU]; exact hPc, va_K.moved hW.alike hKc, hDc.weaken (fun _ _ _ _ => trivial)⟩, hN.warm hW, by rw [hU]; exact ZX.moved' hW.alike (ZX.narrow' (ZX.kept' hZ hS.2.1) hFc), by rw [hU]; exact SX.moved' hW.alike (SX.narrow' (SX.kept' (hC 3 _ rfl).1 hS.2.1) hFc)⟩⟩ rfl rfl hl.1 rfl (lv_room (Nat.le_of_ble_eq_true rfl)) d_Printer_unit_47 ⟨Nat.le_of_ble_eq_true rfl, Nat.le_of_ble_eq_true rfl⟩) hS (fun q _ h => hFc q h) hFc (fun q _ h => hFc q h) (fun En ce q9 ⟨kx, gx⟩ t9 H1 locs ht hvm hw hB hz1 hk1 hS hce hcv hcl => ?_) (fun ⟨k4, g4⟩ t9 H1 locs ht hvm hw hB hz1 hk1 hS => ?_)
        · obtain ⟨hEn, hP1, hK1, hD1⟩ := hB
          rw [ht] at hP1
          obtain ⟨hP, hD⟩ := va_join (wr := []) (w1 := [(p1, .inr (3, [.ref pb, .int (nI kx), .ref ps])), (pb, .inl (cB, 16384, .inl gx))]) hP hD [0, 1] [] rfl rfl (by decide) (by decide) hk1 hFc hP1 hD1
          generalize H1 = H at hP hS hce ⊢
          have hP : va_P (dC, dI) classes ([(p1, .inr (3, [.ref pb, .int (nI kx), .ref ps])), (pb, .inl (cB, 16384, .inl gx))]) H := hP
          have hD : va_D A ([(p1, .inr (3, [.ref pb, .int (nI kx), .ref ps])), (pb, .inl (cB, 16384, .inl gx))]) := hD
          exact vx_out (fun x hx => (hex x hx).elim) hlocks hce hcv hcl (fun t9 ht2 ha => ⟨(nI kx, gx), trivial, ⟨hEn, by rw [ht2]; exact hP, va_K.moved ha hK, hD⟩, hS.F ht2⟩) hS.2.2 (Nat.le_of_ble_eq_true rfl) (Nat.le_of_ble_eq_true rfl)
        · obtain ⟨⟨hP1, hK1, hD1⟩, hz9⟩ := hB
          rw [ht] at hP1
          rw [ht] at hz9
          refine w_tight (hq0.trans hz9) ?_
          have hq0 := hq0.trans hz9
          obtain ⟨hP, hD⟩ := va_join (wr := []) (w1 := [(p1, .inr (3, [.ref pb, .int (nI k4), .ref ps])), (pb, .inl (cB, 16384, .inl g4))]) hP hD [0, 1] [] rfl rfl (by decide) (by decide) hk1 hFc hP1 hD1
          generalize H1 = H at hP hS hq0 ⊢
          have hP : va_P (dC, dI) classes ([(p1, .inr (3, [.ref pb, .int (nI k4), .ref ps])), (pb, .inl (cB, 16384, .inl g4))]) H := hP
          have hD : va_D A ([(p1, .inr (3, [.ref pb, .int (nI k4), .ref ps])), (pb, .inl (cB, 16384, .inl g4))]) := hD
          have hk4 : k4 ≤ 16384 := hw
          refine lv_bipush (v := 12) hx hb d_Printer_unit_50 (by decide) ?_
          refine lv_istore (lv' := [(4, .int 12), (3, .int r1), (0, .ref p1), (1, .int x), (2, .int q)]) hx hb d_Printer_unit_52 hl (by decide) rfl (fun ls hl => ?_)
          refine w_loop (D := (dC, dI)) (cl := classes) (A := A) (H0 := s.heap) (nL := 5) 54 (σ := Int32 × Nat × (Nat → Int32)) (fun ⟨sh, k, g⟩ => sh5 sh ∧ k ≤ 16384) (fun ⟨sh, k, g⟩ => (sh + 4).toInt.toNat) (fun ⟨sh, k, g⟩ => [(p1, .inr (3, [.ref pb, .int (nI k), .ref ps])), (pb, .inl (cB, 16384, .inl g))]) (fun ⟨sh, k, g⟩ => [(0, .ref p1), (1, .int x), (4, .int sh)]) ?_ (12, k4, g4) ⟨Or.inl rfl, hk4⟩ hP hD hS (lv_sub hl [2, 3, 0] rfl)
          rintro ⟨sh, k, g⟩ H locs ls hI ih hP hD hS hl
          have hP : va_P (dC, dI) classes ([(p1, .inr (3, [.ref pb, .int (nI k), .ref ps])), (pb, .inl (cB, 16384, .inl g))]) H := hP
          have hD : va_D A ([(p1, .inr (3, [.ref pb, .int (nI k), .ref ps])), (pb, .inl (cB, 16384, .inl g))]) := hD
          have hl : lv_has ls 5 [(0, .ref p1), (1, .int x), (4, .int sh)] := hl
          obtain ⟨hsh, hk⟩ := hI
          have hsh : sh5 sh := hsh
          have hk : k ≤ 16384 := hk
          refine lv_iload hx hb d_Printer_unit_54 (lv_at hl 2 rfl) ?_
          refine lv_if_lt (tgt := 81) hx hb d_Printer_unit_56 (by decide) (fun c56 => ?_) (fun c56 => ?_)
          · refine w_same (fun hq => ?_)
            refine W.widen (k := 1) (n := 6) (Nat.le_of_ble_eq_true rfl) (Nat.le_of_ble_eq_true rfl) ?_
            refine vx_ret ?_
            exact W.vret hx hb hr (fun t9 ht hW => ⟨⟨(k, g), rfl, hk, ⟨by rw [ht]; exact hP, va_K.moved hW.alike hK, hD⟩, by rw [ht]; exact hq⟩, hS.F ht⟩) hS.2.2 d_Printer_unit_81
          · refine lv_aload_n hx hb d_Printer_unit_59 rfl (lv_at hl 0 rfl) ?_
            refine va_ldcS hx hb hown (hC 4 _ rfl).2 d_Printer_unit_60 ?_
            refine lv_iload_n hx hb d_Printer_unit_62 rfl (lv_at hl 1 rfl) ?_
            refine lv_iload hx hb d_Printer_unit_63 (lv_at hl 2 rfl) ?_
            refine lv_ishr hx hb d_Printer_unit_65 ?_
            refine lv_bipush (v := 15) hx hb d_Printer_unit_66 (by decide) ?_
            refine lv_iand hx hb d_Printer_unit_68 ?_
            obtain ⟨j9, hj9, ej9⟩ := pk_andE ((x >>> (sh &&& 31))) (m := 15) 4 (by decide)
            refine W.eq (g2 := F0 m 69 ls [.int (nI j9), .ref (K 4).1, .ref p1]) (by rw [show ((x >>> (sh &&& 31)) &&& 15) = (nI j9) from ej9]) ?_
            have hPc := hP.sub (ws' := []) [] rfl
            have hDc := hD.sub (ws' := []) [] (by decide) rfl
            have hFc := va_free (wc := []) hD hS hA [] rfl
            have hKc := hK.sub (tys' := []) [] rfl
            refine va_calli (va_runV (As := [.int (nI j9)]) (rest := [.ref p1]) ⟨hx, hb, hml, hown, hts⟩ (c_Str_charAt l dC dI H (K 4).1 (K 4).2 16 (ctx 4) j9 hj9 (by decide)) (cwV 1 hts (gt_V (own := R_Printer) (C := R_Str) (i := 45) (y := y_Str_charAt) i_Str_charAt w_985 w_466 w_467 w_18) rfl rfl rfl (by decide +kernel) ⟨Nat.le_of_ble_eq_true rfl, Nat.le_of_ble_eq_true rfl⟩) ⟨mstr_blind, (by obtain ⟨cell, h1, h2, h3, -⟩ := va_O.kept (hC 4 _ rfl).1.1 hS.2.1; exact ⟨cell, h1, h2, h3⟩), fun U hU hW => ⟨rfl, ⟨hU, by rw [hU]; exact hPc, va_K.moved hW.alike hKc, hDc.weaken (fun _ _ _ _ => trivial)⟩, by rw [hU]; exact SX.moved' hW.alike (SX.narrow' (SX.kept' (hC 4 _ rfl).1 hS.2.1) hFc)⟩⟩ rfl rfl hl.1 rfl (lv_room (Nat.le_of_ble_eq_true rfl)) d_Printer_unit_69 ⟨Nat.le_of_ble_eq_true rfl, Nat.le_of_ble_eq_true rfl⟩) hS (fun q _ h => hFc q h) hFc (fun ch _u t9 H1 locs ht hvm hw hB hz1 hk1 hS => ?_)
            obtain ⟨hP1, hK1, hD1⟩ := hB
            rw [ht] at hP1
            obtain ⟨hP, hD⟩ := va_join (wr := [(p1, .inr (3, [.ref pb, .int (nI k), .ref ps])), (pb, .inl (cB, 16384, .inl g))]) (w1 := []) hP hD [] [0, 1] rfl rfl (by decide) (by decide) hk1 hFc hP1 hD1
            generalize H1 = H at hP hS ⊢
            have hP : va_P (dC, dI) classes ([(p1, .inr (3, [.ref pb, .int (nI k), .ref ps])), (pb, .inl (cB, 16384, .inl g))]) H := hP
            have hD : va_D A ([(p1, .inr (3, [.ref pb, .int (nI k), .ref ps])), (pb, .inl (cB, 16384, .inl g))]) := hD
            have hPc := hP.sub (ws' := [(p1, .inr (3, [.ref pb, .int (nI k), .ref ps])), (pb, .inl (cB, 16384, .inl g))]) [0, 1] rfl
            have hDc := hD.sub (ws' := [(p1, .inr (3, [.ref pb, .int (nI k), .ref ps])), (pb, .inl (cB, 16384, .inl g))]) [0, 1] (by decide) rfl
            have hFc := va_free (wc := [(p1, .inr (3, [.ref pb, .int (nI k), .ref ps])), (pb, .inl (cB, 16384, .inl g))]) hD hS hA [0, 1] rfl
            have hKc := hK.sub (tys' := [(cB, .byte)]) [0] rfl
            refine w_same (fun hq0 => ?_)
            refine vx_callv (vx_runV (As := [.int ch]) (rest := []) ⟨hx, hb, hml, hown, hts⟩ (w_put l hl9 dC dI cB p1 pb H (.ref ps) g k ch hk) (cwV 1 hts (gt_V (own := R_Printer) (C := R_Printer) (i := 25) (y := y_Printer_put) i_Printer_put w_957 w_959 (gt_sel (y := y_Printer_put) (n := 3) (by decide +kernel)) w_6) rfl rfl rfl (by decide +kernel) ⟨Nat.le_of_ble_eq_true rfl, Nat.le_of_ble_eq_true rfl⟩) ⟨mx_blind, va_recv hK hP (ci := 3) (q0 := 0) rfl rfl, fun U hU hW => ⟨rfl, ⟨hU, by rw [hU]; exact hPc, va_K.moved hW.alike hKc, hDc.weaken (fun _ _ _ _ => trivial)⟩, hN.warm hW, by rw [hU]; exact ZX.moved' hW.alike (ZX.narrow' (ZX.kept' hZ hS.2.1) hFc)⟩⟩ rfl rfl hl.1 rfl (lv_room (Nat.le_of_ble_eq_true rfl)) d_Printer_unit_72 ⟨Nat.le_of_ble_eq_true rfl, Nat.le_of_ble_eq_true rfl⟩) hS (fun q _ h => hFc q h) hFc (fun q _ h => hFc q h) (fun En ce q9 ⟨kx, gx⟩ t9 H1 locs ht hvm hw hB hz1 hk1 hS hce hcv hcl => ?_) (fun ⟨k5, g5⟩ t9 H1 locs ht hvm hw hB hz1 hk1 hS => ?_)
            · obtain ⟨hEn, hP1, hK1, hD1⟩ := hB
              rw [ht] at hP1
              obtain ⟨hP, hD⟩ := va_join (wr := []) (w1 := [(p1, .inr (3, [.ref pb, .int (nI kx), .ref ps])), (pb, .inl (cB, 16384, .inl gx))]) hP hD [0, 1] [] rfl rfl (by decide) (by decide) hk1 hFc hP1 hD1
              generalize H1 = H at hP hS hce ⊢
              have hP : va_P (dC, dI) classes ([(p1, .inr (3, [.ref pb, .int (nI kx), .ref ps])), (pb, .inl (cB, 16384, .inl gx))]) H := hP
              have hD : va_D A ([(p1, .inr (3, [.ref pb, .int (nI kx), .ref ps])), (pb, .inl (cB, 16384, .inl gx))]) := hD
              exact vx_out (fun x hx => (hex x hx).elim) hlocks hce hcv hcl (fun t9 ht2 ha => ⟨(nI kx, gx), trivial, ⟨hEn, by rw [ht2]; exact hP, va_K.moved ha hK, hD⟩, hS.F ht2⟩) hS.2.2 (Nat.le_of_ble_eq_true rfl) (Nat.le_of_ble_eq_true rfl)
            · obtain ⟨⟨hP1, hK1, hD1⟩, hz9⟩ := hB
              rw [ht] at hP1
              rw [ht] at hz9
              refine w_tight (hq0.trans hz9) ?_
              have hq0 := hq0.trans hz9
              obtain ⟨hP, hD⟩ := va_join (wr := []) (w1 := [(p1, .inr (3, [.ref pb, .int (nI k5), .ref ps])), (pb, .inl (cB, 16384, .inl g5))]) hP hD [0, 1] [] rfl rfl (by decide) (by decide) hk1 hFc hP1 hD1
              generalize H1 = H at hP hS hq0 ⊢
              have hP : va_P (dC, dI) classes ([(p1, .inr (3, [.ref pb, .int (nI k5), .ref ps])), (pb, .inl (cB, 16384, .inl g5))]) H := hP
              have hD : va_D A ([(p1, .inr (3, [.ref pb, .int (nI k5), .ref ps])), (pb, .inl (cB, 16384, .inl g5))]) := hD
              have hk5 : k5 ≤ 16384 := hw
              refine lv_iinc (v := sh + Int32.ofInt (-4)) (lv' := [(4, .int (sh + Int32.ofInt (-4))), (0, .ref p1), (1, .int x)]) hx hb d_Printer_unit_75 hl (k := 2) rfl rfl (by decide) rfl (fun ls hl => ?_)
              refine lv_goto (tgt := 54) hx hb d_Printer_unit_78 (by decide) ?_
              have h5 := sh5_s hsh c56
              exact ih (sh + Int32.ofInt (-4), k5, g5) _ _ _ ⟨h5.1, hk5⟩ h5.2 hP hD hS (lv_sub hl [1, 2, 0] rfl)
      · refine lv_aload_n hx hb d_Printer_unit_36 rfl (lv_at hl 1 rfl) ?_
        refine lv_iload_n hx hb d_Printer_unit_37 rfl (lv_at hl 2 rfl) ?_
        have hPc := hP.sub (ws' := [(p1, .inr (3, [.ref pb, .int (nI k), .ref ps])), (pb, .inl (cB, 16384, .inl g))]) [0, 1] rfl
        have hDc := hD.sub (ws' := [(p1, .inr (3, [.ref pb, .int (nI k), .ref ps])), (pb, .inl (cB, 16384, .inl g))]) [0, 1] (by decide) rfl
        have hFc := va_free (wc := [(p1, .inr (3, [.ref pb, .int (nI k), .ref ps])), (pb, .inl (cB, 16384, .inl g))]) hD hS hA [0, 1] rfl
        have hKc := hK.sub (tys' := [(cB, .byte)]) [0] rfl
        refine w_same (fun hq0 => ?_)
        refine vx_callv (vx_runV (As := [.int x]) (rest := []) ⟨hx, hb, hml, hown, hts⟩ (w_put l hl9 dC dI cB p1 pb s.heap (.ref ps) g k x hk) (cwV 1 hts (gt_V (own := R_Printer) (C := R_Printer) (i := 25) (y := y_Printer_put) i_Printer_put w_957 w_959 (gt_sel (y := y_Printer_put) (n := 3) (by decide +kernel)) w_6) rfl rfl rfl (by decide +kernel) ⟨Nat.le_of_ble_eq_true rfl, Nat.le_of_ble_eq_true rfl⟩) ⟨mx_blind, va_recv hK hP (ci := 3) (q0 := 0) rfl rfl, fun U hU hW => ⟨rfl, ⟨hU, by rw [hU]; exact hPc, va_K.moved hW.alike hKc, hDc.weaken (fun _ _ _ _ => trivial)⟩, hN.warm hW, by rw [hU]; exact ZX.moved' hW.alike (ZX.narrow' (ZX.kept' hZ hS.2.1) hFc)⟩⟩ rfl rfl hl.1 rfl (lv_room (Nat.le_of_ble_eq_true rfl)) d_Printer_unit_38 ⟨Nat.le_of_ble_eq_true rfl, Nat.le_of_ble_eq_true rfl⟩) hS (fun q _ h => hFc q h) hFc (fun q _ h => hFc q h) (fun En ce q9 ⟨kx, gx⟩ t9 H1 locs ht hvm hw hB hz1 hk1 hS hce hcv hcl => ?_) (fun ⟨k6, g6⟩ t9 H1 locs ht hvm hw hB hz1 hk1 hS => ?_)
        · obtain ⟨hEn, hP1, hK1, hD1⟩ := hB
          rw [ht] at hP1
          obtain ⟨hP, hD⟩ := va_join (wr := []) (w1 := [(p1, .inr (3, [.ref pb, .int (nI kx), .ref ps])), (pb, .inl (cB, 16384, .inl gx))]) hP hD [0, 1] [] rfl rfl (by decide) (by decide) hk1 hFc hP1 hD1
          generalize H1 = H at hP hS hce ⊢
          have hP : va_P (dC, dI) classes ([(p1, .inr (3, [.ref pb, .int (nI kx), .ref ps])), (pb, .inl (cB, 16384, .inl gx))]) H := hP
          have hD : va_D A ([(p1, .inr (3, [.ref pb, .int (nI kx), .ref ps])), (pb, .inl (cB, 16384, .inl gx))]) := hD
          exact vx_out (fun x hx => (hex x hx).elim) hlocks hce hcv hcl (fun t9 ht2 ha => ⟨(nI kx, gx), trivial, ⟨hEn, by rw [ht2]; exact hP, va_K.moved ha hK, hD⟩, hS.F ht2⟩) hS.2.2 (Nat.le_of_ble_eq_true rfl) (Nat.le_of_ble_eq_true rfl)
        · obtain ⟨⟨hP1, hK1, hD1⟩, hz9⟩ := hB
          rw [ht] at hP1
          rw [ht] at hz9
          refine w_tight (hq0.trans hz9) ?_
          have hq0 := hq0.trans hz9
          obtain ⟨hP, hD⟩ := va_join (wr := []) (w1 := [(p1, .inr (3, [.ref pb, .int (nI k6), .ref ps])), (pb, .inl (cB, 16384, .inl g6))]) hP hD [0, 1] [] rfl rfl (by decide) (by decide) hk1 hFc hP1 hD1
          generalize H1 = H at hP hS hq0 ⊢
          have hP : va_P (dC, dI) classes ([(p1, .inr (3, [.ref pb, .int (nI k6), .ref ps])), (pb, .inl (cB, 16384, .inl g6))]) H := hP
          have hD : va_D A ([(p1, .inr (3, [.ref pb, .int (nI k6), .ref ps])), (pb, .inl (cB, 16384, .inl g6))]) := hD
          have hk6 : k6 ≤ 16384 := hw
          refine lv_goto (tgt := 81) hx hb d_Printer_unit_41 (by decide) ?_
          refine w_same (fun hq => ?_)
          refine W.widen (k := 1) (n := 6) (Nat.le_of_ble_eq_true rfl) (Nat.le_of_ble_eq_true rfl) ?_
          refine vx_ret ?_
          exact W.vret hx hb hr (fun t9 ht hW => ⟨⟨(k6, g6), rfl, hk6, ⟨by rw [ht]; exact hP, va_K.moved hW.alike hK, hD⟩, by rw [ht]; exact hq⟩, hS.F ht⟩) hS.2.2 d_Printer_unit_81
  · refine lv_aload_n hx hb d_Printer_unit_10 rfl (lv_at hl 1 rfl) ?_
    refine lv_bipush (v := 92) hx hb d_Printer_unit_11 (by decide) ?_
    have hPc := hP.sub (ws' := [(p1, .inr (3, [.ref pb, .int (nI k), .ref ps])), (pb, .inl (cB, 16384, .inl g))]) [0, 1] rfl
    have hDc := hD.sub (ws' := [(p1, .inr (3, [.ref pb, .int (nI k), .ref ps])), (pb, .inl (cB, 16384, .inl g))]) [0, 1] (by decide) rfl
    have hFc := va_free (wc := [(p1, .inr (3, [.ref pb, .int (nI k), .ref ps])), (pb, .inl (cB, 16384, .inl g))]) hD hS hA [0, 1] rfl
    have hKc := hK.sub (tys' := [(cB, .byte)]) [0] rfl
    refine w_same (fun hq0 => ?_)
    refine vx_callv (vx_runV (As := [.int 92]) (rest := []) ⟨hx, hb, hml, hown, hts⟩ (w_put l hl9 dC dI cB p1 pb s.heap (.ref ps) g k 92 hk) (cwV 1 hts (gt_V (own := R_Printer) (C := R_Printer) (i := 25) (y := y_Printer_put) i_Printer_put w_957 w_959 (gt_sel (y := y_Printer_put) (n := 3) (by decide +kernel)) w_6) rfl rfl rfl (by decide +kernel) ⟨Nat.le_of_ble_eq_true rfl, Nat.le_of_ble_eq_true rfl⟩) ⟨mx_blind, va_recv hK hP (ci := 3) (q0 := 0) rfl rfl, fun U hU hW => ⟨rfl, ⟨hU, by rw [hU]; exact hPc, va_K.moved hW.alike hKc, hDc.weaken (fun _ _ _ _ => trivial)⟩, hN.warm hW, by rw [hU]; exact ZX.moved' hW.alike (ZX.narrow' (ZX.kept' hZ hS.2.1) hFc)⟩⟩ rfl rfl hl.1 rfl (lv_room (Nat.le_of_ble_eq_true rfl)) d_Printer_unit_13 ⟨Nat.le_of_ble_eq_true rfl, Nat.le_of_ble_eq_true rfl⟩) hS (fun q _ h => hFc q h) hFc (fun q _ h => hFc q h) (fun En ce q9 ⟨kx, gx⟩ t9 H1 locs ht hvm hw hB hz1 hk1 hS hce hcv hcl => ?_) (fun ⟨k7, g7⟩ t9 H1 locs ht hvm hw hB hz1 hk1 hS => ?_)
    · obtain ⟨hEn, hP1, hK1, hD1⟩ := hB
      rw [ht] at hP1
      obtain ⟨hP, hD⟩ := va_join (wr := []) (w1 := [(p1, .inr (3, [.ref pb, .int (nI kx), .ref ps])), (pb, .inl (cB, 16384, .inl gx))]) hP hD [0, 1] [] rfl rfl (by decide) (by decide) hk1 hFc hP1 hD1
      generalize H1 = H at hP hS hce ⊢
      have hP : va_P (dC, dI) classes ([(p1, .inr (3, [.ref pb, .int (nI kx), .ref ps])), (pb, .inl (cB, 16384, .inl gx))]) H := hP
      have hD : va_D A ([(p1, .inr (3, [.ref pb, .int (nI kx), .ref ps])), (pb, .inl (cB, 16384, .inl gx))]) := hD
      exact vx_out (fun x hx => (hex x hx).elim) hlocks hce hcv hcl (fun t9 ht2 ha => ⟨(nI kx, gx), trivial, ⟨hEn, by rw [ht2]; exact hP, va_K.moved ha hK, hD⟩, hS.F ht2⟩) hS.2.2 (Nat.le_of_ble_eq_true rfl) (Nat.le_of_ble_eq_true rfl)
    · obtain ⟨⟨hP1, hK1, hD1⟩, hz9⟩ := hB
      rw [ht] at hP1
      rw [ht] at hz9
      refine w_tight (hq0.trans hz9) ?_
      have hq0 := hq0.trans hz9
      obtain ⟨hP, hD⟩ := va_join (wr := []) (w1 := [(p1, .inr (3, [.ref pb, .int (nI k7), .ref ps])), (pb, .inl (cB, 16384, .inl g7))]) hP hD [0, 1] [] rfl rfl (by decide) (by decide) hk1 hFc hP1 hD1
      generalize H1 = H at hP hS hq0 ⊢
      have hP : va_P (dC, dI) classes ([(p1, .inr (3, [.ref pb, .int (nI k7), .ref ps])), (pb, .inl (cB, 16384, .inl g7))]) H := hP
      have hD : va_D A ([(p1, .inr (3, [.ref pb, .int (nI k7), .ref ps])), (pb, .inl (cB, 16384, .inl g7))]) := hD
      have hk7 : k7 ≤ 16384 := hw
      refine lv_aload_n hx hb d_Printer_unit_16 rfl (lv_at hl 1 rfl) ?_
      refine lv_iload_n hx hb d_Printer_unit_17 rfl (lv_at hl 0 rfl) ?_
      have hPc := hP.sub (ws' := [(p1, .inr (3, [.ref pb, .int (nI k7), .ref ps])), (pb, .inl (cB, 16384, .inl g7))]) [0, 1] rfl
      have hDc := hD.sub (ws' := [(p1, .inr (3, [.ref pb, .int (nI k7), .ref ps])), (pb, .inl (cB, 16384, .inl g7))]) [0, 1] (by decide) rfl
      have hFc := va_free (wc := [(p1, .inr (3, [.ref pb, .int (nI k7), .ref ps])), (pb, .inl (cB, 16384, .inl g7))]) hD hS hA [0, 1] rfl
      have hKc := hK.sub (tys' := [(cB, .byte)]) [0] rfl
      refine w_same (fun hq0 => ?_)
      refine vx_callv (vx_runV (As := [.int r1]) (rest := []) ⟨hx, hb, hml, hown, hts⟩ (w_put l hl9 dC dI cB p1 pb H (.ref ps) g7 k7 r1 hk7) (cwV 1 hts (gt_V (own := R_Printer) (C := R_Printer) (i := 25) (y := y_Printer_put) i_Printer_put w_957 w_959 (gt_sel (y := y_Printer_put) (n := 3) (by decide +kernel)) w_6) rfl rfl rfl (by decide +kernel) ⟨Nat.le_of_ble_eq_true rfl, Nat.le_of_ble_eq_true rfl⟩) ⟨mx_blind, va_recv hK hP (ci := 3) (q0 := 0) rfl rfl, fun U hU hW => ⟨rfl, ⟨hU, by rw [hU]; exact hPc, va_K.moved hW.alike hKc, hDc.weaken (fun _ _ _ _ => trivial)⟩, hN.warm hW, by rw [hU]; exact ZX.moved' hW.alike (ZX.narrow' (ZX.kept' hZ hS.2.1) hFc)⟩⟩ rfl rfl hl.1 rfl (lv_room (Nat.le_of_ble_eq_true rfl)) d_Printer_unit_18 ⟨Nat.le_of_ble_eq_true rfl, Nat.le_of_ble_eq_true rfl⟩) hS (fun q _ h => hFc q h) hFc (fun q _ h => hFc q h) (fun En ce q9 ⟨kx, gx⟩ t9 H1 locs ht hvm hw hB hz1 hk1 hS hce hcv hcl => ?_) (fun ⟨k8, g8⟩ t9 H1 locs ht hvm hw hB hz1 hk1 hS => ?_)
      · obtain ⟨hEn, hP1, hK1, hD1⟩ := hB
        rw [ht] at hP1
        obtain ⟨hP, hD⟩ := va_join (wr := []) (w1 := [(p1, .inr (3, [.ref pb, .int (nI kx), .ref ps])), (pb, .inl (cB, 16384, .inl gx))]) hP hD [0, 1] [] rfl rfl (by decide) (by decide) hk1 hFc hP1 hD1
        generalize H1 = H at hP hS hce ⊢
        have hP : va_P (dC, dI) classes ([(p1, .inr (3, [.ref pb, .int (nI kx), .ref ps])), (pb, .inl (cB, 16384, .inl gx))]) H := hP
        have hD : va_D A ([(p1, .inr (3, [.ref pb, .int (nI kx), .ref ps])), (pb, .inl (cB, 16384, .inl gx))]) := hD
        exact vx_out (fun x hx => (hex x hx).elim) hlocks hce hcv hcl (fun t9 ht2 ha => ⟨(nI kx, gx), trivial, ⟨hEn, by rw [ht2]; exact hP, va_K.moved ha hK, hD⟩, hS.F ht2⟩) hS.2.2 (Nat.le_of_ble_eq_true rfl) (Nat.le_of_ble_eq_true rfl)
      · obtain ⟨⟨hP1, hK1, hD1⟩, hz9⟩ := hB
        rw [ht] at hP1
        rw [ht] at hz9
        refine w_tight (hq0.trans hz9) ?_
        have hq0 := hq0.trans hz9
        obtain ⟨hP, hD⟩ := va_join (wr := []) (w1 := [(p1, .inr (3, [.ref pb, .int (nI k8), .ref ps])), (pb, .inl (cB, 16384, .inl g8))]) hP hD [0, 1] [] rfl rfl (by decide) (by decide) hk1 hFc hP1 hD1
        generalize H1 = H at hP hS hq0 ⊢
        have hP : va_P (dC, dI) classes ([(p1, .inr (3, [.ref pb, .int (nI k8), .ref ps])), (pb, .inl (cB, 16384, .inl g8))]) H := hP
        have hD : va_D A ([(p1, .inr (3, [.ref pb, .int (nI k8), .ref ps])), (pb, .inl (cB, 16384, .inl g8))]) := hD
        have hk8 : k8 ≤ 16384 := hw
        refine lv_goto (tgt := 81) hx hb d_Printer_unit_21 (by decide) ?_
        refine w_same (fun hq => ?_)
        refine W.widen (k := 1) (n := 6) (Nat.le_of_ble_eq_true rfl) (Nat.le_of_ble_eq_true rfl) ?_
        refine vx_ret ?_
        exact W.vret hx hb hr (fun t9 ht hW => ⟨⟨(k8, g8), rfl, hk8, ⟨by rw [ht]; exact hP, va_K.moved hW.alike hK, hD⟩, by rw [ht]; exact hq⟩, hS.F ht⟩) hS.2.2 d_Printer_unit_81
abbrev b_Printer_text : ByteArray := prog_5_method_9_code
def y_Printer_text : MethodName := ⟨"QueryBench$Printer", "text", "([II)V"⟩
abbrev k_Printer_text : Cond := .code y_Printer_text b_Printer_text 4 none
theorem i_Printer_text : k_Printer_text ∈ gtbl := gt_in 971 (by decide +kernel) (by decide +kernel)
theorem d_Printer_text_0 : decode b_Printer_text 0 = .ok (.aload_n 0, 1) := by decide +kernel
theorem d_Printer_text_1 : decode b_Printer_text 1 = .ok (.iload_n 2, 1) := by decide +kernel
theorem d_Printer_text_2 : decode b_Printer_text 2 = .ok (.invokevirtual 25, 3) := by decide +kernel
theorem d_Printer_text_5 : decode b_Printer_text 5 = .ok (.iconst 0, 1) := by decide +kernel
theorem d_Printer_text_6 : decode b_Printer_text 6 = .ok (.istore_n 3, 1) := by decide +kernel
theorem d_Printer_text_7 : decode b_Printer_text 7 = .ok (.iload_n 3, 1) := by decide +kernel
theorem d_Printer_text_8 : decode b_Printer_text 8 = .ok (.aload_n 1, 1) := by decide +kernel
theorem d_Printer_text_9 : decode b_Printer_text 9 = .ok (.arraylength, 1) := by decide +kernel
theorem d_Printer_text_10 : decode b_Printer_text 10 = .ok (.if_icmp .ge 17, 3) := by decide +kernel
theorem d_Printer_text_13 : decode b_Printer_text 13 = .ok (.aload_n 0, 1) := by decide +kernel
theorem d_Printer_text_14 : decode b_Printer_text 14 = .ok (.aload_n 1, 1) := by decide +kernel
theorem d_Printer_text_15 : decode b_Printer_text 15 = .ok (.iload_n 3, 1) := by decide +kernel
theorem d_Printer_text_16 : decode b_Printer_text 16 = .ok (.iaload, 1) := by decide +kernel
theorem d_Printer_text_17 : decode b_Printer_text 17 = .ok (.iload_n 2, 1) := by decide +kernel
theorem d_Printer_text_18 : decode b_Printer_text 18 = .ok (.invokevirtual 96, 3) := by decide +kernel
theorem d_Printer_text_21 : decode b_Printer_text 21 = .ok (.iinc 3 1, 3) := by decide +kernel
theorem d_Printer_text_24 : decode b_Printer_text 24 = .ok (.goto (-17), 3) := by decide +kernel
theorem d_Printer_text_27 : decode b_Printer_text 27 = .ok (.aload_n 0, 1) := by decide +kernel
theorem d_Printer_text_28 : decode b_Printer_text 28 = .ok (.iload_n 2, 1) := by decide +kernel
theorem d_Printer_text_29 : decode b_Printer_text 29 = .ok (.invokevirtual 25, 3) := by decide +kernel
theorem d_Printer_text_32 : decode b_Printer_text 32 = .ok (.return_, 1) := by decide +kernel
set_option maxHeartbeats 4000000 in
set_option maxRecDepth 100000 in
/-- Printer.text -/
theorem c_Printer_text (l : Launch) (hl9 : l.stackTraces = false) (K : Nat → Nat × Nat) (dC : Nat → ClassId) (dI : Nat → Nat → Nat) (sz : Heap) (cI cV : ClassId) (E lv : Nat → Nat) (L : List Nat) (f : Nat → va_E) (hO : PO cI cV E lv L f) (cB : ClassId) (p1 pb ps : Nat) (g : Nat → Int32) (k : Nat) (hk : k ≤ 16384) (tx : Nat) (htx : E tx = 4) (q : Int32) : vx_Met l y_Printer_text (k_Printer_text :: gtbl) ({ frames := 11, cells := 1, slots := 6, locals := 230 }) (va_Pc [.ref p1, .ref tx, .int q] (ml K dC dI ([(p1, .inr (3, [.ref pb, .int (nI k), .ref ps])), (pb, .inl (cB, 16384, .inl g))] ++ va_pl L f) [(cB, .byte), (cI, .int), (cV, .object "QueryBench$Value")] sz)) (va_Qv (fun (u : Nat × (Nat → Int32)) => u.1 ≤ 16384) (fun u t9 => mz dC dI ([(p1, .inr (3, [.ref pb, .int (nI u.1), .ref ps])), (pb, .inl (cB, 16384, .inl u.2))] ++ va_pl L f) [(cB, .byte), (cI, .int), (cV, .object "QueryBench$Value")] (va_A ([(p1, .inr (3, [.ref pb, .int (nI k), .ref ps])), (pb, .inl (cB, 16384, .inl g))] ++ va_pl L f) sz.size) t9 ∧ szk sz t9.heap (0) (0)) (va_A ([(p1, .inr (3, [.ref pb, .int (nI k), .ref ps])), (pb, .inl (cB, 16384, .inl g))] ++ va_pl L f) sz.size)) (vx_X (fun (u : Int32 × (Nat → Int32)) => True) (fun En u t9 => En = IOB ∧ mz dC dI ([(p1, .inr (3, [.ref pb, .int u.1, .ref ps])), (pb, .inl (cB, 16384, .inl u.2))] ++ va_pl L f) [(cB, .byte), (cI, .int), (cV, .object "QueryBench$Value")] (va_A ([(p1, .inr (3, [.ref pb, .int (nI k), .ref ps])), (pb, .inl (cB, 16384, .inl g))] ++ va_pl L f) sz.size) t9) (va_A ([(p1, .inr (3, [.ref pb, .int (nI k), .ref ps])), (pb, .inl (cB, 16384, .inl g))] ++ va_pl L f) sz.size)) (1) (6) (va_A ([(p1, .inr (3, [.ref pb, .int (nI k), .ref ps])), (pb, .inl (cB, 16384, .inl g))] ++ va_pl L f) sz.size) := by
  refine vx_ofW (cc := b_Printer_text) (maxL := 4) (ret := none) (by decide) rfl ?_
  intro p e s m args below meth c s₁ B hml hex hv
  obtain ⟨rfl, ⟨hsz, hP, hK, hD0⟩, hN, hZ, hC, hV⟩ := hv
  have hx := B.exec
  have hb := B.bytes
  have hr := B.returns
  have hts0 := atoms_spec (ws := k_Printer_text :: gtbl) B.pre
  have hts := fun w h => hts0 w (List.mem_cons_of_mem _ h)
  have hown : s.vm.findClass R_Printer = some m.cls := findClass_of_methodNamed B.named
  have hlocks := B.notSynchronized
  subst hsz
  have hD := hD0.self (sz := s.heap.size)
  generalize hAe : va_A ([(p1, .inr (3, [.ref pb, .int (nI k), .ref ps])), (pb, .inl (cB, 16384, .inl g))] ++ va_pl L f) s.heap.size = A at hD hZ hC ⊢
  have hA : ∀ q : Nat, s.heap.size ≤ q → A q := fun q h => by rw [← hAe]; exact Or.inr h
  have hS : va_S A s.heap s.heap [] := va_S.rf
  have hP : va_P (dC, dI) classes ([(p1, .inr (3, [.ref pb, .int (nI k), .ref ps])), (pb, .inl (cB, 16384, .inl g))] ++ va_pl L f) s.heap := hP
  have hl := lv_entry ([.ref p1, .ref tx, .int q]) (n := 4) (Nat.le_of_ble_eq_true rfl)
  rw [lg_entry_eq]
  generalize (lg_sl ([.ref p1, .ref tx, .int q]) ++ List.replicate (4 - (lg_sl ([.ref p1, .ref tx, .int q])).length) Slot.unset).toArray = ls at hl ⊢
  have hl : lv_has ls 4 [(0, .ref p1), (1, .ref tx), (2, .int q)] := hl
  refine lv_aload_n hx hb d_Printer_text_0 rfl (lv_at hl 0 rfl) ?_
  refine lv_iload_n hx hb d_Printer_text_1 rfl (lv_at hl 2 rfl) ?_
  have hPc := hP.sub (ws' := [(p1, .inr (3, [.ref pb, .int (nI k), .ref ps])), (pb, .inl (cB, 16384, .inl g))]) [0, 1] rfl
  have hDc := hD.sub (ws' := [(p1, .inr (3, [.ref pb, .int (nI k), .ref ps])), (pb, .inl (cB, 16384, .inl g))]) [0, 1] (by decide) rfl
  have hFc := va_free (wc := [(p1, .inr (3, [.ref pb, .int (nI k), .ref ps])), (pb, .inl (cB, 16384, .inl g))]) hD hS hA [0, 1] rfl
  have hKc := hK.sub (tys' := [(cB, .byte)]) [0] rfl
  refine w_same (fun hq0 => ?_)
  refine vx_callv (vx_runV (As := [.int q]) (rest := []) ⟨hx, hb, hml, hown, hts⟩ (w_put l hl9 dC dI cB p1 pb s.heap (.ref ps) g k q hk) (cwV 1 hts (gt_V (own := R_Printer) (C := R_Printer) (i := 25) (y := y_Printer_put) i_Printer_put w_957 w_959 (gt_sel (y := y_Printer_put) (n := 3) (by decide +kernel)) w_6) rfl rfl rfl (by decide +kernel) ⟨Nat.le_of_ble_eq_true rfl, Nat.le_of_ble_eq_true rfl⟩) ⟨mx_blind, va_recv hK hP (ci := 3) (q0 := 0) rfl rfl, fun U hU hW => ⟨rfl, ⟨hU, by rw [hU]; exact hPc, va_K.moved hW.alike hKc, hDc.weaken (fun _ _ _ _ => trivial)⟩, hN.warm hW, by rw [hU]; exact ZX.moved' hW.alike (ZX.narrow' (ZX.kept' hZ hS.2.1) hFc)⟩⟩ rfl rfl hl.1 rfl (lv_room (Nat.le_of_ble_eq_true rfl)) d_Printer_text_2 ⟨Nat.le_of_ble_eq_true rfl, Nat.le_of_ble_eq_true rfl⟩) hS (fun q _ h => hFc q h) hFc (fun q _ h => hFc q h) (fun En ce q9 ⟨kx, gx⟩ t9 H1 locs ht hvm hw hB hz1 hk1 hS hce hcv hcl => ?_) (fun ⟨k1, g1⟩ t9 H1 locs ht hvm hw hB hz1 hk1 hS => ?_)
  · obtain ⟨hEn, hP1, hK1, hD1⟩ := hB
    rw [ht] at hP1
    obtain ⟨hP, hD⟩ := va_joinQ (wr := []) (w1 := [(p1, .inr (3, [.ref pb, .int (nI kx), .ref ps])), (pb, .inl (cB, 16384, .inl gx))]) hP hD [0, 1] [] rfl rfl (by decide) (by decide) hk1 hFc hP1 hD1
    generalize H1 = H at hP hS hce ⊢
    have hP : va_P (dC, dI) classes ([(p1, .inr (3, [.ref pb, .int (nI kx), .ref ps])), (pb, .inl (cB, 16384, .inl gx))] ++ va_pl L f) H := hP
    have hD : va_D A ([(p1, .inr (3, [.ref pb, .int (nI kx), .ref ps])), (pb, .inl (cB, 16384, .inl gx))] ++ va_pl L f) := hD
    exact vx_out (fun x hx => (hex x hx).elim) hlocks hce hcv hcl (fun t9 ht2 ha => ⟨(nI kx, gx), trivial, ⟨hEn, by rw [ht2]; exact hP, va_K.moved ha hK, hD⟩, hS.F ht2⟩) hS.2.2 (Nat.le_of_ble_eq_true rfl) (Nat.le_of_ble_eq_true rfl)
  · obtain ⟨⟨hP1, hK1, hD1⟩, hz9⟩ := hB
    rw [ht] at hP1
    rw [ht] at hz9
    refine w_tight (hq0.trans hz9) ?_
    have hq0 := hq0.trans hz9
    obtain ⟨hP, hD⟩ := va_joinQ (wr := []) (w1 := [(p1, .inr (3, [.ref pb, .int (nI k1), .ref ps])), (pb, .inl (cB, 16384, .inl g1))]) hP hD [0, 1] [] rfl rfl (by decide) (by decide) hk1 hFc hP1 hD1
    generalize H1 = H at hP hS hq0 ⊢
    have hP : va_P (dC, dI) classes ([(p1, .inr (3, [.ref pb, .int (nI k1), .ref ps])), (pb, .inl (cB, 16384, .inl g1))] ++ va_pl L f) H := hP
    have hD : va_D A ([(p1, .inr (3, [.ref pb, .int (nI k1), .ref ps])), (pb, .inl (cB, 16384, .inl g1))] ++ va_pl L f) := hD
    have hk1 : k1 ≤ 16384 := hw
    refine lv_iconst (v := 0) hx hb d_Printer_text_5 (by decide) ?_
    refine lv_istore_n (lv' := [(3, .int 0), (0, .ref p1), (1, .ref tx), (2, .int q)]) hx hb d_Printer_text_6 rfl hl (by decide) rfl (fun ls hl => ?_)
    obtain ⟨n2, g3, ef4, hn5⟩ := hO.txt (htx)
    refine w_loop (D := (dC, dI)) (cl := classes) (A := A) (H0 := s.heap) (nL := 4) 7 (σ := Nat × Nat × (Nat → Int32)) (fun ⟨i, k, g⟩ => i ≤ 4096 ∧ k ≤ 16384) (fun ⟨i, k, g⟩ => 4096 - i) (fun ⟨i, k, g⟩ => [(p1, .inr (3, [.ref pb, .int (nI k), .ref ps])), (pb, .inl (cB, 16384, .inl g))] ++ va_pl L f) (fun ⟨i, k, g⟩ => [(0, .ref p1), (1, .ref tx), (2, .int q), (3, .int (nI i))]) ?_ (0, k1, g1) ⟨Nat.zero_le _, hk1⟩ hP hD hS (lv_sub hl [1, 2, 3, 0] rfl)
    rintro ⟨i, k, g⟩ H locs ls hI ih hP hD hS hl
    have hP : va_P (dC, dI) classes ([(p1, .inr (3, [.ref pb, .int (nI k), .ref ps])), (pb, .inl (cB, 16384, .inl g))] ++ va_pl L f) H := hP
    have hD : va_D A ([(p1, .inr (3, [.ref pb, .int (nI k), .ref ps])), (pb, .inl (cB, 16384, .inl g))] ++ va_pl L f) := hD
    have hl : lv_has ls 4 [(0, .ref p1), (1, .ref tx), (2, .int q), (3, .int (nI i))] := hl
    obtain ⟨hI, hk⟩ := hI
    have hI : i ≤ 4096 := hI
    have hk : k ≤ 16384 := hk
    refine lv_iload_n hx hb d_Printer_text_7 rfl (lv_at hl 3 rfl) ?_
    refine lv_aload_n hx hb d_Printer_text_8 rfl (lv_at hl 1 rfl) ?_
    refine vq_alen hx hb hK hP 1 (hO.inL (a := tx) (by rw [htx]; decide)) ef4 rfl d_Printer_text_9 ?_
    refine lv_icmp_ge (tgt := 27) hx hb d_Printer_text_10 (by decide) (fun c10 => ?_) (fun c10 => ?_)
    · refine lv_aload_n hx hb d_Printer_text_27 rfl (lv_at hl 0 rfl) ?_
      refine lv_iload_n hx hb d_Printer_text_28 rfl (lv_at hl 2 rfl) ?_
      have hPc := hP.sub (ws' := [(p1, .inr (3, [.ref pb, .int (nI k), .ref ps])), (pb, .inl (cB, 16384, .inl g))]) [0, 1] rfl
      have hDc := hD.sub (ws' := [(p1, .inr (3, [.ref pb, .int (nI k), .ref ps])), (pb, .inl (cB, 16384, .inl g))]) [0, 1] (by decide) rfl
      have hFc := va_free (wc := [(p1, .inr (3, [.ref pb, .int (nI k), .ref ps])), (pb, .inl (cB, 16384, .inl g))]) hD hS hA [0, 1] rfl
      have hKc := hK.sub (tys' := [(cB, .byte)]) [0] rfl
      refine w_same (fun hq0 => ?_)
      refine vx_callv (vx_runV (As := [.int q]) (rest := []) ⟨hx, hb, hml, hown, hts⟩ (w_put l hl9 dC dI cB p1 pb H (.ref ps) g k q hk) (cwV 1 hts (gt_V (own := R_Printer) (C := R_Printer) (i := 25) (y := y_Printer_put) i_Printer_put w_957 w_959 (gt_sel (y := y_Printer_put) (n := 3) (by decide +kernel)) w_6) rfl rfl rfl (by decide +kernel) ⟨Nat.le_of_ble_eq_true rfl, Nat.le_of_ble_eq_true rfl⟩) ⟨mx_blind, va_recv hK hP (ci := 3) (q0 := 0) rfl rfl, fun U hU hW => ⟨rfl, ⟨hU, by rw [hU]; exact hPc, va_K.moved hW.alike hKc, hDc.weaken (fun _ _ _ _ => trivial)⟩, hN.warm hW, by rw [hU]; exact ZX.moved' hW.alike (ZX.narrow' (ZX.kept' hZ hS.2.1) hFc)⟩⟩ rfl rfl hl.1 rfl (lv_room (Nat.le_of_ble_eq_true rfl)) d_Printer_text_29 ⟨Nat.le_of_ble_eq_true rfl, Nat.le_of_ble_eq_true rfl⟩) hS (fun q _ h => hFc q h) hFc (fun q _ h => hFc q h) (fun En ce q9 ⟨kx, gx⟩ t9 H1 locs ht hvm hw hB hz1 hk1 hS hce hcv hcl => ?_) (fun ⟨k6, g6⟩ t9 H1 locs ht hvm hw hB hz1 hk1 hS => ?_)
      · obtain ⟨hEn, hP1, hK1, hD1⟩ := hB
        rw [ht] at hP1
        obtain ⟨hP, hD⟩ := va_joinQ (wr := []) (w1 := [(p1, .inr (3, [.ref pb, .int (nI kx), .ref ps])), (pb, .inl (cB, 16384, .inl gx))]) hP hD [0, 1] [] rfl rfl (by decide) (by decide) hk1 hFc hP1 hD1
        generalize H1 = H at hP hS hce ⊢
        have hP : va_P (dC, dI) classes ([(p1, .inr (3, [.ref pb, .int (nI kx), .ref ps])), (pb, .inl (cB, 16384, .inl gx))] ++ va_pl L f) H := hP
        have hD : va_D A ([(p1, .inr (3, [.ref pb, .int (nI kx), .ref ps])), (pb, .inl (cB, 16384, .inl gx))] ++ va_pl L f) := hD
        exact vx_out (fun x hx => (hex x hx).elim) hlocks hce hcv hcl (fun t9 ht2 ha => ⟨(nI kx, gx), trivial, ⟨hEn, by rw [ht2]; exact hP, va_K.moved ha hK, hD⟩, hS.F ht2⟩) hS.2.2 (Nat.le_of_ble_eq_true rfl) (Nat.le_of_ble_eq_true rfl)
      · obtain ⟨⟨hP1, hK1, hD1⟩, hz9⟩ := hB
        rw [ht] at hP1
        rw [ht] at hz9
        refine w_tight (hq0.trans hz9) ?_
        have hq0 := hq0.trans hz9
        obtain ⟨hP, hD⟩ := va_joinQ (wr := []) (w1 := [(p1, .inr (3, [.ref pb, .int (nI k6), .ref ps])), (pb, .inl (cB, 16384, .inl g6))]) hP hD [0, 1] [] rfl rfl (by decide) (by decide) hk1 hFc hP1 hD1
        generalize H1 = H at hP hS hq0 ⊢
        have hP : va_P (dC, dI) classes ([(p1, .inr (3, [.ref pb, .int (nI k6), .ref ps])), (pb, .inl (cB, 16384, .inl g6))] ++ va_pl L f) H := hP
        have hD : va_D A ([(p1, .inr (3, [.ref pb, .int (nI k6), .ref ps])), (pb, .inl (cB, 16384, .inl g6))] ++ va_pl L f) := hD
        have hk6 : k6 ≤ 16384 := hw
        refine w_same (fun hq => ?_)
        refine W.widen (k := 1) (n := 6) (Nat.le_of_ble_eq_true rfl) (Nat.le_of_ble_eq_true rfl) ?_
        refine vx_ret ?_
        exact W.vret hx hb hr (fun t9 ht hW => ⟨⟨(k6, g6), rfl, hk6, ⟨by rw [ht]; exact hP, va_K.moved hW.alike hK, hD⟩, by rw [ht]; exact hq⟩, hS.F ht⟩) hS.2.2 d_Printer_text_32
    · have hi : i < n2 := by rw [nI_leI (by omega) (by omega)] at c10; omega
      refine lv_aload_n hx hb d_Printer_text_13 rfl (lv_at hl 0 rfl) ?_
      refine lv_aload_n hx hb d_Printer_text_14 rfl (lv_at hl 1 rfl) ?_
      refine lv_iload_n hx hb d_Printer_text_15 rfl (lv_at hl 3 rfl) ?_
      refine vq_iald hx hb hK hP 1 (hO.inL (a := tx) (by rw [htx]; decide)) ef4 rfl (j := i) hi hn5 d_Printer_text_16 ?_
      refine lv_iload_n hx hb d_Printer_text_17 rfl (lv_at hl 2 rfl) ?_
      have hPc := hP.sub (ws' := [(p1, .inr (3, [.ref pb, .int (nI k), .ref ps])), (pb, .inl (cB, 16384, .inl g))]) [0, 1] rfl
      have hDc := hD.sub (ws' := [(p1, .inr (3, [.ref pb, .int (nI k), .ref ps])), (pb, .inl (cB, 16384, .inl g))]) [0, 1] (by decide) rfl
      have hFc := va_free (wc := [(p1, .inr (3, [.ref pb, .int (nI k), .ref ps])), (pb, .inl (cB, 16384, .inl g))]) hD hS hA [0, 1] rfl
      have hKc := hK.sub (tys' := [(cB, .byte)]) [0] rfl
      refine w_same (fun hq0 => ?_)
      refine vx_callv (vx_runV (As := [.int (g3 i), .int q]) (rest := []) ⟨hx, hb, hml, hown, hts⟩ (c_Printer_unit l hl9 K dC dI H cB p1 pb ps g k hk ((g3 i)) q) (cwV 2 hts (gt_V (own := R_Printer) (C := R_Printer) (i := 96) (y := y_Printer_unit) i_Printer_unit z_972 z_974 (gt_sel (y := y_Printer_unit) (n := 3) (by decide +kernel)) w_6) rfl rfl rfl (by decide +kernel) ⟨Nat.le_of_ble_eq_true rfl, Nat.le_of_ble_eq_true rfl⟩) ⟨ml_blind, va_recv hK hP (ci := 3) (q0 := 0) rfl rfl, fun U hU hW => ⟨rfl, ⟨hU, by rw [hU]; exact hPc, va_K.moved hW.alike hKc, hDc.weaken (fun _ _ _ _ => trivial)⟩, hN.warm hW, by rw [hU]; exact ZX.moved' hW.alike (ZX.narrow' (ZX.kept' hZ hS.2.1) hFc), by rw [hU]; exact CE.call hC hS.2.1 hFc hW, va_AO.moved hW.alike hV⟩⟩ rfl rfl hl.1 rfl (lv_room (Nat.le_of_ble_eq_true rfl)) d_Printer_text_18 ⟨Nat.le_of_ble_eq_true rfl, Nat.le_of_ble_eq_true rfl⟩) hS (fun q _ h => hFc q h) hFc (fun q _ h => hFc q h) (fun En ce q9 ⟨kx, gx⟩ t9 H1 locs ht hvm hw hB hz1 hk1 hS hce hcv hcl => ?_) (fun ⟨k7, g7⟩ t9 H1 locs ht hvm hw hB hz1 hk1 hS => ?_)
      · obtain ⟨hEn, hP1, hK1, hD1⟩ := hB
        rw [ht] at hP1
        obtain ⟨hP, hD⟩ := va_joinQ (wr := []) (w1 := [(p1, .inr (3, [.ref pb, .int kx, .ref ps])), (pb, .inl (cB, 16384, .inl gx))]) hP hD [0, 1] [] rfl rfl (by decide) (by decide) hk1 hFc hP1 hD1
        generalize H1 = H at hP hS hce ⊢
        have hP : va_P (dC, dI) classes ([(p1, .inr (3, [.ref pb, .int kx, .ref ps])), (pb, .inl (cB, 16384, .inl gx))] ++ va_pl L f) H := hP
        have hD : va_D A ([(p1, .inr (3, [.ref pb, .int kx, .ref ps])), (pb, .inl (cB, 16384, .inl gx))] ++ va_pl L f) := hD
        exact vx_out (fun x hx => (hex x hx).elim) hlocks hce hcv hcl (fun t9 ht2 ha => ⟨(kx, gx), trivial, ⟨hEn, by rw [ht2]; exact hP, va_K.moved ha hK, hD⟩, hS.F ht2⟩) hS.2.2 (Nat.le_of_ble_eq_true rfl) (Nat.le_of_ble_eq_true rfl)
      · obtain ⟨⟨hP1, hK1, hD1⟩, hz9⟩ := hB
        rw [ht] at hP1
        rw [ht] at hz9
        refine w_tight (hq0.trans hz9) ?_
        have hq0 := hq0.trans hz9
        obtain ⟨hP, hD⟩ := va_joinQ (wr := []) (w1 := [(p1, .inr (3, [.ref pb, .int (nI k7), .ref ps])), (pb, .inl (cB, 16384, .inl g7))]) hP hD [0, 1] [] rfl rfl (by decide) (by decide) hk1 hFc hP1 hD1
        generalize H1 = H at hP hS hq0 ⊢
        have hP : va_P (dC, dI) classes ([(p1, .inr (3, [.ref pb, .int (nI k7), .ref ps])), (pb, .inl (cB, 16384, .inl g7))] ++ va_pl L f) H := hP
        have hD : va_D A ([(p1, .inr (3, [.ref pb, .int (nI k7), .ref ps])), (pb, .inl (cB, 16384, .inl g7))] ++ va_pl L f) := hD
        have hk7 : k7 ≤ 16384 := hw
        refine lv_iinc (v := nI (i + 1)) (lv' := [(3, .int (nI (i + 1))), (0, .ref p1), (1, .ref tx), (2, .int q)]) hx hb d_Printer_text_21 hl (k := 3) rfl (nI_1 _) (by decide) rfl (fun ls hl => ?_)
        refine lv_goto (tgt := 7) hx hb d_Printer_text_24 (by decide) ?_
        exact ih (i + 1, k7, g7) _ _ _ ⟨show i + 1 ≤ 4096 by omega, hk7⟩ (by show 4096 - (i + 1) < 4096 - i; omega) hP hD hS (lv_sub hl [1, 2, 3, 0] rfl)
