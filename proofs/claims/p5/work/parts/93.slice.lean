theorem z_616 : (.fieldLink "QueryBench$Walk" 138 "QueryBench$Selector" "hasStart" "Z" : Cond) ∈ gtbl := gt_in 616 (by decide +kernel) (by decide +kernel)
theorem z_618 : (.fieldLink "QueryBench$Walk" 128 "QueryBench$Selector" "hasStop" "Z" : Cond) ∈ gtbl := gt_in 618 (by decide +kernel) (by decide +kernel)
theorem z_619 : (.fieldLink "QueryBench$Walk" 92 "QueryBench$Selector" "start" "J" : Cond) ∈ gtbl := gt_in 619 (by decide +kernel) (by decide +kernel)
theorem z_622 : (.fieldLink "QueryBench$Walk" 131 "QueryBench$Selector" "stop" "J" : Cond) ∈ gtbl := gt_in 622 (by decide +kernel) (by decide +kernel)
theorem z_625 : (.fieldLink "QueryBench$Walk" 126 "QueryBench$Selector" "step" "J" : Cond) ∈ gtbl := gt_in 625 (by decide +kernel) (by decide +kernel)
theorem z_883 : (.methodLink "QueryBench$Walk" 134 ⟨"QueryBench$Walk", "cut", "(JIII)J"⟩ : Cond) ∈ gtbl := gt_in 883 (by decide +kernel) (by decide +kernel)
theorem z_884 : (.static ⟨"QueryBench$Walk", "cut", "(JIII)J"⟩ : Cond) ∈ gtbl := gt_in 884 (by decide +kernel) (by decide +kernel)
theorem z_890 : (.constantLong "QueryBench$Walk" 141 (-1) : Cond) ∈ gtbl := gt_in 890 (by decide +kernel) (by decide +kernel)
theorem cutU {n : Nat} (h : n ≤ 4096) : (0 : Int32).toInt ≤ (nI n).toInt := by rw [nI_toInt (by omega)]; show (0 : Int) ≤ _; omega
theorem nI_m1 {n : Nat} (h : n ≤ 4096) : (nI n - 1).toInt = (n : Int) - 1 := by rw [show (1 : Int32) = nI 1 from rfl]; exact pk_sub_toInt (by omega) (by omega)
theorem cutD {n : Nat} (h : n ≤ 4096) : (-1 : Int32).toInt ≤ (nI n - 1).toInt := by rw [nI_m1 h]; show (-1 : Int) ≤ _; omega
abbrev b_Walk_pushSlice : ByteArray := prog_12_method_11_code
def y_Walk_pushSlice : MethodName := ⟨"QueryBench$Walk", "pushSlice", "(LQueryBench$Value;LQueryBench$Selector;)V"⟩
abbrev k_Walk_pushSlice : Cond := .code y_Walk_pushSlice b_Walk_pushSlice 8 none
theorem i_Walk_pushSlice : k_Walk_pushSlice ∈ gtbl := gt_in 882 (by decide +kernel) (by decide +kernel)
theorem d_Walk_pushSlice_0 : decode b_Walk_pushSlice 0 = .ok (.aload_n 1, 1) := by decide +kernel
theorem d_Walk_pushSlice_1 : decode b_Walk_pushSlice 1 = .ok (.getfield 125, 3) := by decide +kernel
theorem d_Walk_pushSlice_4 : decode b_Walk_pushSlice 4 = .ok (.iconst 5, 1) := by decide +kernel
theorem d_Walk_pushSlice_5 : decode b_Walk_pushSlice 5 = .ok (.if_icmp .ne 12, 3) := by decide +kernel
theorem d_Walk_pushSlice_8 : decode b_Walk_pushSlice 8 = .ok (.aload_n 2, 1) := by decide +kernel
theorem d_Walk_pushSlice_9 : decode b_Walk_pushSlice 9 = .ok (.getfield 126, 3) := by decide +kernel
theorem d_Walk_pushSlice_12 : decode b_Walk_pushSlice 12 = .ok (.lconst 0, 1) := by decide +kernel
theorem d_Walk_pushSlice_13 : decode b_Walk_pushSlice 13 = .ok (.lcmp, 1) := by decide +kernel
theorem d_Walk_pushSlice_14 : decode b_Walk_pushSlice 14 = .ok (.ifCond .ne 4, 3) := by decide +kernel
theorem d_Walk_pushSlice_17 : decode b_Walk_pushSlice 17 = .ok (.return_, 1) := by decide +kernel
theorem d_Walk_pushSlice_18 : decode b_Walk_pushSlice 18 = .ok (.aload_n 1, 1) := by decide +kernel
theorem d_Walk_pushSlice_19 : decode b_Walk_pushSlice 19 = .ok (.invokevirtual 118, 3) := by decide +kernel
theorem d_Walk_pushSlice_22 : decode b_Walk_pushSlice 22 = .ok (.istore_n 3, 1) := by decide +kernel
theorem d_Walk_pushSlice_23 : decode b_Walk_pushSlice 23 = .ok (.aload_n 2, 1) := by decide +kernel
theorem d_Walk_pushSlice_24 : decode b_Walk_pushSlice 24 = .ok (.getfield 126, 3) := by decide +kernel
theorem d_Walk_pushSlice_27 : decode b_Walk_pushSlice 27 = .ok (.lconst 0, 1) := by decide +kernel
theorem d_Walk_pushSlice_28 : decode b_Walk_pushSlice 28 = .ok (.lcmp, 1) := by decide +kernel
theorem d_Walk_pushSlice_29 : decode b_Walk_pushSlice 29 = .ok (.ifCond .le 85, 3) := by decide +kernel
theorem d_Walk_pushSlice_32 : decode b_Walk_pushSlice 32 = .ok (.aload_n 2, 1) := by decide +kernel
theorem d_Walk_pushSlice_33 : decode b_Walk_pushSlice 33 = .ok (.getfield 128, 3) := by decide +kernel
theorem d_Walk_pushSlice_36 : decode b_Walk_pushSlice 36 = .ok (.ifCond .eq 16, 3) := by decide +kernel
theorem d_Walk_pushSlice_39 : decode b_Walk_pushSlice 39 = .ok (.aload_n 2, 1) := by decide +kernel
theorem d_Walk_pushSlice_40 : decode b_Walk_pushSlice 40 = .ok (.getfield 131, 3) := by decide +kernel
theorem d_Walk_pushSlice_43 : decode b_Walk_pushSlice 43 = .ok (.iload_n 3, 1) := by decide +kernel
theorem d_Walk_pushSlice_44 : decode b_Walk_pushSlice 44 = .ok (.iconst 0, 1) := by decide +kernel
theorem d_Walk_pushSlice_45 : decode b_Walk_pushSlice 45 = .ok (.iload_n 3, 1) := by decide +kernel
theorem d_Walk_pushSlice_46 : decode b_Walk_pushSlice 46 = .ok (.invokestatic 134, 3) := by decide +kernel
theorem d_Walk_pushSlice_49 : decode b_Walk_pushSlice 49 = .ok (.goto 5, 3) := by decide +kernel
theorem d_Walk_pushSlice_52 : decode b_Walk_pushSlice 52 = .ok (.iload_n 3, 1) := by decide +kernel
theorem d_Walk_pushSlice_53 : decode b_Walk_pushSlice 53 = .ok (.i2l, 1) := by decide +kernel
theorem d_Walk_pushSlice_54 : decode b_Walk_pushSlice 54 = .ok (.lstore 4, 2) := by decide +kernel
theorem d_Walk_pushSlice_56 : decode b_Walk_pushSlice 56 = .ok (.aload_n 2, 1) := by decide +kernel
theorem d_Walk_pushSlice_57 : decode b_Walk_pushSlice 57 = .ok (.getfield 138, 3) := by decide +kernel
theorem d_Walk_pushSlice_60 : decode b_Walk_pushSlice 60 = .ok (.ifCond .eq 16, 3) := by decide +kernel
theorem d_Walk_pushSlice_63 : decode b_Walk_pushSlice 63 = .ok (.aload_n 2, 1) := by decide +kernel
theorem d_Walk_pushSlice_64 : decode b_Walk_pushSlice 64 = .ok (.getfield 92, 3) := by decide +kernel
theorem d_Walk_pushSlice_67 : decode b_Walk_pushSlice 67 = .ok (.iload_n 3, 1) := by decide +kernel
theorem d_Walk_pushSlice_68 : decode b_Walk_pushSlice 68 = .ok (.iconst 0, 1) := by decide +kernel
theorem d_Walk_pushSlice_69 : decode b_Walk_pushSlice 69 = .ok (.iload_n 3, 1) := by decide +kernel
theorem d_Walk_pushSlice_70 : decode b_Walk_pushSlice 70 = .ok (.invokestatic 134, 3) := by decide +kernel
theorem d_Walk_pushSlice_73 : decode b_Walk_pushSlice 73 = .ok (.goto 4, 3) := by decide +kernel
theorem d_Walk_pushSlice_76 : decode b_Walk_pushSlice 76 = .ok (.lconst 0, 1) := by decide +kernel
theorem d_Walk_pushSlice_77 : decode b_Walk_pushSlice 77 = .ok (.lstore 6, 2) := by decide +kernel
theorem d_Walk_pushSlice_79 : decode b_Walk_pushSlice 79 = .ok (.lload 6, 2) := by decide +kernel
theorem d_Walk_pushSlice_81 : decode b_Walk_pushSlice 81 = .ok (.lload 4, 2) := by decide +kernel
theorem d_Walk_pushSlice_83 : decode b_Walk_pushSlice 83 = .ok (.lcmp, 1) := by decide +kernel
theorem d_Walk_pushSlice_84 : decode b_Walk_pushSlice 84 = .ok (.ifCond .ge 27, 3) := by decide +kernel
theorem d_Walk_pushSlice_87 : decode b_Walk_pushSlice 87 = .ok (.aload_n 0, 1) := by decide +kernel
theorem d_Walk_pushSlice_88 : decode b_Walk_pushSlice 88 = .ok (.aload_n 1, 1) := by decide +kernel
theorem d_Walk_pushSlice_89 : decode b_Walk_pushSlice 89 = .ok (.getfield 122, 3) := by decide +kernel
theorem d_Walk_pushSlice_92 : decode b_Walk_pushSlice 92 = .ok (.lload 6, 2) := by decide +kernel
theorem d_Walk_pushSlice_94 : decode b_Walk_pushSlice 94 = .ok (.l2i, 1) := by decide +kernel
theorem d_Walk_pushSlice_95 : decode b_Walk_pushSlice 95 = .ok (.aaload, 1) := by decide +kernel
theorem d_Walk_pushSlice_96 : decode b_Walk_pushSlice 96 = .ok (.invokevirtual 38, 3) := by decide +kernel
theorem d_Walk_pushSlice_99 : decode b_Walk_pushSlice 99 = .ok (.lload 6, 2) := by decide +kernel
theorem d_Walk_pushSlice_101 : decode b_Walk_pushSlice 101 = .ok (.aload_n 2, 1) := by decide +kernel
theorem d_Walk_pushSlice_102 : decode b_Walk_pushSlice 102 = .ok (.getfield 126, 3) := by decide +kernel
theorem d_Walk_pushSlice_105 : decode b_Walk_pushSlice 105 = .ok (.ladd, 1) := by decide +kernel
theorem d_Walk_pushSlice_106 : decode b_Walk_pushSlice 106 = .ok (.lstore 6, 2) := by decide +kernel
theorem d_Walk_pushSlice_108 : decode b_Walk_pushSlice 108 = .ok (.goto (-29), 3) := by decide +kernel
theorem d_Walk_pushSlice_111 : decode b_Walk_pushSlice 111 = .ok (.goto 90, 3) := by decide +kernel
theorem d_Walk_pushSlice_114 : decode b_Walk_pushSlice 114 = .ok (.aload_n 2, 1) := by decide +kernel
theorem d_Walk_pushSlice_115 : decode b_Walk_pushSlice 115 = .ok (.getfield 128, 3) := by decide +kernel
theorem d_Walk_pushSlice_118 : decode b_Walk_pushSlice 118 = .ok (.ifCond .eq 18, 3) := by decide +kernel
theorem d_Walk_pushSlice_121 : decode b_Walk_pushSlice 121 = .ok (.aload_n 2, 1) := by decide +kernel
theorem d_Walk_pushSlice_122 : decode b_Walk_pushSlice 122 = .ok (.getfield 131, 3) := by decide +kernel
theorem d_Walk_pushSlice_125 : decode b_Walk_pushSlice 125 = .ok (.iload_n 3, 1) := by decide +kernel
theorem d_Walk_pushSlice_126 : decode b_Walk_pushSlice 126 = .ok (.iconst (-1), 1) := by decide +kernel
theorem d_Walk_pushSlice_127 : decode b_Walk_pushSlice 127 = .ok (.iload_n 3, 1) := by decide +kernel
theorem d_Walk_pushSlice_128 : decode b_Walk_pushSlice 128 = .ok (.iconst 1, 1) := by decide +kernel
theorem d_Walk_pushSlice_129 : decode b_Walk_pushSlice 129 = .ok (.isub, 1) := by decide +kernel
theorem d_Walk_pushSlice_130 : decode b_Walk_pushSlice 130 = .ok (.invokestatic 134, 3) := by decide +kernel
theorem d_Walk_pushSlice_133 : decode b_Walk_pushSlice 133 = .ok (.goto 6, 3) := by decide +kernel
theorem d_Walk_pushSlice_136 : decode b_Walk_pushSlice 136 = .ok (.ldc2_w 141, 3) := by decide +kernel
theorem d_Walk_pushSlice_139 : decode b_Walk_pushSlice 139 = .ok (.lstore 4, 2) := by decide +kernel
theorem d_Walk_pushSlice_141 : decode b_Walk_pushSlice 141 = .ok (.aload_n 2, 1) := by decide +kernel
theorem d_Walk_pushSlice_142 : decode b_Walk_pushSlice 142 = .ok (.getfield 138, 3) := by decide +kernel
theorem d_Walk_pushSlice_145 : decode b_Walk_pushSlice 145 = .ok (.ifCond .eq 18, 3) := by decide +kernel
theorem d_Walk_pushSlice_148 : decode b_Walk_pushSlice 148 = .ok (.aload_n 2, 1) := by decide +kernel
theorem d_Walk_pushSlice_149 : decode b_Walk_pushSlice 149 = .ok (.getfield 92, 3) := by decide +kernel
theorem d_Walk_pushSlice_152 : decode b_Walk_pushSlice 152 = .ok (.iload_n 3, 1) := by decide +kernel
theorem d_Walk_pushSlice_153 : decode b_Walk_pushSlice 153 = .ok (.iconst (-1), 1) := by decide +kernel
theorem d_Walk_pushSlice_154 : decode b_Walk_pushSlice 154 = .ok (.iload_n 3, 1) := by decide +kernel
theorem d_Walk_pushSlice_155 : decode b_Walk_pushSlice 155 = .ok (.iconst 1, 1) := by decide +kernel
theorem d_Walk_pushSlice_156 : decode b_Walk_pushSlice 156 = .ok (.isub, 1) := by decide +kernel
theorem d_Walk_pushSlice_157 : decode b_Walk_pushSlice 157 = .ok (.invokestatic 134, 3) := by decide +kernel
theorem d_Walk_pushSlice_160 : decode b_Walk_pushSlice 160 = .ok (.goto 7, 3) := by decide +kernel
theorem d_Walk_pushSlice_163 : decode b_Walk_pushSlice 163 = .ok (.iload_n 3, 1) := by decide +kernel
theorem d_Walk_pushSlice_164 : decode b_Walk_pushSlice 164 = .ok (.iconst 1, 1) := by decide +kernel
theorem d_Walk_pushSlice_165 : decode b_Walk_pushSlice 165 = .ok (.isub, 1) := by decide +kernel
theorem d_Walk_pushSlice_166 : decode b_Walk_pushSlice 166 = .ok (.i2l, 1) := by decide +kernel
theorem d_Walk_pushSlice_167 : decode b_Walk_pushSlice 167 = .ok (.lstore 6, 2) := by decide +kernel
theorem d_Walk_pushSlice_169 : decode b_Walk_pushSlice 169 = .ok (.lload 6, 2) := by decide +kernel
theorem d_Walk_pushSlice_171 : decode b_Walk_pushSlice 171 = .ok (.lload 4, 2) := by decide +kernel
theorem d_Walk_pushSlice_173 : decode b_Walk_pushSlice 173 = .ok (.lcmp, 1) := by decide +kernel
theorem d_Walk_pushSlice_174 : decode b_Walk_pushSlice 174 = .ok (.ifCond .le 27, 3) := by decide +kernel
theorem d_Walk_pushSlice_177 : decode b_Walk_pushSlice 177 = .ok (.aload_n 0, 1) := by decide +kernel
theorem d_Walk_pushSlice_178 : decode b_Walk_pushSlice 178 = .ok (.aload_n 1, 1) := by decide +kernel
theorem d_Walk_pushSlice_179 : decode b_Walk_pushSlice 179 = .ok (.getfield 122, 3) := by decide +kernel
theorem d_Walk_pushSlice_182 : decode b_Walk_pushSlice 182 = .ok (.lload 6, 2) := by decide +kernel
theorem d_Walk_pushSlice_184 : decode b_Walk_pushSlice 184 = .ok (.l2i, 1) := by decide +kernel
theorem d_Walk_pushSlice_185 : decode b_Walk_pushSlice 185 = .ok (.aaload, 1) := by decide +kernel
theorem d_Walk_pushSlice_186 : decode b_Walk_pushSlice 186 = .ok (.invokevirtual 38, 3) := by decide +kernel
theorem d_Walk_pushSlice_189 : decode b_Walk_pushSlice 189 = .ok (.lload 6, 2) := by decide +kernel
theorem d_Walk_pushSlice_191 : decode b_Walk_pushSlice 191 = .ok (.aload_n 2, 1) := by decide +kernel
theorem d_Walk_pushSlice_192 : decode b_Walk_pushSlice 192 = .ok (.getfield 126, 3) := by decide +kernel
theorem d_Walk_pushSlice_195 : decode b_Walk_pushSlice 195 = .ok (.ladd, 1) := by decide +kernel
theorem d_Walk_pushSlice_196 : decode b_Walk_pushSlice 196 = .ok (.lstore 6, 2) := by decide +kernel
theorem d_Walk_pushSlice_198 : decode b_Walk_pushSlice 198 = .ok (.goto (-29), 3) := by decide +kernel
theorem d_Walk_pushSlice_201 : decode b_Walk_pushSlice 201 = .ok (.return_, 1) := by decide +kernel
set_option maxHeartbeats 4000000 in
set_option maxRecDepth 100000 in
/-- Walk.pushSlice -/
theorem c_Walk_pushSlice (l : Launch) (hl9 : l.stackTraces = false) (K : Nat → Nat × Nat) (dC : Nat → ClassId) (dI : Nat → Nat → Nat) (sz : Heap) (cI cV : ClassId) (E lv : Nat → Nat) (L : List Nat) (f : Nat → va_E) (hO : PO cI cV E lv L f) (hN1 : ∀ a, E a ≠ 1) (wk wl rt : Nat) (hrt : isF E rt) (tp sp : Nat) (g : Nat → Option Nat) (ν : Nat → Int64) (hW9 : WI E tp sp g) (nd : Nat) (hnd : isF E nd) (sl : Nat) (hsl : E sl = 9) : vx_Met l y_Walk_pushSlice (k_Walk_pushSlice :: gtbl) ({ frames := 10, cells := 1, slots := 6, locals := 200 }) (va_Pc [.ref wk, .ref nd, .ref sl] (ml K dC dI ([(wk, .inr (10, [.ref wl, .int (nI tp), .int (nI sp), .ref rt])), (wl, .inl (cV, 10000, .inr (.inr (.inr (.inr g)))))] ++ va_pl L (pf f ν)) [(cI, .int), (cV, .object "QueryBench$Value")] sz)) (va_Qv (fun (u : Nat × Nat × (Nat → Option Nat) × (Nat → Int64)) => tp ≤ u.1 ∧ sp ≤ u.2.1 ∧ WI E u.1 u.2.1 u.2.2.1) (fun u t9 => mz dC dI ([(wk, .inr (10, [.ref wl, .int (nI u.1), .int (nI u.2.1), .ref rt])), (wl, .inl (cV, 10000, .inr (.inr (.inr (.inr u.2.2.1)))))] ++ va_pl L (pf f u.2.2.2)) [(cI, .int), (cV, .object "QueryBench$Value")] (va_A ([(wk, .inr (10, [.ref wl, .int (nI tp), .int (nI sp), .ref rt])), (wl, .inl (cV, 10000, .inr (.inr (.inr (.inr g)))))] ++ va_pl L (pf f ν)) sz.size) t9 ∧ szk sz t9.heap (0) (0)) (va_A ([(wk, .inr (10, [.ref wl, .int (nI tp), .int (nI sp), .ref rt])), (wl, .inl (cV, 10000, .inr (.inr (.inr (.inr g)))))] ++ va_pl L (pf f ν)) sz.size)) (vx_X (fun (u : Int32 × Int32 × (Nat → Option Nat) × (Nat → Int64)) => True) (fun En u t9 => En = IOB ∧ mz dC dI ([(wk, .inr (10, [.ref wl, .int u.1, .int u.2.1, .ref rt])), (wl, .inl (cV, 10000, .inr (.inr (.inr (.inr u.2.2.1)))))] ++ va_pl L (pf f u.2.2.2)) [(cI, .int), (cV, .object "QueryBench$Value")] (va_A ([(wk, .inr (10, [.ref wl, .int (nI tp), .int (nI sp), .ref rt])), (wl, .inl (cV, 10000, .inr (.inr (.inr (.inr g)))))] ++ va_pl L (pf f ν)) sz.size) t9) (va_A ([(wk, .inr (10, [.ref wl, .int (nI tp), .int (nI sp), .ref rt])), (wl, .inl (cV, 10000, .inr (.inr (.inr (.inr g)))))] ++ va_pl L (pf f ν)) sz.size)) (1) (6) (va_A ([(wk, .inr (10, [.ref wl, .int (nI tp), .int (nI sp), .ref rt])), (wl, .inl (cV, 10000, .inr (.inr (.inr (.inr g)))))] ++ va_pl L (pf f ν)) sz.size) := by
  refine vx_ofW (cc := b_Walk_pushSlice) (maxL := 8) (ret := none) (by decide) rfl ?_
  intro p e s m args below meth c s₁ B hml hex hv
  obtain ⟨rfl, ⟨hsz, hP, hK, hD0⟩, hN, hZ, hC, hV⟩ := hv
  have hx := B.exec
  have hb := B.bytes
  have hr := B.returns
  have hts0 := atoms_spec (ws := k_Walk_pushSlice :: gtbl) B.pre
  have hts := fun w h => hts0 w (List.mem_cons_of_mem _ h)
  have hown : s.vm.findClass R_Walk = some m.cls := findClass_of_methodNamed B.named
  have hlocks := B.notSynchronized
  subst hsz
  have hD := hD0.self (sz := s.heap.size)
  generalize hAe : va_A ([(wk, .inr (10, [.ref wl, .int (nI tp), .int (nI sp), .ref rt])), (wl, .inl (cV, 10000, .inr (.inr (.inr (.inr g)))))] ++ va_pl L (pf f ν)) s.heap.size = A at hD hZ hC ⊢
  have hA : ∀ q : Nat, s.heap.size ≤ q → A q := fun q h => by rw [← hAe]; exact Or.inr h
  have hS : va_S A s.heap s.heap [] := va_S.rf
  have hP : va_P (dC, dI) classes ([(wk, .inr (10, [.ref wl, .int (nI tp), .int (nI sp), .ref rt])), (wl, .inl (cV, 10000, .inr (.inr (.inr (.inr g)))))] ++ va_pl L (pf f ν)) s.heap := hP
  have hl := lv_entry ([.ref wk, .ref nd, .ref sl]) (n := 8) (Nat.le_of_ble_eq_true rfl)
  rw [lg_entry_eq]
  generalize (lg_sl ([.ref wk, .ref nd, .ref sl]) ++ List.replicate (8 - (lg_sl ([.ref wk, .ref nd, .ref sl])).length) Slot.unset).toArray = ls at hl ⊢
  have hl : lv_has ls 8 [(0, .ref wk), (1, .ref nd), (2, .ref sl)] := hl
  have hW0 := hW9
  have hW1 := hW9.1
  have hW2 := hW9.2.1
  refine lv_aload_n hx hb d_Walk_pushSlice_0 rfl (lv_at hl 1 rfl) ?_
  obtain ⟨kd1, nu1, tx1, me1, pa1, na1, ix1, nm1, no1, sp1, ef1, hv1⟩ := hO.val ((isF.v hnd))
  refine vq_get (D := (dC, dI)) (ci := 9) (v := .int kd1) (C := R_Value) (T := F_Value) (N := 10) hx hb hts in_Value hown hK hP (hO.inV (isF.v hnd)) (pf_V ef1) rfl 0 (by decide) (hts _ z_315) (fun _ h9 => h9) rfl d_Walk_pushSlice_1 ?_
  refine lv_iconst (v := 5) hx hb d_Walk_pushSlice_4 (by decide) ?_
  refine lv_icmp_ne (tgt := 17) hx hb d_Walk_pushSlice_5 (by decide) (fun c5 => ?_) (fun c5 => ?_)
  · refine w_same (fun hq => ?_)
    refine W.widen (k := 1) (n := 6) (Nat.le_of_ble_eq_true rfl) (Nat.le_of_ble_eq_true rfl) ?_
    refine vx_ret ?_
    exact W.vret hx hb hr (fun t9 ht hW => ⟨⟨(tp, sp, g, ν), rfl, ⟨by show tp ≤ tp; omega, by show sp ≤ sp; omega, hW9⟩, ⟨by rw [ht]; exact hP, va_K.moved hW.alike hK, hD⟩, by rw [ht]; exact hq⟩, hS.F ht⟩) hS.2.2 d_Walk_pushSlice_17
  · refine lv_aload_n hx hb d_Walk_pushSlice_8 rfl (lv_at hl 2 rfl) ?_
    obtain ⟨kd2, nm2, hs2, ht2, st2, sp2, se2, fl2, nx2, ef2, hv2⟩ := hO.sel hsl
    refine vq_get (D := (dC, dI)) (ci := 7) (v := .long se2) (C := R_Selector) (T := F_Selector) (N := 9) hx hb hts in_Selector hown hK hP (hO.inL (a := sl) (by rw [hsl]; decide)) (pf_L ef2) rfl 6 (by decide) (hts _ z_625) (fun _ h9 => h9) rfl d_Walk_pushSlice_9 ?_
    refine lv_lconst (v := 0) hx hb d_Walk_pushSlice_12 (by decide) ?_
    refine W.lcmp hx hb d_Walk_pushSlice_13 ?_
    refine lv_if_ne (tgt := 18) hx hb d_Walk_pushSlice_14 (by decide) (fun c14 => ?_) (fun c14 => ?_)
    · refine lv_aload_n hx hb d_Walk_pushSlice_18 rfl (lv_at hl 1 rfl) ?_
      refine vp_callSi (va_Run.run (va_runV (As := []) (rest := []) ⟨hx, hb, hml, hown, hts⟩ (c_Value_size l dC dI s.heap cI cV E lv L (pf f ν) (hO.num ν) nd hnd) (cwV 0 hts (gt_V (own := R_Walk) (C := R_Value) (i := 118) (y := y_Value_size) i_Value_size z_874 z_866 z_867 z_14) rfl rfl rfl (by decide +kernel) ⟨Nat.le_of_ble_eq_true rfl, Nat.le_of_ble_eq_true rfl⟩) ⟨mq_blind, vq_recv hK hP rfl (hO.inV (isF.v hnd)) (pf_V ef1), fun U hU hW => ⟨rfl, hU, by rw [hU]; exact hP.part (cx := []) [] rfl, va_K.moved hW.alike hK, hN.warm hW⟩⟩ rfl rfl hl.1 rfl (lv_room (Nat.le_of_ble_eq_true rfl)) d_Walk_pushSlice_19 ⟨Nat.le_of_ble_eq_true rfl, Nat.le_of_ble_eq_true rfl⟩)) (fun r3 h_r3 => ?_)
      rw [hO.szpf hnd] at h_r3
      subst h_r3
      have hs := hO.szle ef1 hv1
      refine lv_istore_n (lv' := [(3, .int (nI (szF f nd))), (0, .ref wk), (1, .ref nd), (2, .ref sl)]) hx hb d_Walk_pushSlice_22 rfl hl (by decide) rfl (fun ls hl => ?_)
      refine lv_aload_n hx hb d_Walk_pushSlice_23 rfl (lv_at hl 3 rfl) ?_
      refine vq_get (D := (dC, dI)) (ci := 7) (v := .long se2) (C := R_Selector) (T := F_Selector) (N := 9) hx hb hts in_Selector hown hK hP (hO.inL (a := sl) (by rw [hsl]; decide)) (pf_L ef2) rfl 6 (by decide) (hts _ z_625) (fun _ h9 => h9) rfl d_Walk_pushSlice_24 ?_
      refine lv_lconst (v := 0) hx hb d_Walk_pushSlice_27 (by decide) ?_
      refine W.lcmp hx hb d_Walk_pushSlice_28 ?_
      refine lv_if_le (tgt := 114) hx hb d_Walk_pushSlice_29 (by decide) (fun c29 => ?_) (fun c29 => ?_)
      · refine lv_aload_n hx hb d_Walk_pushSlice_114 rfl (lv_at hl 3 rfl) ?_
        refine vq_get (D := (dC, dI)) (ci := 7) (v := .int ht2) (C := R_Selector) (T := F_Selector) (N := 9) hx hb hts in_Selector hown hK hP (hO.inL (a := sl) (by rw [hsl]; decide)) (pf_L ef2) rfl 3 (by decide) (hts _ z_618) (fun _ h9 => h9) rfl d_Walk_pushSlice_115 ?_
        refine lv_if_eq (tgt := 136) hx hb d_Walk_pushSlice_118 (by decide) (fun c118 => ?_) (fun c118 => ?_)
        · refine lv_ldc2 (v := (-1)) hx hb hown (hts _ z_890) d_Walk_pushSlice_136 ?_
          refine lv_lstore (lv' := [(4, .long (-1)), (3, .int (nI (szF f nd))), (0, .ref wk), (1, .ref nd), (2, .ref sl)]) hx hb d_Walk_pushSlice_139 hl (by decide) rfl (fun ls hl => ?_)
          refine lv_aload_n hx hb d_Walk_pushSlice_141 rfl (lv_at hl 4 rfl) ?_
          refine vq_get (D := (dC, dI)) (ci := 7) (v := .int hs2) (C := R_Selector) (T := F_Selector) (N := 9) hx hb hts in_Selector hown hK hP (hO.inL (a := sl) (by rw [hsl]; decide)) (pf_L ef2) rfl 2 (by decide) (hts _ z_616) (fun _ h9 => h9) rfl d_Walk_pushSlice_142 ?_
          refine lv_if_eq (tgt := 163) hx hb d_Walk_pushSlice_145 (by decide) (fun c145 => ?_) (fun c145 => ?_)
          · refine lv_iload_n hx hb d_Walk_pushSlice_163 rfl (lv_at hl 1 rfl) ?_
            refine lv_iconst (v := 1) hx hb d_Walk_pushSlice_164 (by decide) ?_
            refine lv_isub hx hb d_Walk_pushSlice_165 ?_
            refine lv_i2l (v := (((nI (szF f nd)) - 1)).toInt64) hx hb d_Walk_pushSlice_166 rfl ?_
            refine lv_lstore (lv' := [(6, .long ((((nI (szF f nd)) - 1)).toInt64)), (4, .long (-1)), (3, .int (nI (szF f nd))), (0, .ref wk), (1, .ref nd), (2, .ref sl)]) hx hb d_Walk_pushSlice_167 hl (by decide) rfl (fun ls hl => ?_)
            have hst : (-1 : Int) ≤ ((-1) : Int64).toInt := (by decide)
            have hi0 : (((((nI (szF f nd)) - 1)).toInt64) : Int64).toInt ≤ (szF f nd : Int) - 1 := (by rw [Int32.toInt_toInt64, nI_m1 hs]; exact Int.le_refl _)
            refine w_loop (D := (dC, dI)) (cl := classes) (A := A) (H0 := s.heap) (nL := 8) 169 (σ := Int64 × Nat × Nat × (Nat → Option Nat) × (Nat → Int64)) (fun ⟨i, t, s9, g, ν⟩ => i.toInt ≤ (szF f nd : Int) - 1 ∧ tp ≤ t ∧ sp ≤ s9 ∧ WI E t s9 g) (fun ⟨i, t, s9, g, ν⟩ => 10000 - s9) (fun ⟨i, t, s9, g, ν⟩ => [(wk, .inr (10, [.ref wl, .int (nI t), .int (nI s9), .ref rt])), (wl, .inl (cV, 10000, .inr (.inr (.inr (.inr g)))))] ++ va_pl L (pf f ν)) (fun ⟨i, t, s9, g, ν⟩ => [(0, .ref wk), (1, .ref nd), (2, .ref sl), (3, .int (nI (szF f nd))), (4, .long (-1)), (6, .long i)]) ?_ (((((nI (szF f nd)) - 1)).toInt64), tp, sp, g, ν) ⟨hi0, by show tp ≤ tp; omega, by show sp ≤ sp; omega, hW9⟩ hP hD hS (lv_sub hl [3, 4, 5, 2, 1, 0] rfl)
            rintro ⟨i, t, s9, g, ν⟩ H locs ls hI ih hP hD hS hl
            have hP : va_P (dC, dI) classes ([(wk, .inr (10, [.ref wl, .int (nI t), .int (nI s9), .ref rt])), (wl, .inl (cV, 10000, .inr (.inr (.inr (.inr g)))))] ++ va_pl L (pf f ν)) H := hP
            have hD : va_D A ([(wk, .inr (10, [.ref wl, .int (nI t), .int (nI s9), .ref rt])), (wl, .inl (cV, 10000, .inr (.inr (.inr (.inr g)))))] ++ va_pl L (pf f ν)) := hD
            have hl : lv_has ls 8 [(0, .ref wk), (1, .ref nd), (2, .ref sl), (3, .int (nI (szF f nd))), (4, .long (-1)), (6, .long i)] := hl
            obtain ⟨hI, hI1, hI2, hI3⟩ := hI
            have hI : i.toInt ≤ (szF f nd : Int) - 1 := hI
            have hI1 : tp ≤ t := hI1
            have hI2 : sp ≤ s9 := hI2
            have hI3 : WI E t s9 g := hI3
            have hhI31 := hI3.1
            have hhI32 := hI3.2.1
            refine lv_lload hx hb d_Walk_pushSlice_169 (lv_at hl 5 rfl) ?_
            refine lv_lload hx hb d_Walk_pushSlice_171 (lv_at hl 4 rfl) ?_
            refine W.lcmp hx hb d_Walk_pushSlice_173 ?_
            refine lv_if_le (tgt := 201) hx hb d_Walk_pushSlice_174 (by decide) (fun c174 => ?_) (fun c174 => ?_)
            · refine w_same (fun hq => ?_)
              refine W.widen (k := 1) (n := 6) (Nat.le_of_ble_eq_true rfl) (Nat.le_of_ble_eq_true rfl) ?_
              refine vx_ret ?_
              exact W.vret hx hb hr (fun t9 ht hW => ⟨⟨(t, s9, g, ν), rfl, ⟨by show tp ≤ t; omega, by show sp ≤ s9; omega, hI3⟩, ⟨by rw [ht]; exact hP, va_K.moved hW.alike hK, hD⟩, by rw [ht]; exact hq⟩, hS.F ht⟩) hS.2.2 d_Walk_pushSlice_201
            · have hlt := Int64.lt_iff_toInt_lt.mp (Int64.not_le.mp (fun h => c174 ((lg_cmp_le _ _).mpr h)))
              have hlt : ((-1) : Int64).toInt < i.toInt := hlt
              obtain ⟨j, hj, ej⟩ := l_idx (x := i) (n := szF f nd) (by omega) (by omega) hs
              refine lv_aload_n hx hb d_Walk_pushSlice_177 rfl (lv_at hl 0 rfl) ?_
              refine lv_aload_n hx hb d_Walk_pushSlice_178 rfl (lv_at hl 1 rfl) ?_
              rcases me1 with _ | b4
              · exact absurd (PO.mem0 ef1) (by omega)
              · refine vq_get (D := (dC, dI)) (ci := 9) (v := .ref b4) (C := R_Value) (T := F_Value) (N := 10) hx hb hts in_Value hown hK hP (hO.inV (isF.v hnd)) (pf_V ef1) rfl 3 (by decide) (hts _ z_328) (fun _ h9 => h9) rfl d_Walk_pushSlice_179 ?_
                refine lv_lload hx hb d_Walk_pushSlice_182 (lv_at hl 5 rfl) ?_
                refine lv_l2i (v := i.toInt32) hx hb d_Walk_pushSlice_184 rfl ?_
                refine W.eq (g2 := F0 m 185 ls [.int (nI j), .ref b4, .ref wk]) (by rw [show (i.toInt32) = (nI j) from (by rw [ej]; exact lN_i j)]) ?_
                obtain ⟨g5, hi5, ef5, hg5⟩ := hO.mem1 ef1 hv1 (isF.n1 hnd)
                have hn5 := hO.szle ef1 hv1
                obtain ⟨me6, hm6, hf6, hnm6⟩ := hg5 j hj
                refine vq_aald hx hb hK hP 1 hi5 (pf_A ef5) rfl (j := j) hj hn5 hm6 d_Walk_pushSlice_185 ?_
                have hPc := hP.part (cx := [(wk, .inr (10, [.ref wl, .int (nI t), .int (nI s9), .ref rt])), (wl, .inl (cV, 10000, .inr (.inr (.inr (.inr g)))))]) [0, 1] rfl
                have hDc := hD.part (cx := [(wk, .inr (10, [.ref wl, .int (nI t), .int (nI s9), .ref rt])), (wl, .inl (cV, 10000, .inr (.inr (.inr (.inr g)))))]) [0, 1] (by decide) rfl
                have hFc := va_freeP (cx := [(wk, .inr (10, [.ref wl, .int (nI t), .int (nI s9), .ref rt])), (wl, .inl (cV, 10000, .inr (.inr (.inr (.inr g)))))]) hD hS hA [0, 1] rfl
                have hKc := hK.sub (tys' := [(cI, .int), (cV, .object "QueryBench$Value")]) [0, 1] rfl
                refine w_same (fun hq0 => ?_)
                refine vx_callv (vx_runV (As := [.ref me6]) (rest := []) ⟨hx, hb, hml, hown, hts⟩ (c_Walk_push l hl9 K dC dI H cI cV E lv L f hO hN1 wk wl rt hrt t s9 g ν hI3 me6 hf6) (cwV 1 hts (gt_V (own := R_Walk) (C := R_Walk) (i := 38) (y := y_Walk_push) i_Walk_push z_839 z_841 (gt_sel (y := y_Walk_push) (n := 4) (by decide +kernel)) w_5) rfl rfl rfl (by decide +kernel) ⟨Nat.le_of_ble_eq_true rfl, Nat.le_of_ble_eq_true rfl⟩) ⟨ml_blind, va_recv hK hP (ci := 10) (q0 := 0) rfl rfl, fun U hU hW => ⟨rfl, ⟨hU, by rw [hU]; exact hPc, va_K.moved hW.alike hKc, hDc.weaken (fun _ _ _ _ => trivial)⟩, hN.warm hW, by rw [hU]; exact ZX.moved' hW.alike (ZX.narrow' (ZX.kept' hZ hS.2.1) hFc), by rw [hU]; exact CE.call hC hS.2.1 hFc hW, va_AO.moved hW.alike hV⟩⟩ rfl rfl hl.1 rfl (lv_room (Nat.le_of_ble_eq_true rfl)) d_Walk_pushSlice_186 ⟨Nat.le_of_ble_eq_true rfl, Nat.le_of_ble_eq_true rfl⟩) hS (fun q _ h => hFc q h) hFc (fun q _ h => hFc q h) (fun En ce q9 ⟨tx, sx, gx, nx⟩ t9 H1 locs ht hvm hw hB hz1 hk1 hS hce hcv hcl => ?_) (fun ⟨t7, s7, g7, n7⟩ t9 H1 locs ht hvm hw hB hz1 hk1 hS => ?_)
                · obtain ⟨hEn, hP1, hK1, hD1⟩ := hB
                  rw [ht] at hP1
                  obtain ⟨hP, hD⟩ := va_joinP (wr := []) (rx := [(wk, .inr (10, [.ref wl, .int tx, .int sx, .ref rt])), (wl, .inl (cV, 10000, .inr (.inr (.inr (.inr gx)))))]) (pl1 := va_pl L (pf f nx)) hP hD [0, 1] [] rfl rfl (by decide) (by decide) hk1 hFc hP1 hD1
                  generalize H1 = H at hP hS hce ⊢
                  have hP : va_P (dC, dI) classes ([(wk, .inr (10, [.ref wl, .int tx, .int sx, .ref rt])), (wl, .inl (cV, 10000, .inr (.inr (.inr (.inr gx)))))] ++ va_pl L (pf f nx)) H := hP
                  have hD : va_D A ([(wk, .inr (10, [.ref wl, .int tx, .int sx, .ref rt])), (wl, .inl (cV, 10000, .inr (.inr (.inr (.inr gx)))))] ++ va_pl L (pf f nx)) := hD
                  exact vx_out (fun x hx => (hex x hx).elim) hlocks hce hcv hcl (fun t9 ht2 ha => ⟨(tx, sx, gx, nx), trivial, ⟨hEn, by rw [ht2]; exact hP, va_K.moved ha hK, hD⟩, hS.F ht2⟩) hS.2.2 (Nat.le_of_ble_eq_true rfl) (Nat.le_of_ble_eq_true rfl)
                · obtain ⟨⟨hP1, hK1, hD1⟩, hz9⟩ := hB
                  rw [ht] at hP1
                  rw [ht] at hz9
                  refine w_tight (hq0.trans hz9) ?_
                  have hq0 := hq0.trans hz9
                  obtain ⟨hP, hD⟩ := va_joinP (wr := []) (rx := [(wk, .inr (10, [.ref wl, .int (nI t7), .int (nI s7), .ref rt])), (wl, .inl (cV, 10000, .inr (.inr (.inr (.inr g7)))))]) (pl1 := va_pl L (pf f n7)) hP hD [0, 1] [] rfl rfl (by decide) (by decide) hk1 hFc hP1 hD1
                  generalize H1 = H at hP hS hq0 ⊢
                  have hP : va_P (dC, dI) classes ([(wk, .inr (10, [.ref wl, .int (nI t7), .int (nI s7), .ref rt])), (wl, .inl (cV, 10000, .inr (.inr (.inr (.inr g7)))))] ++ va_pl L (pf f n7)) H := hP
                  have hD : va_D A ([(wk, .inr (10, [.ref wl, .int (nI t7), .int (nI s7), .ref rt])), (wl, .inl (cV, 10000, .inr (.inr (.inr (.inr g7)))))] ++ va_pl L (pf f n7)) := hD
                  obtain ⟨ha7, hb7, hW7⟩ := hw
                  have ha7 : t7 = t + 1 := ha7
                  have hb7 : s7 = s9 + 1 := hb7
                  have hW7 : WI E t7 s7 g7 := hW7
                  have hhW71 := hW7.1
                  have hhW72 := hW7.2.1
                  refine lv_lload hx hb d_Walk_pushSlice_189 (lv_at hl 5 rfl) ?_
                  refine lv_aload_n hx hb d_Walk_pushSlice_191 rfl (lv_at hl 2 rfl) ?_
                  refine vq_get (D := (dC, dI)) (ci := 7) (v := .long se2) (C := R_Selector) (T := F_Selector) (N := 9) hx hb hts in_Selector hown hK hP (hO.inL (a := sl) (by rw [hsl]; decide)) (pf_L ef2) rfl 6 (by decide) (hts _ z_625) (fun _ h9 => h9) rfl d_Walk_pushSlice_192 ?_
                  refine lv_ladd hx hb d_Walk_pushSlice_195 ?_
                  refine lv_lstore (lv' := [(6, .long (i + se2)), (0, .ref wk), (1, .ref nd), (2, .ref sl), (3, .int (nI (szF f nd))), (4, .long (-1))]) hx hb d_Walk_pushSlice_196 hl (by decide) rfl (fun ls hl => ?_)
                  refine lv_goto (tgt := 169) hx hb d_Walk_pushSlice_198 (by decide) ?_
                  have hse := Int64.le_iff_toInt_le.mp ((lg_cmp_le _ _).mp c29)
                  rw [show (0 : Int64).toInt = 0 from rfl] at hse
                  have hia : (i + se2).toInt = i.toInt + se2.toInt := l_add (by omega) (by omega) hv2.2.2.2.2.2.1 hv2.2.2.2.2.2.2
                  exact ih (i + se2, t7, s7, g7, n7) _ _ _ ⟨show (i + se2).toInt ≤ (szF f nd : Int) - 1 by omega, by show tp ≤ t7; omega, by show sp ≤ s7; omega, hW7⟩ (by show 10000 - s7 < 10000 - s9; omega) hP hD hS (lv_sub hl [1, 2, 3, 4, 5, 0] rfl)
          · refine lv_aload_n hx hb d_Walk_pushSlice_148 rfl (lv_at hl 4 rfl) ?_
            refine vq_get (D := (dC, dI)) (ci := 7) (v := .long st2) (C := R_Selector) (T := F_Selector) (N := 9) hx hb hts in_Selector hown hK hP (hO.inL (a := sl) (by rw [hsl]; decide)) (pf_L ef2) rfl 4 (by decide) (hts _ z_619) (fun _ h9 => h9) rfl d_Walk_pushSlice_149 ?_
            refine lv_iload_n hx hb d_Walk_pushSlice_152 rfl (lv_at hl 1 rfl) ?_
            refine lv_iconst (v := (-1)) hx hb d_Walk_pushSlice_153 (by decide) ?_
            refine lv_iload_n hx hb d_Walk_pushSlice_154 rfl (lv_at hl 1 rfl) ?_
            refine lv_iconst (v := 1) hx hb d_Walk_pushSlice_155 (by decide) ?_
            refine lv_isub hx hb d_Walk_pushSlice_156 ?_
            refine vp_callSl (va_Run.run (va_runS (As := [.long st2, .int (nI (szF f nd)), .int (-1), .int ((nI (szF f nd)) - 1)]) (rest := []) ⟨hx, hb, hml, hown, hts⟩ (c_Walk_cut l dC dI s.heap st2 (nI (szF f nd)) (-1) (nI (szF f nd) - 1) (cutD hs)) (va_cwS 4 hts (gt_S (own := R_Walk) (i := 134) (y := y_Walk_cut) i_Walk_cut z_883 z_884 w_5) rfl rfl rfl (by decide +kernel) ⟨Nat.le_of_ble_eq_true rfl, Nat.le_of_ble_eq_true rfl⟩) ⟨mT_blind, fun U hU hW => ⟨rfl, hN.warm hW⟩⟩ rfl rfl hl.1 rfl (lv_room (Nat.le_of_ble_eq_true rfl)) d_Walk_pushSlice_157 ⟨Nat.le_of_ble_eq_true rfl, Nat.le_of_ble_eq_true rfl⟩)) (fun r8 h_r8 => ?_)
            rw [nI_m1 hs] at h_r8
            refine lv_goto (tgt := 167) hx hb d_Walk_pushSlice_160 (by decide) ?_
            refine lv_lstore (lv' := [(6, .long r8), (4, .long (-1)), (3, .int (nI (szF f nd))), (0, .ref wk), (1, .ref nd), (2, .ref sl)]) hx hb d_Walk_pushSlice_167 hl (by decide) rfl (fun ls hl => ?_)
            have hst : (-1 : Int) ≤ ((-1) : Int64).toInt := (by decide)
            have hi0 : (r8 : Int64).toInt ≤ (szF f nd : Int) - 1 := h_r8.2
            refine w_loop (D := (dC, dI)) (cl := classes) (A := A) (H0 := s.heap) (nL := 8) 169 (σ := Int64 × Nat × Nat × (Nat → Option Nat) × (Nat → Int64)) (fun ⟨i, t, s9, g, ν⟩ => i.toInt ≤ (szF f nd : Int) - 1 ∧ tp ≤ t ∧ sp ≤ s9 ∧ WI E t s9 g) (fun ⟨i, t, s9, g, ν⟩ => 10000 - s9) (fun ⟨i, t, s9, g, ν⟩ => [(wk, .inr (10, [.ref wl, .int (nI t), .int (nI s9), .ref rt])), (wl, .inl (cV, 10000, .inr (.inr (.inr (.inr g)))))] ++ va_pl L (pf f ν)) (fun ⟨i, t, s9, g, ν⟩ => [(0, .ref wk), (1, .ref nd), (2, .ref sl), (3, .int (nI (szF f nd))), (4, .long (-1)), (6, .long i)]) ?_ (r8, tp, sp, g, ν) ⟨hi0, by show tp ≤ tp; omega, by show sp ≤ sp; omega, hW9⟩ hP hD hS (lv_sub hl [3, 4, 5, 2, 1, 0] rfl)
            rintro ⟨i, t, s9, g, ν⟩ H locs ls hI ih hP hD hS hl
            have hP : va_P (dC, dI) classes ([(wk, .inr (10, [.ref wl, .int (nI t), .int (nI s9), .ref rt])), (wl, .inl (cV, 10000, .inr (.inr (.inr (.inr g)))))] ++ va_pl L (pf f ν)) H := hP
            have hD : va_D A ([(wk, .inr (10, [.ref wl, .int (nI t), .int (nI s9), .ref rt])), (wl, .inl (cV, 10000, .inr (.inr (.inr (.inr g)))))] ++ va_pl L (pf f ν)) := hD
            have hl : lv_has ls 8 [(0, .ref wk), (1, .ref nd), (2, .ref sl), (3, .int (nI (szF f nd))), (4, .long (-1)), (6, .long i)] := hl
            obtain ⟨hI, hI1, hI2, hI3⟩ := hI
            have hI : i.toInt ≤ (szF f nd : Int) - 1 := hI
            have hI1 : tp ≤ t := hI1
            have hI2 : sp ≤ s9 := hI2
            have hI3 : WI E t s9 g := hI3
            have hhI31 := hI3.1
            have hhI32 := hI3.2.1
            refine lv_lload hx hb d_Walk_pushSlice_169 (lv_at hl 5 rfl) ?_
            refine lv_lload hx hb d_Walk_pushSlice_171 (lv_at hl 4 rfl) ?_
            refine W.lcmp hx hb d_Walk_pushSlice_173 ?_
            refine lv_if_le (tgt := 201) hx hb d_Walk_pushSlice_174 (by decide) (fun c174 => ?_) (fun c174 => ?_)
            · refine w_same (fun hq => ?_)
              refine W.widen (k := 1) (n := 6) (Nat.le_of_ble_eq_true rfl) (Nat.le_of_ble_eq_true rfl) ?_
              refine vx_ret ?_
              exact W.vret hx hb hr (fun t9 ht hW => ⟨⟨(t, s9, g, ν), rfl, ⟨by show tp ≤ t; omega, by show sp ≤ s9; omega, hI3⟩, ⟨by rw [ht]; exact hP, va_K.moved hW.alike hK, hD⟩, by rw [ht]; exact hq⟩, hS.F ht⟩) hS.2.2 d_Walk_pushSlice_201
            · have hlt := Int64.lt_iff_toInt_lt.mp (Int64.not_le.mp (fun h => c174 ((lg_cmp_le _ _).mpr h)))
              have hlt : ((-1) : Int64).toInt < i.toInt := hlt
              obtain ⟨j, hj, ej⟩ := l_idx (x := i) (n := szF f nd) (by omega) (by omega) hs
              refine lv_aload_n hx hb d_Walk_pushSlice_177 rfl (lv_at hl 0 rfl) ?_
              refine lv_aload_n hx hb d_Walk_pushSlice_178 rfl (lv_at hl 1 rfl) ?_
              rcases me1 with _ | b9
              · exact absurd (PO.mem0 ef1) (by omega)
              · refine vq_get (D := (dC, dI)) (ci := 9) (v := .ref b9) (C := R_Value) (T := F_Value) (N := 10) hx hb hts in_Value hown hK hP (hO.inV (isF.v hnd)) (pf_V ef1) rfl 3 (by decide) (hts _ z_328) (fun _ h9 => h9) rfl d_Walk_pushSlice_179 ?_
                refine lv_lload hx hb d_Walk_pushSlice_182 (lv_at hl 5 rfl) ?_
                refine lv_l2i (v := i.toInt32) hx hb d_Walk_pushSlice_184 rfl ?_
                refine W.eq (g2 := F0 m 185 ls [.int (nI j), .ref b9, .ref wk]) (by rw [show (i.toInt32) = (nI j) from (by rw [ej]; exact lN_i j)]) ?_
                obtain ⟨g10, hi10, ef10, hg10⟩ := hO.mem1 ef1 hv1 (isF.n1 hnd)
                have hn10 := hO.szle ef1 hv1
                obtain ⟨me11, hm11, hf11, hnm11⟩ := hg10 j hj
                refine vq_aald hx hb hK hP 1 hi10 (pf_A ef10) rfl (j := j) hj hn10 hm11 d_Walk_pushSlice_185 ?_
                have hPc := hP.part (cx := [(wk, .inr (10, [.ref wl, .int (nI t), .int (nI s9), .ref rt])), (wl, .inl (cV, 10000, .inr (.inr (.inr (.inr g)))))]) [0, 1] rfl
                have hDc := hD.part (cx := [(wk, .inr (10, [.ref wl, .int (nI t), .int (nI s9), .ref rt])), (wl, .inl (cV, 10000, .inr (.inr (.inr (.inr g)))))]) [0, 1] (by decide) rfl
                have hFc := va_freeP (cx := [(wk, .inr (10, [.ref wl, .int (nI t), .int (nI s9), .ref rt])), (wl, .inl (cV, 10000, .inr (.inr (.inr (.inr g)))))]) hD hS hA [0, 1] rfl
                have hKc := hK.sub (tys' := [(cI, .int), (cV, .object "QueryBench$Value")]) [0, 1] rfl
                refine w_same (fun hq0 => ?_)
                refine vx_callv (vx_runV (As := [.ref me11]) (rest := []) ⟨hx, hb, hml, hown, hts⟩ (c_Walk_push l hl9 K dC dI H cI cV E lv L f hO hN1 wk wl rt hrt t s9 g ν hI3 me11 hf11) (cwV 1 hts (gt_V (own := R_Walk) (C := R_Walk) (i := 38) (y := y_Walk_push) i_Walk_push z_839 z_841 (gt_sel (y := y_Walk_push) (n := 4) (by decide +kernel)) w_5) rfl rfl rfl (by decide +kernel) ⟨Nat.le_of_ble_eq_true rfl, Nat.le_of_ble_eq_true rfl⟩) ⟨ml_blind, va_recv hK hP (ci := 10) (q0 := 0) rfl rfl, fun U hU hW => ⟨rfl, ⟨hU, by rw [hU]; exact hPc, va_K.moved hW.alike hKc, hDc.weaken (fun _ _ _ _ => trivial)⟩, hN.warm hW, by rw [hU]; exact ZX.moved' hW.alike (ZX.narrow' (ZX.kept' hZ hS.2.1) hFc), by rw [hU]; exact CE.call hC hS.2.1 hFc hW, va_AO.moved hW.alike hV⟩⟩ rfl rfl hl.1 rfl (lv_room (Nat.le_of_ble_eq_true rfl)) d_Walk_pushSlice_186 ⟨Nat.le_of_ble_eq_true rfl, Nat.le_of_ble_eq_true rfl⟩) hS (fun q _ h => hFc q h) hFc (fun q _ h => hFc q h) (fun En ce q9 ⟨tx, sx, gx, nx⟩ t9 H1 locs ht hvm hw hB hz1 hk1 hS hce hcv hcl => ?_) (fun ⟨t12, s12, g12, n12⟩ t9 H1 locs ht hvm hw hB hz1 hk1 hS => ?_)
                · obtain ⟨hEn, hP1, hK1, hD1⟩ := hB
                  rw [ht] at hP1
                  obtain ⟨hP, hD⟩ := va_joinP (wr := []) (rx := [(wk, .inr (10, [.ref wl, .int tx, .int sx, .ref rt])), (wl, .inl (cV, 10000, .inr (.inr (.inr (.inr gx)))))]) (pl1 := va_pl L (pf f nx)) hP hD [0, 1] [] rfl rfl (by decide) (by decide) hk1 hFc hP1 hD1
                  generalize H1 = H at hP hS hce ⊢
                  have hP : va_P (dC, dI) classes ([(wk, .inr (10, [.ref wl, .int tx, .int sx, .ref rt])), (wl, .inl (cV, 10000, .inr (.inr (.inr (.inr gx)))))] ++ va_pl L (pf f nx)) H := hP
                  have hD : va_D A ([(wk, .inr (10, [.ref wl, .int tx, .int sx, .ref rt])), (wl, .inl (cV, 10000, .inr (.inr (.inr (.inr gx)))))] ++ va_pl L (pf f nx)) := hD
                  exact vx_out (fun x hx => (hex x hx).elim) hlocks hce hcv hcl (fun t9 ht2 ha => ⟨(tx, sx, gx, nx), trivial, ⟨hEn, by rw [ht2]; exact hP, va_K.moved ha hK, hD⟩, hS.F ht2⟩) hS.2.2 (Nat.le_of_ble_eq_true rfl) (Nat.le_of_ble_eq_true rfl)
                · obtain ⟨⟨hP1, hK1, hD1⟩, hz9⟩ := hB
                  rw [ht] at hP1
                  rw [ht] at hz9
                  refine w_tight (hq0.trans hz9) ?_
                  have hq0 := hq0.trans hz9
                  obtain ⟨hP, hD⟩ := va_joinP (wr := []) (rx := [(wk, .inr (10, [.ref wl, .int (nI t12), .int (nI s12), .ref rt])), (wl, .inl (cV, 10000, .inr (.inr (.inr (.inr g12)))))]) (pl1 := va_pl L (pf f n12)) hP hD [0, 1] [] rfl rfl (by decide) (by decide) hk1 hFc hP1 hD1
                  generalize H1 = H at hP hS hq0 ⊢
                  have hP : va_P (dC, dI) classes ([(wk, .inr (10, [.ref wl, .int (nI t12), .int (nI s12), .ref rt])), (wl, .inl (cV, 10000, .inr (.inr (.inr (.inr g12)))))] ++ va_pl L (pf f n12)) H := hP
                  have hD : va_D A ([(wk, .inr (10, [.ref wl, .int (nI t12), .int (nI s12), .ref rt])), (wl, .inl (cV, 10000, .inr (.inr (.inr (.inr g12)))))] ++ va_pl L (pf f n12)) := hD
                  obtain ⟨ha12, hb12, hW12⟩ := hw
                  have ha12 : t12 = t + 1 := ha12
                  have hb12 : s12 = s9 + 1 := hb12
                  have hW12 : WI E t12 s12 g12 := hW12
                  have hhW121 := hW12.1
                  have hhW122 := hW12.2.1
                  refine lv_lload hx hb d_Walk_pushSlice_189 (lv_at hl 5 rfl) ?_
                  refine lv_aload_n hx hb d_Walk_pushSlice_191 rfl (lv_at hl 2 rfl) ?_
                  refine vq_get (D := (dC, dI)) (ci := 7) (v := .long se2) (C := R_Selector) (T := F_Selector) (N := 9) hx hb hts in_Selector hown hK hP (hO.inL (a := sl) (by rw [hsl]; decide)) (pf_L ef2) rfl 6 (by decide) (hts _ z_625) (fun _ h9 => h9) rfl d_Walk_pushSlice_192 ?_
                  refine lv_ladd hx hb d_Walk_pushSlice_195 ?_
                  refine lv_lstore (lv' := [(6, .long (i + se2)), (0, .ref wk), (1, .ref nd), (2, .ref sl), (3, .int (nI (szF f nd))), (4, .long (-1))]) hx hb d_Walk_pushSlice_196 hl (by decide) rfl (fun ls hl => ?_)
                  refine lv_goto (tgt := 169) hx hb d_Walk_pushSlice_198 (by decide) ?_
                  have hse := Int64.le_iff_toInt_le.mp ((lg_cmp_le _ _).mp c29)
                  rw [show (0 : Int64).toInt = 0 from rfl] at hse
                  have hia : (i + se2).toInt = i.toInt + se2.toInt := l_add (by omega) (by omega) hv2.2.2.2.2.2.1 hv2.2.2.2.2.2.2
                  exact ih (i + se2, t12, s12, g12, n12) _ _ _ ⟨show (i + se2).toInt ≤ (szF f nd : Int) - 1 by omega, by show tp ≤ t12; omega, by show sp ≤ s12; omega, hW12⟩ (by show 10000 - s12 < 10000 - s9; omega) hP hD hS (lv_sub hl [1, 2, 3, 4, 5, 0] rfl)
        · refine lv_aload_n hx hb d_Walk_pushSlice_121 rfl (lv_at hl 3 rfl) ?_
          refine vq_get (D := (dC, dI)) (ci := 7) (v := .long sp2) (C := R_Selector) (T := F_Selector) (N := 9) hx hb hts in_Selector hown hK hP (hO.inL (a := sl) (by rw [hsl]; decide)) (pf_L ef2) rfl 5 (by decide) (hts _ z_622) (fun _ h9 => h9) rfl d_Walk_pushSlice_122 ?_
          refine lv_iload_n hx hb d_Walk_pushSlice_125 rfl (lv_at hl 0 rfl) ?_
          refine lv_iconst (v := (-1)) hx hb d_Walk_pushSlice_126 (by decide) ?_
          refine lv_iload_n hx hb d_Walk_pushSlice_127 rfl (lv_at hl 0 rfl) ?_
          refine lv_iconst (v := 1) hx hb d_Walk_pushSlice_128 (by decide) ?_
          refine lv_isub hx hb d_Walk_pushSlice_129 ?_
          refine vp_callSl (va_Run.run (va_runS (As := [.long sp2, .int (nI (szF f nd)), .int (-1), .int ((nI (szF f nd)) - 1)]) (rest := []) ⟨hx, hb, hml, hown, hts⟩ (c_Walk_cut l dC dI s.heap sp2 (nI (szF f nd)) (-1) (nI (szF f nd) - 1) (cutD hs)) (va_cwS 4 hts (gt_S (own := R_Walk) (i := 134) (y := y_Walk_cut) i_Walk_cut z_883 z_884 w_5) rfl rfl rfl (by decide +kernel) ⟨Nat.le_of_ble_eq_true rfl, Nat.le_of_ble_eq_true rfl⟩) ⟨mT_blind, fun U hU hW => ⟨rfl, hN.warm hW⟩⟩ rfl rfl hl.1 rfl (lv_room (Nat.le_of_ble_eq_true rfl)) d_Walk_pushSlice_130 ⟨Nat.le_of_ble_eq_true rfl, Nat.le_of_ble_eq_true rfl⟩)) (fun r13 h_r13 => ?_)
          rw [nI_m1 hs] at h_r13
          refine lv_goto (tgt := 139) hx hb d_Walk_pushSlice_133 (by decide) ?_
          refine lv_lstore (lv' := [(4, .long r13), (3, .int (nI (szF f nd))), (0, .ref wk), (1, .ref nd), (2, .ref sl)]) hx hb d_Walk_pushSlice_139 hl (by decide) rfl (fun ls hl => ?_)
          refine lv_aload_n hx hb d_Walk_pushSlice_141 rfl (lv_at hl 4 rfl) ?_
          refine vq_get (D := (dC, dI)) (ci := 7) (v := .int hs2) (C := R_Selector) (T := F_Selector) (N := 9) hx hb hts in_Selector hown hK hP (hO.inL (a := sl) (by rw [hsl]; decide)) (pf_L ef2) rfl 2 (by decide) (hts _ z_616) (fun _ h9 => h9) rfl d_Walk_pushSlice_142 ?_
          refine lv_if_eq (tgt := 163) hx hb d_Walk_pushSlice_145 (by decide) (fun c145 => ?_) (fun c145 => ?_)
          · refine lv_iload_n hx hb d_Walk_pushSlice_163 rfl (lv_at hl 1 rfl) ?_
            refine lv_iconst (v := 1) hx hb d_Walk_pushSlice_164 (by decide) ?_
            refine lv_isub hx hb d_Walk_pushSlice_165 ?_
            refine lv_i2l (v := (((nI (szF f nd)) - 1)).toInt64) hx hb d_Walk_pushSlice_166 rfl ?_
            refine lv_lstore (lv' := [(6, .long ((((nI (szF f nd)) - 1)).toInt64)), (4, .long r13), (3, .int (nI (szF f nd))), (0, .ref wk), (1, .ref nd), (2, .ref sl)]) hx hb d_Walk_pushSlice_167 hl (by decide) rfl (fun ls hl => ?_)
            have hst : (-1 : Int) ≤ (r13 : Int64).toInt := h_r13.1
            have hi0 : (((((nI (szF f nd)) - 1)).toInt64) : Int64).toInt ≤ (szF f nd : Int) - 1 := (by rw [Int32.toInt_toInt64, nI_m1 hs]; exact Int.le_refl _)
            refine w_loop (D := (dC, dI)) (cl := classes) (A := A) (H0 := s.heap) (nL := 8) 169 (σ := Int64 × Nat × Nat × (Nat → Option Nat) × (Nat → Int64)) (fun ⟨i, t, s9, g, ν⟩ => i.toInt ≤ (szF f nd : Int) - 1 ∧ tp ≤ t ∧ sp ≤ s9 ∧ WI E t s9 g) (fun ⟨i, t, s9, g, ν⟩ => 10000 - s9) (fun ⟨i, t, s9, g, ν⟩ => [(wk, .inr (10, [.ref wl, .int (nI t), .int (nI s9), .ref rt])), (wl, .inl (cV, 10000, .inr (.inr (.inr (.inr g)))))] ++ va_pl L (pf f ν)) (fun ⟨i, t, s9, g, ν⟩ => [(0, .ref wk), (1, .ref nd), (2, .ref sl), (3, .int (nI (szF f nd))), (4, .long r13), (6, .long i)]) ?_ (((((nI (szF f nd)) - 1)).toInt64), tp, sp, g, ν) ⟨hi0, by show tp ≤ tp; omega, by show sp ≤ sp; omega, hW9⟩ hP hD hS (lv_sub hl [3, 4, 5, 2, 1, 0] rfl)
            rintro ⟨i, t, s9, g, ν⟩ H locs ls hI ih hP hD hS hl
            have hP : va_P (dC, dI) classes ([(wk, .inr (10, [.ref wl, .int (nI t), .int (nI s9), .ref rt])), (wl, .inl (cV, 10000, .inr (.inr (.inr (.inr g)))))] ++ va_pl L (pf f ν)) H := hP
            have hD : va_D A ([(wk, .inr (10, [.ref wl, .int (nI t), .int (nI s9), .ref rt])), (wl, .inl (cV, 10000, .inr (.inr (.inr (.inr g)))))] ++ va_pl L (pf f ν)) := hD
            have hl : lv_has ls 8 [(0, .ref wk), (1, .ref nd), (2, .ref sl), (3, .int (nI (szF f nd))), (4, .long r13), (6, .long i)] := hl
            obtain ⟨hI, hI1, hI2, hI3⟩ := hI
            have hI : i.toInt ≤ (szF f nd : Int) - 1 := hI
            have hI1 : tp ≤ t := hI1
            have hI2 : sp ≤ s9 := hI2
            have hI3 : WI E t s9 g := hI3
            have hhI31 := hI3.1
            have hhI32 := hI3.2.1
            refine lv_lload hx hb d_Walk_pushSlice_169 (lv_at hl 5 rfl) ?_
            refine lv_lload hx hb d_Walk_pushSlice_171 (lv_at hl 4 rfl) ?_
            refine W.lcmp hx hb d_Walk_pushSlice_173 ?_
            refine lv_if_le (tgt := 201) hx hb d_Walk_pushSlice_174 (by decide) (fun c174 => ?_) (fun c174 => ?_)
            · refine w_same (fun hq => ?_)
              refine W.widen (k := 1) (n := 6) (Nat.le_of_ble_eq_true rfl) (Nat.le_of_ble_eq_true rfl) ?_
              refine vx_ret ?_
              exact W.vret hx hb hr (fun t9 ht hW => ⟨⟨(t, s9, g, ν), rfl, ⟨by show tp ≤ t; omega, by show sp ≤ s9; omega, hI3⟩, ⟨by rw [ht]; exact hP, va_K.moved hW.alike hK, hD⟩, by rw [ht]; exact hq⟩, hS.F ht⟩) hS.2.2 d_Walk_pushSlice_201
            · have hlt := Int64.lt_iff_toInt_lt.mp (Int64.not_le.mp (fun h => c174 ((lg_cmp_le _ _).mpr h)))
              have hlt : (r13 : Int64).toInt < i.toInt := hlt
              obtain ⟨j, hj, ej⟩ := l_idx (x := i) (n := szF f nd) (by omega) (by omega) hs
              refine lv_aload_n hx hb d_Walk_pushSlice_177 rfl (lv_at hl 0 rfl) ?_
              refine lv_aload_n hx hb d_Walk_pushSlice_178 rfl (lv_at hl 1 rfl) ?_
              rcases me1 with _ | b14
              · exact absurd (PO.mem0 ef1) (by omega)
              · refine vq_get (D := (dC, dI)) (ci := 9) (v := .ref b14) (C := R_Value) (T := F_Value) (N := 10) hx hb hts in_Value hown hK hP (hO.inV (isF.v hnd)) (pf_V ef1) rfl 3 (by decide) (hts _ z_328) (fun _ h9 => h9) rfl d_Walk_pushSlice_179 ?_
                refine lv_lload hx hb d_Walk_pushSlice_182 (lv_at hl 5 rfl) ?_
                refine lv_l2i (v := i.toInt32) hx hb d_Walk_pushSlice_184 rfl ?_
                refine W.eq (g2 := F0 m 185 ls [.int (nI j), .ref b14, .ref wk]) (by rw [show (i.toInt32) = (nI j) from (by rw [ej]; exact lN_i j)]) ?_
                obtain ⟨g15, hi15, ef15, hg15⟩ := hO.mem1 ef1 hv1 (isF.n1 hnd)
                have hn15 := hO.szle ef1 hv1
                obtain ⟨me16, hm16, hf16, hnm16⟩ := hg15 j hj
                refine vq_aald hx hb hK hP 1 hi15 (pf_A ef15) rfl (j := j) hj hn15 hm16 d_Walk_pushSlice_185 ?_
                have hPc := hP.part (cx := [(wk, .inr (10, [.ref wl, .int (nI t), .int (nI s9), .ref rt])), (wl, .inl (cV, 10000, .inr (.inr (.inr (.inr g)))))]) [0, 1] rfl
                have hDc := hD.part (cx := [(wk, .inr (10, [.ref wl, .int (nI t), .int (nI s9), .ref rt])), (wl, .inl (cV, 10000, .inr (.inr (.inr (.inr g)))))]) [0, 1] (by decide) rfl
                have hFc := va_freeP (cx := [(wk, .inr (10, [.ref wl, .int (nI t), .int (nI s9), .ref rt])), (wl, .inl (cV, 10000, .inr (.inr (.inr (.inr g)))))]) hD hS hA [0, 1] rfl
                have hKc := hK.sub (tys' := [(cI, .int), (cV, .object "QueryBench$Value")]) [0, 1] rfl
                refine w_same (fun hq0 => ?_)
                refine vx_callv (vx_runV (As := [.ref me16]) (rest := []) ⟨hx, hb, hml, hown, hts⟩ (c_Walk_push l hl9 K dC dI H cI cV E lv L f hO hN1 wk wl rt hrt t s9 g ν hI3 me16 hf16) (cwV 1 hts (gt_V (own := R_Walk) (C := R_Walk) (i := 38) (y := y_Walk_push) i_Walk_push z_839 z_841 (gt_sel (y := y_Walk_push) (n := 4) (by decide +kernel)) w_5) rfl rfl rfl (by decide +kernel) ⟨Nat.le_of_ble_eq_true rfl, Nat.le_of_ble_eq_true rfl⟩) ⟨ml_blind, va_recv hK hP (ci := 10) (q0 := 0) rfl rfl, fun U hU hW => ⟨rfl, ⟨hU, by rw [hU]; exact hPc, va_K.moved hW.alike hKc, hDc.weaken (fun _ _ _ _ => trivial)⟩, hN.warm hW, by rw [hU]; exact ZX.moved' hW.alike (ZX.narrow' (ZX.kept' hZ hS.2.1) hFc), by rw [hU]; exact CE.call hC hS.2.1 hFc hW, va_AO.moved hW.alike hV⟩⟩ rfl rfl hl.1 rfl (lv_room (Nat.le_of_ble_eq_true rfl)) d_Walk_pushSlice_186 ⟨Nat.le_of_ble_eq_true rfl, Nat.le_of_ble_eq_true rfl⟩) hS (fun q _ h => hFc q h) hFc (fun q _ h => hFc q h) (fun En ce q9 ⟨tx, sx, gx, nx⟩ t9 H1 locs ht hvm hw hB hz1 hk1 hS hce hcv hcl => ?_) (fun ⟨t17, s17, g17, n17⟩ t9 H1 locs ht hvm hw hB hz1 hk1 hS => ?_)
                · obtain ⟨hEn, hP1, hK1, hD1⟩ := hB
                  rw [ht] at hP1
                  obtain ⟨hP, hD⟩ := va_joinP (wr := []) (rx := [(wk, .inr (10, [.ref wl, .int tx, .int sx, .ref rt])), (wl, .inl (cV, 10000, .inr (.inr (.inr (.inr gx)))))]) (pl1 := va_pl L (pf f nx)) hP hD [0, 1] [] rfl rfl (by decide) (by decide) hk1 hFc hP1 hD1
                  generalize H1 = H at hP hS hce ⊢
                  have hP : va_P (dC, dI) classes ([(wk, .inr (10, [.ref wl, .int tx, .int sx, .ref rt])), (wl, .inl (cV, 10000, .inr (.inr (.inr (.inr gx)))))] ++ va_pl L (pf f nx)) H := hP
                  have hD : va_D A ([(wk, .inr (10, [.ref wl, .int tx, .int sx, .ref rt])), (wl, .inl (cV, 10000, .inr (.inr (.inr (.inr gx)))))] ++ va_pl L (pf f nx)) := hD
                  exact vx_out (fun x hx => (hex x hx).elim) hlocks hce hcv hcl (fun t9 ht2 ha => ⟨(tx, sx, gx, nx), trivial, ⟨hEn, by rw [ht2]; exact hP, va_K.moved ha hK, hD⟩, hS.F ht2⟩) hS.2.2 (Nat.le_of_ble_eq_true rfl) (Nat.le_of_ble_eq_true rfl)
                · obtain ⟨⟨hP1, hK1, hD1⟩, hz9⟩ := hB
                  rw [ht] at hP1
                  rw [ht] at hz9
                  refine w_tight (hq0.trans hz9) ?_
                  have hq0 := hq0.trans hz9
                  obtain ⟨hP, hD⟩ := va_joinP (wr := []) (rx := [(wk, .inr (10, [.ref wl, .int (nI t17), .int (nI s17), .ref rt])), (wl, .inl (cV, 10000, .inr (.inr (.inr (.inr g17)))))]) (pl1 := va_pl L (pf f n17)) hP hD [0, 1] [] rfl rfl (by decide) (by decide) hk1 hFc hP1 hD1
                  generalize H1 = H at hP hS hq0 ⊢
                  have hP : va_P (dC, dI) classes ([(wk, .inr (10, [.ref wl, .int (nI t17), .int (nI s17), .ref rt])), (wl, .inl (cV, 10000, .inr (.inr (.inr (.inr g17)))))] ++ va_pl L (pf f n17)) H := hP
                  have hD : va_D A ([(wk, .inr (10, [.ref wl, .int (nI t17), .int (nI s17), .ref rt])), (wl, .inl (cV, 10000, .inr (.inr (.inr (.inr g17)))))] ++ va_pl L (pf f n17)) := hD
                  obtain ⟨ha17, hb17, hW17⟩ := hw
                  have ha17 : t17 = t + 1 := ha17
                  have hb17 : s17 = s9 + 1 := hb17
                  have hW17 : WI E t17 s17 g17 := hW17
                  have hhW171 := hW17.1
                  have hhW172 := hW17.2.1
                  refine lv_lload hx hb d_Walk_pushSlice_189 (lv_at hl 5 rfl) ?_
                  refine lv_aload_n hx hb d_Walk_pushSlice_191 rfl (lv_at hl 2 rfl) ?_
                  refine vq_get (D := (dC, dI)) (ci := 7) (v := .long se2) (C := R_Selector) (T := F_Selector) (N := 9) hx hb hts in_Selector hown hK hP (hO.inL (a := sl) (by rw [hsl]; decide)) (pf_L ef2) rfl 6 (by decide) (hts _ z_625) (fun _ h9 => h9) rfl d_Walk_pushSlice_192 ?_
                  refine lv_ladd hx hb d_Walk_pushSlice_195 ?_
                  refine lv_lstore (lv' := [(6, .long (i + se2)), (0, .ref wk), (1, .ref nd), (2, .ref sl), (3, .int (nI (szF f nd))), (4, .long r13)]) hx hb d_Walk_pushSlice_196 hl (by decide) rfl (fun ls hl => ?_)
                  refine lv_goto (tgt := 169) hx hb d_Walk_pushSlice_198 (by decide) ?_
                  have hse := Int64.le_iff_toInt_le.mp ((lg_cmp_le _ _).mp c29)
                  rw [show (0 : Int64).toInt = 0 from rfl] at hse
                  have hia : (i + se2).toInt = i.toInt + se2.toInt := l_add (by omega) (by omega) hv2.2.2.2.2.2.1 hv2.2.2.2.2.2.2
                  exact ih (i + se2, t17, s17, g17, n17) _ _ _ ⟨show (i + se2).toInt ≤ (szF f nd : Int) - 1 by omega, by show tp ≤ t17; omega, by show sp ≤ s17; omega, hW17⟩ (by show 10000 - s17 < 10000 - s9; omega) hP hD hS (lv_sub hl [1, 2, 3, 4, 5, 0] rfl)
          · refine lv_aload_n hx hb d_Walk_pushSlice_148 rfl (lv_at hl 4 rfl) ?_
            refine vq_get (D := (dC, dI)) (ci := 7) (v := .long st2) (C := R_Selector) (T := F_Selector) (N := 9) hx hb hts in_Selector hown hK hP (hO.inL (a := sl) (by rw [hsl]; decide)) (pf_L ef2) rfl 4 (by decide) (hts _ z_619) (fun _ h9 => h9) rfl d_Walk_pushSlice_149 ?_
            refine lv_iload_n hx hb d_Walk_pushSlice_152 rfl (lv_at hl 1 rfl) ?_
            refine lv_iconst (v := (-1)) hx hb d_Walk_pushSlice_153 (by decide) ?_
            refine lv_iload_n hx hb d_Walk_pushSlice_154 rfl (lv_at hl 1 rfl) ?_
            refine lv_iconst (v := 1) hx hb d_Walk_pushSlice_155 (by decide) ?_
            refine lv_isub hx hb d_Walk_pushSlice_156 ?_
            refine vp_callSl (va_Run.run (va_runS (As := [.long st2, .int (nI (szF f nd)), .int (-1), .int ((nI (szF f nd)) - 1)]) (rest := []) ⟨hx, hb, hml, hown, hts⟩ (c_Walk_cut l dC dI s.heap st2 (nI (szF f nd)) (-1) (nI (szF f nd) - 1) (cutD hs)) (va_cwS 4 hts (gt_S (own := R_Walk) (i := 134) (y := y_Walk_cut) i_Walk_cut z_883 z_884 w_5) rfl rfl rfl (by decide +kernel) ⟨Nat.le_of_ble_eq_true rfl, Nat.le_of_ble_eq_true rfl⟩) ⟨mT_blind, fun U hU hW => ⟨rfl, hN.warm hW⟩⟩ rfl rfl hl.1 rfl (lv_room (Nat.le_of_ble_eq_true rfl)) d_Walk_pushSlice_157 ⟨Nat.le_of_ble_eq_true rfl, Nat.le_of_ble_eq_true rfl⟩)) (fun r18 h_r18 => ?_)
            rw [nI_m1 hs] at h_r18
            refine lv_goto (tgt := 167) hx hb d_Walk_pushSlice_160 (by decide) ?_
            refine lv_lstore (lv' := [(6, .long r18), (4, .long r13), (3, .int (nI (szF f nd))), (0, .ref wk), (1, .ref nd), (2, .ref sl)]) hx hb d_Walk_pushSlice_167 hl (by decide) rfl (fun ls hl => ?_)
            have hst : (-1 : Int) ≤ (r13 : Int64).toInt := h_r13.1
            have hi0 : (r18 : Int64).toInt ≤ (szF f nd : Int) - 1 := h_r18.2
            refine w_loop (D := (dC, dI)) (cl := classes) (A := A) (H0 := s.heap) (nL := 8) 169 (σ := Int64 × Nat × Nat × (Nat → Option Nat) × (Nat → Int64)) (fun ⟨i, t, s9, g, ν⟩ => i.toInt ≤ (szF f nd : Int) - 1 ∧ tp ≤ t ∧ sp ≤ s9 ∧ WI E t s9 g) (fun ⟨i, t, s9, g, ν⟩ => 10000 - s9) (fun ⟨i, t, s9, g, ν⟩ => [(wk, .inr (10, [.ref wl, .int (nI t), .int (nI s9), .ref rt])), (wl, .inl (cV, 10000, .inr (.inr (.inr (.inr g)))))] ++ va_pl L (pf f ν)) (fun ⟨i, t, s9, g, ν⟩ => [(0, .ref wk), (1, .ref nd), (2, .ref sl), (3, .int (nI (szF f nd))), (4, .long r13), (6, .long i)]) ?_ (r18, tp, sp, g, ν) ⟨hi0, by show tp ≤ tp; omega, by show sp ≤ sp; omega, hW9⟩ hP hD hS (lv_sub hl [3, 4, 5, 2, 1, 0] rfl)
            rintro ⟨i, t, s9, g, ν⟩ H locs ls hI ih hP hD hS hl
            have hP : va_P (dC, dI) classes ([(wk, .inr (10, [.ref wl, .int (nI t), .int (nI s9), .ref rt])), (wl, .inl (cV, 10000, .inr (.inr (.inr (.inr g)))))] ++ va_pl L (pf f ν)) H := hP
            have hD : va_D A ([(wk, .inr (10, [.ref wl, .int (nI t), .int (nI s9), .ref rt])), (wl, .inl (cV, 10000, .inr (.inr (.inr (.inr g)))))] ++ va_pl L (pf f ν)) := hD
            have hl : lv_has ls 8 [(0, .ref wk), (1, .ref nd), (2, .ref sl), (3, .int (nI (szF f nd))), (4, .long r13), (6, .long i)] := hl
            obtain ⟨hI, hI1, hI2, hI3⟩ := hI
            have hI : i.toInt ≤ (szF f nd : Int) - 1 := hI
            have hI1 : tp ≤ t := hI1
            have hI2 : sp ≤ s9 := hI2
            have hI3 : WI E t s9 g := hI3
            have hhI31 := hI3.1
            have hhI32 := hI3.2.1
            refine lv_lload hx hb d_Walk_pushSlice_169 (lv_at hl 5 rfl) ?_
            refine lv_lload hx hb d_Walk_pushSlice_171 (lv_at hl 4 rfl) ?_
            refine W.lcmp hx hb d_Walk_pushSlice_173 ?_
            refine lv_if_le (tgt := 201) hx hb d_Walk_pushSlice_174 (by decide) (fun c174 => ?_) (fun c174 => ?_)
            · refine w_same (fun hq => ?_)
              refine W.widen (k := 1) (n := 6) (Nat.le_of_ble_eq_true rfl) (Nat.le_of_ble_eq_true rfl) ?_
              refine vx_ret ?_
              exact W.vret hx hb hr (fun t9 ht hW => ⟨⟨(t, s9, g, ν), rfl, ⟨by show tp ≤ t; omega, by show sp ≤ s9; omega, hI3⟩, ⟨by rw [ht]; exact hP, va_K.moved hW.alike hK, hD⟩, by rw [ht]; exact hq⟩, hS.F ht⟩) hS.2.2 d_Walk_pushSlice_201
            · have hlt := Int64.lt_iff_toInt_lt.mp (Int64.not_le.mp (fun h => c174 ((lg_cmp_le _ _).mpr h)))
              have hlt : (r13 : Int64).toInt < i.toInt := hlt
              obtain ⟨j, hj, ej⟩ := l_idx (x := i) (n := szF f nd) (by omega) (by omega) hs
              refine lv_aload_n hx hb d_Walk_pushSlice_177 rfl (lv_at hl 0 rfl) ?_
              refine lv_aload_n hx hb d_Walk_pushSlice_178 rfl (lv_at hl 1 rfl) ?_
              rcases me1 with _ | b19
              · exact absurd (PO.mem0 ef1) (by omega)
              · refine vq_get (D := (dC, dI)) (ci := 9) (v := .ref b19) (C := R_Value) (T := F_Value) (N := 10) hx hb hts in_Value hown hK hP (hO.inV (isF.v hnd)) (pf_V ef1) rfl 3 (by decide) (hts _ z_328) (fun _ h9 => h9) rfl d_Walk_pushSlice_179 ?_
                refine lv_lload hx hb d_Walk_pushSlice_182 (lv_at hl 5 rfl) ?_
                refine lv_l2i (v := i.toInt32) hx hb d_Walk_pushSlice_184 rfl ?_
                refine W.eq (g2 := F0 m 185 ls [.int (nI j), .ref b19, .ref wk]) (by rw [show (i.toInt32) = (nI j) from (by rw [ej]; exact lN_i j)]) ?_
                obtain ⟨g20, hi20, ef20, hg20⟩ := hO.mem1 ef1 hv1 (isF.n1 hnd)
                have hn20 := hO.szle ef1 hv1
                obtain ⟨me21, hm21, hf21, hnm21⟩ := hg20 j hj
                refine vq_aald hx hb hK hP 1 hi20 (pf_A ef20) rfl (j := j) hj hn20 hm21 d_Walk_pushSlice_185 ?_
                have hPc := hP.part (cx := [(wk, .inr (10, [.ref wl, .int (nI t), .int (nI s9), .ref rt])), (wl, .inl (cV, 10000, .inr (.inr (.inr (.inr g)))))]) [0, 1] rfl
                have hDc := hD.part (cx := [(wk, .inr (10, [.ref wl, .int (nI t), .int (nI s9), .ref rt])), (wl, .inl (cV, 10000, .inr (.inr (.inr (.inr g)))))]) [0, 1] (by decide) rfl
                have hFc := va_freeP (cx := [(wk, .inr (10, [.ref wl, .int (nI t), .int (nI s9), .ref rt])), (wl, .inl (cV, 10000, .inr (.inr (.inr (.inr g)))))]) hD hS hA [0, 1] rfl
                have hKc := hK.sub (tys' := [(cI, .int), (cV, .object "QueryBench$Value")]) [0, 1] rfl
                refine w_same (fun hq0 => ?_)
                refine vx_callv (vx_runV (As := [.ref me21]) (rest := []) ⟨hx, hb, hml, hown, hts⟩ (c_Walk_push l hl9 K dC dI H cI cV E lv L f hO hN1 wk wl rt hrt t s9 g ν hI3 me21 hf21) (cwV 1 hts (gt_V (own := R_Walk) (C := R_Walk) (i := 38) (y := y_Walk_push) i_Walk_push z_839 z_841 (gt_sel (y := y_Walk_push) (n := 4) (by decide +kernel)) w_5) rfl rfl rfl (by decide +kernel) ⟨Nat.le_of_ble_eq_true rfl, Nat.le_of_ble_eq_true rfl⟩) ⟨ml_blind, va_recv hK hP (ci := 10) (q0 := 0) rfl rfl, fun U hU hW => ⟨rfl, ⟨hU, by rw [hU]; exact hPc, va_K.moved hW.alike hKc, hDc.weaken (fun _ _ _ _ => trivial)⟩, hN.warm hW, by rw [hU]; exact ZX.moved' hW.alike (ZX.narrow' (ZX.kept' hZ hS.2.1) hFc), by rw [hU]; exact CE.call hC hS.2.1 hFc hW, va_AO.moved hW.alike hV⟩⟩ rfl rfl hl.1 rfl (lv_room (Nat.le_of_ble_eq_true rfl)) d_Walk_pushSlice_186 ⟨Nat.le_of_ble_eq_true rfl, Nat.le_of_ble_eq_true rfl⟩) hS (fun q _ h => hFc q h) hFc (fun q _ h => hFc q h) (fun En ce q9 ⟨tx, sx, gx, nx⟩ t9 H1 locs ht hvm hw hB hz1 hk1 hS hce hcv hcl => ?_) (fun ⟨t22, s22, g22, n22⟩ t9 H1 locs ht hvm hw hB hz1 hk1 hS => ?_)
                · obtain ⟨hEn, hP1, hK1, hD1⟩ := hB
                  rw [ht] at hP1
                  obtain ⟨hP, hD⟩ := va_joinP (wr := []) (rx := [(wk, .inr (10, [.ref wl, .int tx, .int sx, .ref rt])), (wl, .inl (cV, 10000, .inr (.inr (.inr (.inr gx)))))]) (pl1 := va_pl L (pf f nx)) hP hD [0, 1] [] rfl rfl (by decide) (by decide) hk1 hFc hP1 hD1
                  generalize H1 = H at hP hS hce ⊢
                  have hP : va_P (dC, dI) classes ([(wk, .inr (10, [.ref wl, .int tx, .int sx, .ref rt])), (wl, .inl (cV, 10000, .inr (.inr (.inr (.inr gx)))))] ++ va_pl L (pf f nx)) H := hP
                  have hD : va_D A ([(wk, .inr (10, [.ref wl, .int tx, .int sx, .ref rt])), (wl, .inl (cV, 10000, .inr (.inr (.inr (.inr gx)))))] ++ va_pl L (pf f nx)) := hD
                  exact vx_out (fun x hx => (hex x hx).elim) hlocks hce hcv hcl (fun t9 ht2 ha => ⟨(tx, sx, gx, nx), trivial, ⟨hEn, by rw [ht2]; exact hP, va_K.moved ha hK, hD⟩, hS.F ht2⟩) hS.2.2 (Nat.le_of_ble_eq_true rfl) (Nat.le_of_ble_eq_true rfl)
                · obtain ⟨⟨hP1, hK1, hD1⟩, hz9⟩ := hB
                  rw [ht] at hP1
                  rw [ht] at hz9
                  refine w_tight (hq0.trans hz9) ?_
                  have hq0 := hq0.trans hz9
                  obtain ⟨hP, hD⟩ := va_joinP (wr := []) (rx := [(wk, .inr (10, [.ref wl, .int (nI t22), .int (nI s22), .ref rt])), (wl, .inl (cV, 10000, .inr (.inr (.inr (.inr g22)))))]) (pl1 := va_pl L (pf f n22)) hP hD [0, 1] [] rfl rfl (by decide) (by decide) hk1 hFc hP1 hD1
                  generalize H1 = H at hP hS hq0 ⊢
                  have hP : va_P (dC, dI) classes ([(wk, .inr (10, [.ref wl, .int (nI t22), .int (nI s22), .ref rt])), (wl, .inl (cV, 10000, .inr (.inr (.inr (.inr g22)))))] ++ va_pl L (pf f n22)) H := hP
                  have hD : va_D A ([(wk, .inr (10, [.ref wl, .int (nI t22), .int (nI s22), .ref rt])), (wl, .inl (cV, 10000, .inr (.inr (.inr (.inr g22)))))] ++ va_pl L (pf f n22)) := hD
                  obtain ⟨ha22, hb22, hW22⟩ := hw
                  have ha22 : t22 = t + 1 := ha22
                  have hb22 : s22 = s9 + 1 := hb22
                  have hW22 : WI E t22 s22 g22 := hW22
                  have hhW221 := hW22.1
                  have hhW222 := hW22.2.1
                  refine lv_lload hx hb d_Walk_pushSlice_189 (lv_at hl 5 rfl) ?_
                  refine lv_aload_n hx hb d_Walk_pushSlice_191 rfl (lv_at hl 2 rfl) ?_
                  refine vq_get (D := (dC, dI)) (ci := 7) (v := .long se2) (C := R_Selector) (T := F_Selector) (N := 9) hx hb hts in_Selector hown hK hP (hO.inL (a := sl) (by rw [hsl]; decide)) (pf_L ef2) rfl 6 (by decide) (hts _ z_625) (fun _ h9 => h9) rfl d_Walk_pushSlice_192 ?_
                  refine lv_ladd hx hb d_Walk_pushSlice_195 ?_
                  refine lv_lstore (lv' := [(6, .long (i + se2)), (0, .ref wk), (1, .ref nd), (2, .ref sl), (3, .int (nI (szF f nd))), (4, .long r13)]) hx hb d_Walk_pushSlice_196 hl (by decide) rfl (fun ls hl => ?_)
                  refine lv_goto (tgt := 169) hx hb d_Walk_pushSlice_198 (by decide) ?_
                  have hse := Int64.le_iff_toInt_le.mp ((lg_cmp_le _ _).mp c29)
                  rw [show (0 : Int64).toInt = 0 from rfl] at hse
                  have hia : (i + se2).toInt = i.toInt + se2.toInt := l_add (by omega) (by omega) hv2.2.2.2.2.2.1 hv2.2.2.2.2.2.2
                  exact ih (i + se2, t22, s22, g22, n22) _ _ _ ⟨show (i + se2).toInt ≤ (szF f nd : Int) - 1 by omega, by show tp ≤ t22; omega, by show sp ≤ s22; omega, hW22⟩ (by show 10000 - s22 < 10000 - s9; omega) hP hD hS (lv_sub hl [1, 2, 3, 4, 5, 0] rfl)
      · refine lv_aload_n hx hb d_Walk_pushSlice_32 rfl (lv_at hl 3 rfl) ?_
        refine vq_get (D := (dC, dI)) (ci := 7) (v := .int ht2) (C := R_Selector) (T := F_Selector) (N := 9) hx hb hts in_Selector hown hK hP (hO.inL (a := sl) (by rw [hsl]; decide)) (pf_L ef2) rfl 3 (by decide) (hts _ z_618) (fun _ h9 => h9) rfl d_Walk_pushSlice_33 ?_
        refine lv_if_eq (tgt := 52) hx hb d_Walk_pushSlice_36 (by decide) (fun c36 => ?_) (fun c36 => ?_)
        · refine lv_iload_n hx hb d_Walk_pushSlice_52 rfl (lv_at hl 0 rfl) ?_
          refine lv_i2l (v := ((nI (szF f nd))).toInt64) hx hb d_Walk_pushSlice_53 rfl ?_
          refine lv_lstore (lv' := [(4, .long (((nI (szF f nd))).toInt64)), (3, .int (nI (szF f nd))), (0, .ref wk), (1, .ref nd), (2, .ref sl)]) hx hb d_Walk_pushSlice_54 hl (by decide) rfl (fun ls hl => ?_)
          refine lv_aload_n hx hb d_Walk_pushSlice_56 rfl (lv_at hl 4 rfl) ?_
          refine vq_get (D := (dC, dI)) (ci := 7) (v := .int hs2) (C := R_Selector) (T := F_Selector) (N := 9) hx hb hts in_Selector hown hK hP (hO.inL (a := sl) (by rw [hsl]; decide)) (pf_L ef2) rfl 2 (by decide) (hts _ z_616) (fun _ h9 => h9) rfl d_Walk_pushSlice_57 ?_
          refine lv_if_eq (tgt := 76) hx hb d_Walk_pushSlice_60 (by decide) (fun c60 => ?_) (fun c60 => ?_)
          · refine lv_lconst (v := 0) hx hb d_Walk_pushSlice_76 (by decide) ?_
            refine lv_lstore (lv' := [(6, .long 0), (4, .long (((nI (szF f nd))).toInt64)), (3, .int (nI (szF f nd))), (0, .ref wk), (1, .ref nd), (2, .ref sl)]) hx hb d_Walk_pushSlice_77 hl (by decide) rfl (fun ls hl => ?_)
            have hst : ((((nI (szF f nd))).toInt64) : Int64).toInt ≤ (szF f nd : Int) := (by rw [i64_nI hs]; exact Int.le_refl _)
            have hi0 : (0 : Int) ≤ (0 : Int64).toInt := (by decide)
            refine w_loop (D := (dC, dI)) (cl := classes) (A := A) (H0 := s.heap) (nL := 8) 79 (σ := Int64 × Nat × Nat × (Nat → Option Nat) × (Nat → Int64)) (fun ⟨i, t, s9, g, ν⟩ => 0 ≤ i.toInt ∧ tp ≤ t ∧ sp ≤ s9 ∧ WI E t s9 g) (fun ⟨i, t, s9, g, ν⟩ => 10000 - s9) (fun ⟨i, t, s9, g, ν⟩ => [(wk, .inr (10, [.ref wl, .int (nI t), .int (nI s9), .ref rt])), (wl, .inl (cV, 10000, .inr (.inr (.inr (.inr g)))))] ++ va_pl L (pf f ν)) (fun ⟨i, t, s9, g, ν⟩ => [(0, .ref wk), (1, .ref nd), (2, .ref sl), (3, .int (nI (szF f nd))), (4, .long (((nI (szF f nd))).toInt64)), (6, .long i)]) ?_ (0, tp, sp, g, ν) ⟨hi0, by show tp ≤ tp; omega, by show sp ≤ sp; omega, hW9⟩ hP hD hS (lv_sub hl [3, 4, 5, 2, 1, 0] rfl)
            rintro ⟨i, t, s9, g, ν⟩ H locs ls hI ih hP hD hS hl
            have hP : va_P (dC, dI) classes ([(wk, .inr (10, [.ref wl, .int (nI t), .int (nI s9), .ref rt])), (wl, .inl (cV, 10000, .inr (.inr (.inr (.inr g)))))] ++ va_pl L (pf f ν)) H := hP
            have hD : va_D A ([(wk, .inr (10, [.ref wl, .int (nI t), .int (nI s9), .ref rt])), (wl, .inl (cV, 10000, .inr (.inr (.inr (.inr g)))))] ++ va_pl L (pf f ν)) := hD
            have hl : lv_has ls 8 [(0, .ref wk), (1, .ref nd), (2, .ref sl), (3, .int (nI (szF f nd))), (4, .long (((nI (szF f nd))).toInt64)), (6, .long i)] := hl
            obtain ⟨hI, hI1, hI2, hI3⟩ := hI
            have hI : 0 ≤ i.toInt := hI
            have hI1 : tp ≤ t := hI1
            have hI2 : sp ≤ s9 := hI2
            have hI3 : WI E t s9 g := hI3
            have hhI31 := hI3.1
            have hhI32 := hI3.2.1
            refine lv_lload hx hb d_Walk_pushSlice_79 (lv_at hl 5 rfl) ?_
            refine lv_lload hx hb d_Walk_pushSlice_81 (lv_at hl 4 rfl) ?_
            refine W.lcmp hx hb d_Walk_pushSlice_83 ?_
            refine lv_if_ge (tgt := 111) hx hb d_Walk_pushSlice_84 (by decide) (fun c84 => ?_) (fun c84 => ?_)
            · refine lv_goto (tgt := 201) hx hb d_Walk_pushSlice_111 (by decide) ?_
              refine w_same (fun hq => ?_)
              refine W.widen (k := 1) (n := 6) (Nat.le_of_ble_eq_true rfl) (Nat.le_of_ble_eq_true rfl) ?_
              refine vx_ret ?_
              exact W.vret hx hb hr (fun t9 ht hW => ⟨⟨(t, s9, g, ν), rfl, ⟨by show tp ≤ t; omega, by show sp ≤ s9; omega, hI3⟩, ⟨by rw [ht]; exact hP, va_K.moved hW.alike hK, hD⟩, by rw [ht]; exact hq⟩, hS.F ht⟩) hS.2.2 d_Walk_pushSlice_201
            · have hlt := Int64.lt_iff_toInt_lt.mp (Int64.not_le.mp (fun h => c84 ((lg_cmp_ge _ _).mpr h)))
              have hlt : i.toInt < ((((nI (szF f nd))).toInt64) : Int64).toInt := hlt
              obtain ⟨j, hj, ej⟩ := l_idx (x := i) (n := szF f nd) (by omega) (by omega) hs
              refine lv_aload_n hx hb d_Walk_pushSlice_87 rfl (lv_at hl 0 rfl) ?_
              refine lv_aload_n hx hb d_Walk_pushSlice_88 rfl (lv_at hl 1 rfl) ?_
              rcases me1 with _ | b23
              · exact absurd (PO.mem0 ef1) (by omega)
              · refine vq_get (D := (dC, dI)) (ci := 9) (v := .ref b23) (C := R_Value) (T := F_Value) (N := 10) hx hb hts in_Value hown hK hP (hO.inV (isF.v hnd)) (pf_V ef1) rfl 3 (by decide) (hts _ z_328) (fun _ h9 => h9) rfl d_Walk_pushSlice_89 ?_
                refine lv_lload hx hb d_Walk_pushSlice_92 (lv_at hl 5 rfl) ?_
                refine lv_l2i (v := i.toInt32) hx hb d_Walk_pushSlice_94 rfl ?_
                refine W.eq (g2 := F0 m 95 ls [.int (nI j), .ref b23, .ref wk]) (by rw [show (i.toInt32) = (nI j) from (by rw [ej]; exact lN_i j)]) ?_
                obtain ⟨g24, hi24, ef24, hg24⟩ := hO.mem1 ef1 hv1 (isF.n1 hnd)
                have hn24 := hO.szle ef1 hv1
                obtain ⟨me25, hm25, hf25, hnm25⟩ := hg24 j hj
                refine vq_aald hx hb hK hP 1 hi24 (pf_A ef24) rfl (j := j) hj hn24 hm25 d_Walk_pushSlice_95 ?_
                have hPc := hP.part (cx := [(wk, .inr (10, [.ref wl, .int (nI t), .int (nI s9), .ref rt])), (wl, .inl (cV, 10000, .inr (.inr (.inr (.inr g)))))]) [0, 1] rfl
                have hDc := hD.part (cx := [(wk, .inr (10, [.ref wl, .int (nI t), .int (nI s9), .ref rt])), (wl, .inl (cV, 10000, .inr (.inr (.inr (.inr g)))))]) [0, 1] (by decide) rfl
                have hFc := va_freeP (cx := [(wk, .inr (10, [.ref wl, .int (nI t), .int (nI s9), .ref rt])), (wl, .inl (cV, 10000, .inr (.inr (.inr (.inr g)))))]) hD hS hA [0, 1] rfl
                have hKc := hK.sub (tys' := [(cI, .int), (cV, .object "QueryBench$Value")]) [0, 1] rfl
                refine w_same (fun hq0 => ?_)
                refine vx_callv (vx_runV (As := [.ref me25]) (rest := []) ⟨hx, hb, hml, hown, hts⟩ (c_Walk_push l hl9 K dC dI H cI cV E lv L f hO hN1 wk wl rt hrt t s9 g ν hI3 me25 hf25) (cwV 1 hts (gt_V (own := R_Walk) (C := R_Walk) (i := 38) (y := y_Walk_push) i_Walk_push z_839 z_841 (gt_sel (y := y_Walk_push) (n := 4) (by decide +kernel)) w_5) rfl rfl rfl (by decide +kernel) ⟨Nat.le_of_ble_eq_true rfl, Nat.le_of_ble_eq_true rfl⟩) ⟨ml_blind, va_recv hK hP (ci := 10) (q0 := 0) rfl rfl, fun U hU hW => ⟨rfl, ⟨hU, by rw [hU]; exact hPc, va_K.moved hW.alike hKc, hDc.weaken (fun _ _ _ _ => trivial)⟩, hN.warm hW, by rw [hU]; exact ZX.moved' hW.alike (ZX.narrow' (ZX.kept' hZ hS.2.1) hFc), by rw [hU]; exact CE.call hC hS.2.1 hFc hW, va_AO.moved hW.alike hV⟩⟩ rfl rfl hl.1 rfl (lv_room (Nat.le_of_ble_eq_true rfl)) d_Walk_pushSlice_96 ⟨Nat.le_of_ble_eq_true rfl, Nat.le_of_ble_eq_true rfl⟩) hS (fun q _ h => hFc q h) hFc (fun q _ h => hFc q h) (fun En ce q9 ⟨tx, sx, gx, nx⟩ t9 H1 locs ht hvm hw hB hz1 hk1 hS hce hcv hcl => ?_) (fun ⟨t26, s26, g26, n26⟩ t9 H1 locs ht hvm hw hB hz1 hk1 hS => ?_)
                · obtain ⟨hEn, hP1, hK1, hD1⟩ := hB
                  rw [ht] at hP1
                  obtain ⟨hP, hD⟩ := va_joinP (wr := []) (rx := [(wk, .inr (10, [.ref wl, .int tx, .int sx, .ref rt])), (wl, .inl (cV, 10000, .inr (.inr (.inr (.inr gx)))))]) (pl1 := va_pl L (pf f nx)) hP hD [0, 1] [] rfl rfl (by decide) (by decide) hk1 hFc hP1 hD1
                  generalize H1 = H at hP hS hce ⊢
                  have hP : va_P (dC, dI) classes ([(wk, .inr (10, [.ref wl, .int tx, .int sx, .ref rt])), (wl, .inl (cV, 10000, .inr (.inr (.inr (.inr gx)))))] ++ va_pl L (pf f nx)) H := hP
                  have hD : va_D A ([(wk, .inr (10, [.ref wl, .int tx, .int sx, .ref rt])), (wl, .inl (cV, 10000, .inr (.inr (.inr (.inr gx)))))] ++ va_pl L (pf f nx)) := hD
                  exact vx_out (fun x hx => (hex x hx).elim) hlocks hce hcv hcl (fun t9 ht2 ha => ⟨(tx, sx, gx, nx), trivial, ⟨hEn, by rw [ht2]; exact hP, va_K.moved ha hK, hD⟩, hS.F ht2⟩) hS.2.2 (Nat.le_of_ble_eq_true rfl) (Nat.le_of_ble_eq_true rfl)
                · obtain ⟨⟨hP1, hK1, hD1⟩, hz9⟩ := hB
                  rw [ht] at hP1
                  rw [ht] at hz9
                  refine w_tight (hq0.trans hz9) ?_
                  have hq0 := hq0.trans hz9
                  obtain ⟨hP, hD⟩ := va_joinP (wr := []) (rx := [(wk, .inr (10, [.ref wl, .int (nI t26), .int (nI s26), .ref rt])), (wl, .inl (cV, 10000, .inr (.inr (.inr (.inr g26)))))]) (pl1 := va_pl L (pf f n26)) hP hD [0, 1] [] rfl rfl (by decide) (by decide) hk1 hFc hP1 hD1
                  generalize H1 = H at hP hS hq0 ⊢
                  have hP : va_P (dC, dI) classes ([(wk, .inr (10, [.ref wl, .int (nI t26), .int (nI s26), .ref rt])), (wl, .inl (cV, 10000, .inr (.inr (.inr (.inr g26)))))] ++ va_pl L (pf f n26)) H := hP
                  have hD : va_D A ([(wk, .inr (10, [.ref wl, .int (nI t26), .int (nI s26), .ref rt])), (wl, .inl (cV, 10000, .inr (.inr (.inr (.inr g26)))))] ++ va_pl L (pf f n26)) := hD
                  obtain ⟨ha26, hb26, hW26⟩ := hw
                  have ha26 : t26 = t + 1 := ha26
                  have hb26 : s26 = s9 + 1 := hb26
                  have hW26 : WI E t26 s26 g26 := hW26
                  have hhW261 := hW26.1
                  have hhW262 := hW26.2.1
                  refine lv_lload hx hb d_Walk_pushSlice_99 (lv_at hl 5 rfl) ?_
                  refine lv_aload_n hx hb d_Walk_pushSlice_101 rfl (lv_at hl 2 rfl) ?_
                  refine vq_get (D := (dC, dI)) (ci := 7) (v := .long se2) (C := R_Selector) (T := F_Selector) (N := 9) hx hb hts in_Selector hown hK hP (hO.inL (a := sl) (by rw [hsl]; decide)) (pf_L ef2) rfl 6 (by decide) (hts _ z_625) (fun _ h9 => h9) rfl d_Walk_pushSlice_102 ?_
                  refine lv_ladd hx hb d_Walk_pushSlice_105 ?_
                  refine lv_lstore (lv' := [(6, .long (i + se2)), (0, .ref wk), (1, .ref nd), (2, .ref sl), (3, .int (nI (szF f nd))), (4, .long (((nI (szF f nd))).toInt64))]) hx hb d_Walk_pushSlice_106 hl (by decide) rfl (fun ls hl => ?_)
                  refine lv_goto (tgt := 79) hx hb d_Walk_pushSlice_108 (by decide) ?_
                  have hse := Int64.lt_iff_toInt_lt.mp (Int64.not_le.mp (fun h => c29 ((lg_cmp_le _ _).mpr h)))
                  rw [show (0 : Int64).toInt = 0 from rfl] at hse
                  have hia : (i + se2).toInt = i.toInt + se2.toInt := l_add (by omega) (by omega) hv2.2.2.2.2.2.1 hv2.2.2.2.2.2.2
                  exact ih (i + se2, t26, s26, g26, n26) _ _ _ ⟨show 0 ≤ (i + se2).toInt by omega, by show tp ≤ t26; omega, by show sp ≤ s26; omega, hW26⟩ (by show 10000 - s26 < 10000 - s9; omega) hP hD hS (lv_sub hl [1, 2, 3, 4, 5, 0] rfl)
          · refine lv_aload_n hx hb d_Walk_pushSlice_63 rfl (lv_at hl 4 rfl) ?_
            refine vq_get (D := (dC, dI)) (ci := 7) (v := .long st2) (C := R_Selector) (T := F_Selector) (N := 9) hx hb hts in_Selector hown hK hP (hO.inL (a := sl) (by rw [hsl]; decide)) (pf_L ef2) rfl 4 (by decide) (hts _ z_619) (fun _ h9 => h9) rfl d_Walk_pushSlice_64 ?_
            refine lv_iload_n hx hb d_Walk_pushSlice_67 rfl (lv_at hl 1 rfl) ?_
            refine lv_iconst (v := 0) hx hb d_Walk_pushSlice_68 (by decide) ?_
            refine lv_iload_n hx hb d_Walk_pushSlice_69 rfl (lv_at hl 1 rfl) ?_
            refine vp_callSl (va_Run.run (va_runS (As := [.long st2, .int (nI (szF f nd)), .int 0, .int (nI (szF f nd))]) (rest := []) ⟨hx, hb, hml, hown, hts⟩ (c_Walk_cut l dC dI s.heap st2 (nI (szF f nd)) 0 (nI (szF f nd)) (cutU hs)) (va_cwS 4 hts (gt_S (own := R_Walk) (i := 134) (y := y_Walk_cut) i_Walk_cut z_883 z_884 w_5) rfl rfl rfl (by decide +kernel) ⟨Nat.le_of_ble_eq_true rfl, Nat.le_of_ble_eq_true rfl⟩) ⟨mT_blind, fun U hU hW => ⟨rfl, hN.warm hW⟩⟩ rfl rfl hl.1 rfl (lv_room (Nat.le_of_ble_eq_true rfl)) d_Walk_pushSlice_70 ⟨Nat.le_of_ble_eq_true rfl, Nat.le_of_ble_eq_true rfl⟩)) (fun r27 h_r27 => ?_)
            rw [nI_toInt (by omega)] at h_r27
            refine lv_goto (tgt := 77) hx hb d_Walk_pushSlice_73 (by decide) ?_
            refine lv_lstore (lv' := [(6, .long r27), (4, .long (((nI (szF f nd))).toInt64)), (3, .int (nI (szF f nd))), (0, .ref wk), (1, .ref nd), (2, .ref sl)]) hx hb d_Walk_pushSlice_77 hl (by decide) rfl (fun ls hl => ?_)
            have hst : ((((nI (szF f nd))).toInt64) : Int64).toInt ≤ (szF f nd : Int) := (by rw [i64_nI hs]; exact Int.le_refl _)
            have hi0 : (0 : Int) ≤ (r27 : Int64).toInt := h_r27.1
            refine w_loop (D := (dC, dI)) (cl := classes) (A := A) (H0 := s.heap) (nL := 8) 79 (σ := Int64 × Nat × Nat × (Nat → Option Nat) × (Nat → Int64)) (fun ⟨i, t, s9, g, ν⟩ => 0 ≤ i.toInt ∧ tp ≤ t ∧ sp ≤ s9 ∧ WI E t s9 g) (fun ⟨i, t, s9, g, ν⟩ => 10000 - s9) (fun ⟨i, t, s9, g, ν⟩ => [(wk, .inr (10, [.ref wl, .int (nI t), .int (nI s9), .ref rt])), (wl, .inl (cV, 10000, .inr (.inr (.inr (.inr g)))))] ++ va_pl L (pf f ν)) (fun ⟨i, t, s9, g, ν⟩ => [(0, .ref wk), (1, .ref nd), (2, .ref sl), (3, .int (nI (szF f nd))), (4, .long (((nI (szF f nd))).toInt64)), (6, .long i)]) ?_ (r27, tp, sp, g, ν) ⟨hi0, by show tp ≤ tp; omega, by show sp ≤ sp; omega, hW9⟩ hP hD hS (lv_sub hl [3, 4, 5, 2, 1, 0] rfl)
            rintro ⟨i, t, s9, g, ν⟩ H locs ls hI ih hP hD hS hl
            have hP : va_P (dC, dI) classes ([(wk, .inr (10, [.ref wl, .int (nI t), .int (nI s9), .ref rt])), (wl, .inl (cV, 10000, .inr (.inr (.inr (.inr g)))))] ++ va_pl L (pf f ν)) H := hP
            have hD : va_D A ([(wk, .inr (10, [.ref wl, .int (nI t), .int (nI s9), .ref rt])), (wl, .inl (cV, 10000, .inr (.inr (.inr (.inr g)))))] ++ va_pl L (pf f ν)) := hD
            have hl : lv_has ls 8 [(0, .ref wk), (1, .ref nd), (2, .ref sl), (3, .int (nI (szF f nd))), (4, .long (((nI (szF f nd))).toInt64)), (6, .long i)] := hl
            obtain ⟨hI, hI1, hI2, hI3⟩ := hI
            have hI : 0 ≤ i.toInt := hI
            have hI1 : tp ≤ t := hI1
            have hI2 : sp ≤ s9 := hI2
            have hI3 : WI E t s9 g := hI3
            have hhI31 := hI3.1
            have hhI32 := hI3.2.1
            refine lv_lload hx hb d_Walk_pushSlice_79 (lv_at hl 5 rfl) ?_
            refine lv_lload hx hb d_Walk_pushSlice_81 (lv_at hl 4 rfl) ?_
            refine W.lcmp hx hb d_Walk_pushSlice_83 ?_
            refine lv_if_ge (tgt := 111) hx hb d_Walk_pushSlice_84 (by decide) (fun c84 => ?_) (fun c84 => ?_)
            · refine lv_goto (tgt := 201) hx hb d_Walk_pushSlice_111 (by decide) ?_
              refine w_same (fun hq => ?_)
              refine W.widen (k := 1) (n := 6) (Nat.le_of_ble_eq_true rfl) (Nat.le_of_ble_eq_true rfl) ?_
              refine vx_ret ?_
              exact W.vret hx hb hr (fun t9 ht hW => ⟨⟨(t, s9, g, ν), rfl, ⟨by show tp ≤ t; omega, by show sp ≤ s9; omega, hI3⟩, ⟨by rw [ht]; exact hP, va_K.moved hW.alike hK, hD⟩, by rw [ht]; exact hq⟩, hS.F ht⟩) hS.2.2 d_Walk_pushSlice_201
            · have hlt := Int64.lt_iff_toInt_lt.mp (Int64.not_le.mp (fun h => c84 ((lg_cmp_ge _ _).mpr h)))
              have hlt : i.toInt < ((((nI (szF f nd))).toInt64) : Int64).toInt := hlt
              obtain ⟨j, hj, ej⟩ := l_idx (x := i) (n := szF f nd) (by omega) (by omega) hs
              refine lv_aload_n hx hb d_Walk_pushSlice_87 rfl (lv_at hl 0 rfl) ?_
              refine lv_aload_n hx hb d_Walk_pushSlice_88 rfl (lv_at hl 1 rfl) ?_
              rcases me1 with _ | b28
              · exact absurd (PO.mem0 ef1) (by omega)
              · refine vq_get (D := (dC, dI)) (ci := 9) (v := .ref b28) (C := R_Value) (T := F_Value) (N := 10) hx hb hts in_Value hown hK hP (hO.inV (isF.v hnd)) (pf_V ef1) rfl 3 (by decide) (hts _ z_328) (fun _ h9 => h9) rfl d_Walk_pushSlice_89 ?_
                refine lv_lload hx hb d_Walk_pushSlice_92 (lv_at hl 5 rfl) ?_
                refine lv_l2i (v := i.toInt32) hx hb d_Walk_pushSlice_94 rfl ?_
                refine W.eq (g2 := F0 m 95 ls [.int (nI j), .ref b28, .ref wk]) (by rw [show (i.toInt32) = (nI j) from (by rw [ej]; exact lN_i j)]) ?_
                obtain ⟨g29, hi29, ef29, hg29⟩ := hO.mem1 ef1 hv1 (isF.n1 hnd)
                have hn29 := hO.szle ef1 hv1
                obtain ⟨me30, hm30, hf30, hnm30⟩ := hg29 j hj
                refine vq_aald hx hb hK hP 1 hi29 (pf_A ef29) rfl (j := j) hj hn29 hm30 d_Walk_pushSlice_95 ?_
                have hPc := hP.part (cx := [(wk, .inr (10, [.ref wl, .int (nI t), .int (nI s9), .ref rt])), (wl, .inl (cV, 10000, .inr (.inr (.inr (.inr g)))))]) [0, 1] rfl
                have hDc := hD.part (cx := [(wk, .inr (10, [.ref wl, .int (nI t), .int (nI s9), .ref rt])), (wl, .inl (cV, 10000, .inr (.inr (.inr (.inr g)))))]) [0, 1] (by decide) rfl
                have hFc := va_freeP (cx := [(wk, .inr (10, [.ref wl, .int (nI t), .int (nI s9), .ref rt])), (wl, .inl (cV, 10000, .inr (.inr (.inr (.inr g)))))]) hD hS hA [0, 1] rfl
                have hKc := hK.sub (tys' := [(cI, .int), (cV, .object "QueryBench$Value")]) [0, 1] rfl
                refine w_same (fun hq0 => ?_)
                refine vx_callv (vx_runV (As := [.ref me30]) (rest := []) ⟨hx, hb, hml, hown, hts⟩ (c_Walk_push l hl9 K dC dI H cI cV E lv L f hO hN1 wk wl rt hrt t s9 g ν hI3 me30 hf30) (cwV 1 hts (gt_V (own := R_Walk) (C := R_Walk) (i := 38) (y := y_Walk_push) i_Walk_push z_839 z_841 (gt_sel (y := y_Walk_push) (n := 4) (by decide +kernel)) w_5) rfl rfl rfl (by decide +kernel) ⟨Nat.le_of_ble_eq_true rfl, Nat.le_of_ble_eq_true rfl⟩) ⟨ml_blind, va_recv hK hP (ci := 10) (q0 := 0) rfl rfl, fun U hU hW => ⟨rfl, ⟨hU, by rw [hU]; exact hPc, va_K.moved hW.alike hKc, hDc.weaken (fun _ _ _ _ => trivial)⟩, hN.warm hW, by rw [hU]; exact ZX.moved' hW.alike (ZX.narrow' (ZX.kept' hZ hS.2.1) hFc), by rw [hU]; exact CE.call hC hS.2.1 hFc hW, va_AO.moved hW.alike hV⟩⟩ rfl rfl hl.1 rfl (lv_room (Nat.le_of_ble_eq_true rfl)) d_Walk_pushSlice_96 ⟨Nat.le_of_ble_eq_true rfl, Nat.le_of_ble_eq_true rfl⟩) hS (fun q _ h => hFc q h) hFc (fun q _ h => hFc q h) (fun En ce q9 ⟨tx, sx, gx, nx⟩ t9 H1 locs ht hvm hw hB hz1 hk1 hS hce hcv hcl => ?_) (fun ⟨t31, s31, g31, n31⟩ t9 H1 locs ht hvm hw hB hz1 hk1 hS => ?_)
                · obtain ⟨hEn, hP1, hK1, hD1⟩ := hB
                  rw [ht] at hP1
                  obtain ⟨hP, hD⟩ := va_joinP (wr := []) (rx := [(wk, .inr (10, [.ref wl, .int tx, .int sx, .ref rt])), (wl, .inl (cV, 10000, .inr (.inr (.inr (.inr gx)))))]) (pl1 := va_pl L (pf f nx)) hP hD [0, 1] [] rfl rfl (by decide) (by decide) hk1 hFc hP1 hD1
                  generalize H1 = H at hP hS hce ⊢
                  have hP : va_P (dC, dI) classes ([(wk, .inr (10, [.ref wl, .int tx, .int sx, .ref rt])), (wl, .inl (cV, 10000, .inr (.inr (.inr (.inr gx)))))] ++ va_pl L (pf f nx)) H := hP
                  have hD : va_D A ([(wk, .inr (10, [.ref wl, .int tx, .int sx, .ref rt])), (wl, .inl (cV, 10000, .inr (.inr (.inr (.inr gx)))))] ++ va_pl L (pf f nx)) := hD
                  exact vx_out (fun x hx => (hex x hx).elim) hlocks hce hcv hcl (fun t9 ht2 ha => ⟨(tx, sx, gx, nx), trivial, ⟨hEn, by rw [ht2]; exact hP, va_K.moved ha hK, hD⟩, hS.F ht2⟩) hS.2.2 (Nat.le_of_ble_eq_true rfl) (Nat.le_of_ble_eq_true rfl)
                · obtain ⟨⟨hP1, hK1, hD1⟩, hz9⟩ := hB
                  rw [ht] at hP1
                  rw [ht] at hz9
                  refine w_tight (hq0.trans hz9) ?_
                  have hq0 := hq0.trans hz9
                  obtain ⟨hP, hD⟩ := va_joinP (wr := []) (rx := [(wk, .inr (10, [.ref wl, .int (nI t31), .int (nI s31), .ref rt])), (wl, .inl (cV, 10000, .inr (.inr (.inr (.inr g31)))))]) (pl1 := va_pl L (pf f n31)) hP hD [0, 1] [] rfl rfl (by decide) (by decide) hk1 hFc hP1 hD1
                  generalize H1 = H at hP hS hq0 ⊢
                  have hP : va_P (dC, dI) classes ([(wk, .inr (10, [.ref wl, .int (nI t31), .int (nI s31), .ref rt])), (wl, .inl (cV, 10000, .inr (.inr (.inr (.inr g31)))))] ++ va_pl L (pf f n31)) H := hP
                  have hD : va_D A ([(wk, .inr (10, [.ref wl, .int (nI t31), .int (nI s31), .ref rt])), (wl, .inl (cV, 10000, .inr (.inr (.inr (.inr g31)))))] ++ va_pl L (pf f n31)) := hD
                  obtain ⟨ha31, hb31, hW31⟩ := hw
                  have ha31 : t31 = t + 1 := ha31
                  have hb31 : s31 = s9 + 1 := hb31
                  have hW31 : WI E t31 s31 g31 := hW31
                  have hhW311 := hW31.1
                  have hhW312 := hW31.2.1
                  refine lv_lload hx hb d_Walk_pushSlice_99 (lv_at hl 5 rfl) ?_
                  refine lv_aload_n hx hb d_Walk_pushSlice_101 rfl (lv_at hl 2 rfl) ?_
                  refine vq_get (D := (dC, dI)) (ci := 7) (v := .long se2) (C := R_Selector) (T := F_Selector) (N := 9) hx hb hts in_Selector hown hK hP (hO.inL (a := sl) (by rw [hsl]; decide)) (pf_L ef2) rfl 6 (by decide) (hts _ z_625) (fun _ h9 => h9) rfl d_Walk_pushSlice_102 ?_
                  refine lv_ladd hx hb d_Walk_pushSlice_105 ?_
                  refine lv_lstore (lv' := [(6, .long (i + se2)), (0, .ref wk), (1, .ref nd), (2, .ref sl), (3, .int (nI (szF f nd))), (4, .long (((nI (szF f nd))).toInt64))]) hx hb d_Walk_pushSlice_106 hl (by decide) rfl (fun ls hl => ?_)
                  refine lv_goto (tgt := 79) hx hb d_Walk_pushSlice_108 (by decide) ?_
                  have hse := Int64.lt_iff_toInt_lt.mp (Int64.not_le.mp (fun h => c29 ((lg_cmp_le _ _).mpr h)))
                  rw [show (0 : Int64).toInt = 0 from rfl] at hse
                  have hia : (i + se2).toInt = i.toInt + se2.toInt := l_add (by omega) (by omega) hv2.2.2.2.2.2.1 hv2.2.2.2.2.2.2
                  exact ih (i + se2, t31, s31, g31, n31) _ _ _ ⟨show 0 ≤ (i + se2).toInt by omega, by show tp ≤ t31; omega, by show sp ≤ s31; omega, hW31⟩ (by show 10000 - s31 < 10000 - s9; omega) hP hD hS (lv_sub hl [1, 2, 3, 4, 5, 0] rfl)
        · refine lv_aload_n hx hb d_Walk_pushSlice_39 rfl (lv_at hl 3 rfl) ?_
          refine vq_get (D := (dC, dI)) (ci := 7) (v := .long sp2) (C := R_Selector) (T := F_Selector) (N := 9) hx hb hts in_Selector hown hK hP (hO.inL (a := sl) (by rw [hsl]; decide)) (pf_L ef2) rfl 5 (by decide) (hts _ z_622) (fun _ h9 => h9) rfl d_Walk_pushSlice_40 ?_
          refine lv_iload_n hx hb d_Walk_pushSlice_43 rfl (lv_at hl 0 rfl) ?_
          refine lv_iconst (v := 0) hx hb d_Walk_pushSlice_44 (by decide) ?_
          refine lv_iload_n hx hb d_Walk_pushSlice_45 rfl (lv_at hl 0 rfl) ?_
          refine vp_callSl (va_Run.run (va_runS (As := [.long sp2, .int (nI (szF f nd)), .int 0, .int (nI (szF f nd))]) (rest := []) ⟨hx, hb, hml, hown, hts⟩ (c_Walk_cut l dC dI s.heap sp2 (nI (szF f nd)) 0 (nI (szF f nd)) (cutU hs)) (va_cwS 4 hts (gt_S (own := R_Walk) (i := 134) (y := y_Walk_cut) i_Walk_cut z_883 z_884 w_5) rfl rfl rfl (by decide +kernel) ⟨Nat.le_of_ble_eq_true rfl, Nat.le_of_ble_eq_true rfl⟩) ⟨mT_blind, fun U hU hW => ⟨rfl, hN.warm hW⟩⟩ rfl rfl hl.1 rfl (lv_room (Nat.le_of_ble_eq_true rfl)) d_Walk_pushSlice_46 ⟨Nat.le_of_ble_eq_true rfl, Nat.le_of_ble_eq_true rfl⟩)) (fun r32 h_r32 => ?_)
          rw [nI_toInt (by omega)] at h_r32
          refine lv_goto (tgt := 54) hx hb d_Walk_pushSlice_49 (by decide) ?_
          refine lv_lstore (lv' := [(4, .long r32), (3, .int (nI (szF f nd))), (0, .ref wk), (1, .ref nd), (2, .ref sl)]) hx hb d_Walk_pushSlice_54 hl (by decide) rfl (fun ls hl => ?_)
          refine lv_aload_n hx hb d_Walk_pushSlice_56 rfl (lv_at hl 4 rfl) ?_
          refine vq_get (D := (dC, dI)) (ci := 7) (v := .int hs2) (C := R_Selector) (T := F_Selector) (N := 9) hx hb hts in_Selector hown hK hP (hO.inL (a := sl) (by rw [hsl]; decide)) (pf_L ef2) rfl 2 (by decide) (hts _ z_616) (fun _ h9 => h9) rfl d_Walk_pushSlice_57 ?_
          refine lv_if_eq (tgt := 76) hx hb d_Walk_pushSlice_60 (by decide) (fun c60 => ?_) (fun c60 => ?_)
          · refine lv_lconst (v := 0) hx hb d_Walk_pushSlice_76 (by decide) ?_
            refine lv_lstore (lv' := [(6, .long 0), (4, .long r32), (3, .int (nI (szF f nd))), (0, .ref wk), (1, .ref nd), (2, .ref sl)]) hx hb d_Walk_pushSlice_77 hl (by decide) rfl (fun ls hl => ?_)
            have hst : (r32 : Int64).toInt ≤ (szF f nd : Int) := h_r32.2
            have hi0 : (0 : Int) ≤ (0 : Int64).toInt := (by decide)
            refine w_loop (D := (dC, dI)) (cl := classes) (A := A) (H0 := s.heap) (nL := 8) 79 (σ := Int64 × Nat × Nat × (Nat → Option Nat) × (Nat → Int64)) (fun ⟨i, t, s9, g, ν⟩ => 0 ≤ i.toInt ∧ tp ≤ t ∧ sp ≤ s9 ∧ WI E t s9 g) (fun ⟨i, t, s9, g, ν⟩ => 10000 - s9) (fun ⟨i, t, s9, g, ν⟩ => [(wk, .inr (10, [.ref wl, .int (nI t), .int (nI s9), .ref rt])), (wl, .inl (cV, 10000, .inr (.inr (.inr (.inr g)))))] ++ va_pl L (pf f ν)) (fun ⟨i, t, s9, g, ν⟩ => [(0, .ref wk), (1, .ref nd), (2, .ref sl), (3, .int (nI (szF f nd))), (4, .long r32), (6, .long i)]) ?_ (0, tp, sp, g, ν) ⟨hi0, by show tp ≤ tp; omega, by show sp ≤ sp; omega, hW9⟩ hP hD hS (lv_sub hl [3, 4, 5, 2, 1, 0] rfl)
            rintro ⟨i, t, s9, g, ν⟩ H locs ls hI ih hP hD hS hl
            have hP : va_P (dC, dI) classes ([(wk, .inr (10, [.ref wl, .int (nI t), .int (nI s9), .ref rt])), (wl, .inl (cV, 10000, .inr (.inr (.inr (.inr g)))))] ++ va_pl L (pf f ν)) H := hP
            have hD : va_D A ([(wk, .inr (10, [.ref wl, .int (nI t), .int (nI s9), .ref rt])), (wl, .inl (cV, 10000, .inr (.inr (.inr (.inr g)))))] ++ va_pl L (pf f ν)) := hD
            have hl : lv_has ls 8 [(0, .ref wk), (1, .ref nd), (2, .ref sl), (3, .int (nI (szF f nd))), (4, .long r32), (6, .long i)] := hl
            obtain ⟨hI, hI1, hI2, hI3⟩ := hI
            have hI : 0 ≤ i.toInt := hI
            have hI1 : tp ≤ t := hI1
            have hI2 : sp ≤ s9 := hI2
            have hI3 : WI E t s9 g := hI3
            have hhI31 := hI3.1
            have hhI32 := hI3.2.1
            refine lv_lload hx hb d_Walk_pushSlice_79 (lv_at hl 5 rfl) ?_
            refine lv_lload hx hb d_Walk_pushSlice_81 (lv_at hl 4 rfl) ?_
            refine W.lcmp hx hb d_Walk_pushSlice_83 ?_
            refine lv_if_ge (tgt := 111) hx hb d_Walk_pushSlice_84 (by decide) (fun c84 => ?_) (fun c84 => ?_)
            · refine lv_goto (tgt := 201) hx hb d_Walk_pushSlice_111 (by decide) ?_
              refine w_same (fun hq => ?_)
              refine W.widen (k := 1) (n := 6) (Nat.le_of_ble_eq_true rfl) (Nat.le_of_ble_eq_true rfl) ?_
              refine vx_ret ?_
              exact W.vret hx hb hr (fun t9 ht hW => ⟨⟨(t, s9, g, ν), rfl, ⟨by show tp ≤ t; omega, by show sp ≤ s9; omega, hI3⟩, ⟨by rw [ht]; exact hP, va_K.moved hW.alike hK, hD⟩, by rw [ht]; exact hq⟩, hS.F ht⟩) hS.2.2 d_Walk_pushSlice_201
            · have hlt := Int64.lt_iff_toInt_lt.mp (Int64.not_le.mp (fun h => c84 ((lg_cmp_ge _ _).mpr h)))
              have hlt : i.toInt < (r32 : Int64).toInt := hlt
              obtain ⟨j, hj, ej⟩ := l_idx (x := i) (n := szF f nd) (by omega) (by omega) hs
              refine lv_aload_n hx hb d_Walk_pushSlice_87 rfl (lv_at hl 0 rfl) ?_
              refine lv_aload_n hx hb d_Walk_pushSlice_88 rfl (lv_at hl 1 rfl) ?_
              rcases me1 with _ | b33
              · exact absurd (PO.mem0 ef1) (by omega)
              · refine vq_get (D := (dC, dI)) (ci := 9) (v := .ref b33) (C := R_Value) (T := F_Value) (N := 10) hx hb hts in_Value hown hK hP (hO.inV (isF.v hnd)) (pf_V ef1) rfl 3 (by decide) (hts _ z_328) (fun _ h9 => h9) rfl d_Walk_pushSlice_89 ?_
                refine lv_lload hx hb d_Walk_pushSlice_92 (lv_at hl 5 rfl) ?_
                refine lv_l2i (v := i.toInt32) hx hb d_Walk_pushSlice_94 rfl ?_
                refine W.eq (g2 := F0 m 95 ls [.int (nI j), .ref b33, .ref wk]) (by rw [show (i.toInt32) = (nI j) from (by rw [ej]; exact lN_i j)]) ?_
                obtain ⟨g34, hi34, ef34, hg34⟩ := hO.mem1 ef1 hv1 (isF.n1 hnd)
                have hn34 := hO.szle ef1 hv1
                obtain ⟨me35, hm35, hf35, hnm35⟩ := hg34 j hj
                refine vq_aald hx hb hK hP 1 hi34 (pf_A ef34) rfl (j := j) hj hn34 hm35 d_Walk_pushSlice_95 ?_
                have hPc := hP.part (cx := [(wk, .inr (10, [.ref wl, .int (nI t), .int (nI s9), .ref rt])), (wl, .inl (cV, 10000, .inr (.inr (.inr (.inr g)))))]) [0, 1] rfl
                have hDc := hD.part (cx := [(wk, .inr (10, [.ref wl, .int (nI t), .int (nI s9), .ref rt])), (wl, .inl (cV, 10000, .inr (.inr (.inr (.inr g)))))]) [0, 1] (by decide) rfl
                have hFc := va_freeP (cx := [(wk, .inr (10, [.ref wl, .int (nI t), .int (nI s9), .ref rt])), (wl, .inl (cV, 10000, .inr (.inr (.inr (.inr g)))))]) hD hS hA [0, 1] rfl
                have hKc := hK.sub (tys' := [(cI, .int), (cV, .object "QueryBench$Value")]) [0, 1] rfl
                refine w_same (fun hq0 => ?_)
                refine vx_callv (vx_runV (As := [.ref me35]) (rest := []) ⟨hx, hb, hml, hown, hts⟩ (c_Walk_push l hl9 K dC dI H cI cV E lv L f hO hN1 wk wl rt hrt t s9 g ν hI3 me35 hf35) (cwV 1 hts (gt_V (own := R_Walk) (C := R_Walk) (i := 38) (y := y_Walk_push) i_Walk_push z_839 z_841 (gt_sel (y := y_Walk_push) (n := 4) (by decide +kernel)) w_5) rfl rfl rfl (by decide +kernel) ⟨Nat.le_of_ble_eq_true rfl, Nat.le_of_ble_eq_true rfl⟩) ⟨ml_blind, va_recv hK hP (ci := 10) (q0 := 0) rfl rfl, fun U hU hW => ⟨rfl, ⟨hU, by rw [hU]; exact hPc, va_K.moved hW.alike hKc, hDc.weaken (fun _ _ _ _ => trivial)⟩, hN.warm hW, by rw [hU]; exact ZX.moved' hW.alike (ZX.narrow' (ZX.kept' hZ hS.2.1) hFc), by rw [hU]; exact CE.call hC hS.2.1 hFc hW, va_AO.moved hW.alike hV⟩⟩ rfl rfl hl.1 rfl (lv_room (Nat.le_of_ble_eq_true rfl)) d_Walk_pushSlice_96 ⟨Nat.le_of_ble_eq_true rfl, Nat.le_of_ble_eq_true rfl⟩) hS (fun q _ h => hFc q h) hFc (fun q _ h => hFc q h) (fun En ce q9 ⟨tx, sx, gx, nx⟩ t9 H1 locs ht hvm hw hB hz1 hk1 hS hce hcv hcl => ?_) (fun ⟨t36, s36, g36, n36⟩ t9 H1 locs ht hvm hw hB hz1 hk1 hS => ?_)
                · obtain ⟨hEn, hP1, hK1, hD1⟩ := hB
                  rw [ht] at hP1
                  obtain ⟨hP, hD⟩ := va_joinP (wr := []) (rx := [(wk, .inr (10, [.ref wl, .int tx, .int sx, .ref rt])), (wl, .inl (cV, 10000, .inr (.inr (.inr (.inr gx)))))]) (pl1 := va_pl L (pf f nx)) hP hD [0, 1] [] rfl rfl (by decide) (by decide) hk1 hFc hP1 hD1
                  generalize H1 = H at hP hS hce ⊢
                  have hP : va_P (dC, dI) classes ([(wk, .inr (10, [.ref wl, .int tx, .int sx, .ref rt])), (wl, .inl (cV, 10000, .inr (.inr (.inr (.inr gx)))))] ++ va_pl L (pf f nx)) H := hP
                  have hD : va_D A ([(wk, .inr (10, [.ref wl, .int tx, .int sx, .ref rt])), (wl, .inl (cV, 10000, .inr (.inr (.inr (.inr gx)))))] ++ va_pl L (pf f nx)) := hD
                  exact vx_out (fun x hx => (hex x hx).elim) hlocks hce hcv hcl (fun t9 ht2 ha => ⟨(tx, sx, gx, nx), trivial, ⟨hEn, by rw [ht2]; exact hP, va_K.moved ha hK, hD⟩, hS.F ht2⟩) hS.2.2 (Nat.le_of_ble_eq_true rfl) (Nat.le_of_ble_eq_true rfl)
                · obtain ⟨⟨hP1, hK1, hD1⟩, hz9⟩ := hB
                  rw [ht] at hP1
                  rw [ht] at hz9
                  refine w_tight (hq0.trans hz9) ?_
                  have hq0 := hq0.trans hz9
                  obtain ⟨hP, hD⟩ := va_joinP (wr := []) (rx := [(wk, .inr (10, [.ref wl, .int (nI t36), .int (nI s36), .ref rt])), (wl, .inl (cV, 10000, .inr (.inr (.inr (.inr g36)))))]) (pl1 := va_pl L (pf f n36)) hP hD [0, 1] [] rfl rfl (by decide) (by decide) hk1 hFc hP1 hD1
                  generalize H1 = H at hP hS hq0 ⊢
                  have hP : va_P (dC, dI) classes ([(wk, .inr (10, [.ref wl, .int (nI t36), .int (nI s36), .ref rt])), (wl, .inl (cV, 10000, .inr (.inr (.inr (.inr g36)))))] ++ va_pl L (pf f n36)) H := hP
                  have hD : va_D A ([(wk, .inr (10, [.ref wl, .int (nI t36), .int (nI s36), .ref rt])), (wl, .inl (cV, 10000, .inr (.inr (.inr (.inr g36)))))] ++ va_pl L (pf f n36)) := hD
                  obtain ⟨ha36, hb36, hW36⟩ := hw
                  have ha36 : t36 = t + 1 := ha36
                  have hb36 : s36 = s9 + 1 := hb36
                  have hW36 : WI E t36 s36 g36 := hW36
                  have hhW361 := hW36.1
                  have hhW362 := hW36.2.1
                  refine lv_lload hx hb d_Walk_pushSlice_99 (lv_at hl 5 rfl) ?_
                  refine lv_aload_n hx hb d_Walk_pushSlice_101 rfl (lv_at hl 2 rfl) ?_
                  refine vq_get (D := (dC, dI)) (ci := 7) (v := .long se2) (C := R_Selector) (T := F_Selector) (N := 9) hx hb hts in_Selector hown hK hP (hO.inL (a := sl) (by rw [hsl]; decide)) (pf_L ef2) rfl 6 (by decide) (hts _ z_625) (fun _ h9 => h9) rfl d_Walk_pushSlice_102 ?_
                  refine lv_ladd hx hb d_Walk_pushSlice_105 ?_
                  refine lv_lstore (lv' := [(6, .long (i + se2)), (0, .ref wk), (1, .ref nd), (2, .ref sl), (3, .int (nI (szF f nd))), (4, .long r32)]) hx hb d_Walk_pushSlice_106 hl (by decide) rfl (fun ls hl => ?_)
                  refine lv_goto (tgt := 79) hx hb d_Walk_pushSlice_108 (by decide) ?_
                  have hse := Int64.lt_iff_toInt_lt.mp (Int64.not_le.mp (fun h => c29 ((lg_cmp_le _ _).mpr h)))
                  rw [show (0 : Int64).toInt = 0 from rfl] at hse
                  have hia : (i + se2).toInt = i.toInt + se2.toInt := l_add (by omega) (by omega) hv2.2.2.2.2.2.1 hv2.2.2.2.2.2.2
                  exact ih (i + se2, t36, s36, g36, n36) _ _ _ ⟨show 0 ≤ (i + se2).toInt by omega, by show tp ≤ t36; omega, by show sp ≤ s36; omega, hW36⟩ (by show 10000 - s36 < 10000 - s9; omega) hP hD hS (lv_sub hl [1, 2, 3, 4, 5, 0] rfl)
          · refine lv_aload_n hx hb d_Walk_pushSlice_63 rfl (lv_at hl 4 rfl) ?_
            refine vq_get (D := (dC, dI)) (ci := 7) (v := .long st2) (C := R_Selector) (T := F_Selector) (N := 9) hx hb hts in_Selector hown hK hP (hO.inL (a := sl) (by rw [hsl]; decide)) (pf_L ef2) rfl 4 (by decide) (hts _ z_619) (fun _ h9 => h9) rfl d_Walk_pushSlice_64 ?_
            refine lv_iload_n hx hb d_Walk_pushSlice_67 rfl (lv_at hl 1 rfl) ?_
            refine lv_iconst (v := 0) hx hb d_Walk_pushSlice_68 (by decide) ?_
            refine lv_iload_n hx hb d_Walk_pushSlice_69 rfl (lv_at hl 1 rfl) ?_
            refine vp_callSl (va_Run.run (va_runS (As := [.long st2, .int (nI (szF f nd)), .int 0, .int (nI (szF f nd))]) (rest := []) ⟨hx, hb, hml, hown, hts⟩ (c_Walk_cut l dC dI s.heap st2 (nI (szF f nd)) 0 (nI (szF f nd)) (cutU hs)) (va_cwS 4 hts (gt_S (own := R_Walk) (i := 134) (y := y_Walk_cut) i_Walk_cut z_883 z_884 w_5) rfl rfl rfl (by decide +kernel) ⟨Nat.le_of_ble_eq_true rfl, Nat.le_of_ble_eq_true rfl⟩) ⟨mT_blind, fun U hU hW => ⟨rfl, hN.warm hW⟩⟩ rfl rfl hl.1 rfl (lv_room (Nat.le_of_ble_eq_true rfl)) d_Walk_pushSlice_70 ⟨Nat.le_of_ble_eq_true rfl, Nat.le_of_ble_eq_true rfl⟩)) (fun r37 h_r37 => ?_)
            rw [nI_toInt (by omega)] at h_r37
            refine lv_goto (tgt := 77) hx hb d_Walk_pushSlice_73 (by decide) ?_
            refine lv_lstore (lv' := [(6, .long r37), (4, .long r32), (3, .int (nI (szF f nd))), (0, .ref wk), (1, .ref nd), (2, .ref sl)]) hx hb d_Walk_pushSlice_77 hl (by decide) rfl (fun ls hl => ?_)
            have hst : (r32 : Int64).toInt ≤ (szF f nd : Int) := h_r32.2
            have hi0 : (0 : Int) ≤ (r37 : Int64).toInt := h_r37.1
            refine w_loop (D := (dC, dI)) (cl := classes) (A := A) (H0 := s.heap) (nL := 8) 79 (σ := Int64 × Nat × Nat × (Nat → Option Nat) × (Nat → Int64)) (fun ⟨i, t, s9, g, ν⟩ => 0 ≤ i.toInt ∧ tp ≤ t ∧ sp ≤ s9 ∧ WI E t s9 g) (fun ⟨i, t, s9, g, ν⟩ => 10000 - s9) (fun ⟨i, t, s9, g, ν⟩ => [(wk, .inr (10, [.ref wl, .int (nI t), .int (nI s9), .ref rt])), (wl, .inl (cV, 10000, .inr (.inr (.inr (.inr g)))))] ++ va_pl L (pf f ν)) (fun ⟨i, t, s9, g, ν⟩ => [(0, .ref wk), (1, .ref nd), (2, .ref sl), (3, .int (nI (szF f nd))), (4, .long r32), (6, .long i)]) ?_ (r37, tp, sp, g, ν) ⟨hi0, by show tp ≤ tp; omega, by show sp ≤ sp; omega, hW9⟩ hP hD hS (lv_sub hl [3, 4, 5, 2, 1, 0] rfl)
            rintro ⟨i, t, s9, g, ν⟩ H locs ls hI ih hP hD hS hl
            have hP : va_P (dC, dI) classes ([(wk, .inr (10, [.ref wl, .int (nI t), .int (nI s9), .ref rt])), (wl, .inl (cV, 10000, .inr (.inr (.inr (.inr g)))))] ++ va_pl L (pf f ν)) H := hP
            have hD : va_D A ([(wk, .inr (10, [.ref wl, .int (nI t), .int (nI s9), .ref rt])), (wl, .inl (cV, 10000, .inr (.inr (.inr (.inr g)))))] ++ va_pl L (pf f ν)) := hD
            have hl : lv_has ls 8 [(0, .ref wk), (1, .ref nd), (2, .ref sl), (3, .int (nI (szF f nd))), (4, .long r32), (6, .long i)] := hl
            obtain ⟨hI, hI1, hI2, hI3⟩ := hI
            have hI : 0 ≤ i.toInt := hI
            have hI1 : tp ≤ t := hI1
            have hI2 : sp ≤ s9 := hI2
            have hI3 : WI E t s9 g := hI3
            have hhI31 := hI3.1
            have hhI32 := hI3.2.1
            refine lv_lload hx hb d_Walk_pushSlice_79 (lv_at hl 5 rfl) ?_
            refine lv_lload hx hb d_Walk_pushSlice_81 (lv_at hl 4 rfl) ?_
            refine W.lcmp hx hb d_Walk_pushSlice_83 ?_
            refine lv_if_ge (tgt := 111) hx hb d_Walk_pushSlice_84 (by decide) (fun c84 => ?_) (fun c84 => ?_)
            · refine lv_goto (tgt := 201) hx hb d_Walk_pushSlice_111 (by decide) ?_
              refine w_same (fun hq => ?_)
              refine W.widen (k := 1) (n := 6) (Nat.le_of_ble_eq_true rfl) (Nat.le_of_ble_eq_true rfl) ?_
              refine vx_ret ?_
              exact W.vret hx hb hr (fun t9 ht hW => ⟨⟨(t, s9, g, ν), rfl, ⟨by show tp ≤ t; omega, by show sp ≤ s9; omega, hI3⟩, ⟨by rw [ht]; exact hP, va_K.moved hW.alike hK, hD⟩, by rw [ht]; exact hq⟩, hS.F ht⟩) hS.2.2 d_Walk_pushSlice_201
            · have hlt := Int64.lt_iff_toInt_lt.mp (Int64.not_le.mp (fun h => c84 ((lg_cmp_ge _ _).mpr h)))
              have hlt : i.toInt < (r32 : Int64).toInt := hlt
              obtain ⟨j, hj, ej⟩ := l_idx (x := i) (n := szF f nd) (by omega) (by omega) hs
              refine lv_aload_n hx hb d_Walk_pushSlice_87 rfl (lv_at hl 0 rfl) ?_
              refine lv_aload_n hx hb d_Walk_pushSlice_88 rfl (lv_at hl 1 rfl) ?_
              rcases me1 with _ | b38
              · exact absurd (PO.mem0 ef1) (by omega)
              · refine vq_get (D := (dC, dI)) (ci := 9) (v := .ref b38) (C := R_Value) (T := F_Value) (N := 10) hx hb hts in_Value hown hK hP (hO.inV (isF.v hnd)) (pf_V ef1) rfl 3 (by decide) (hts _ z_328) (fun _ h9 => h9) rfl d_Walk_pushSlice_89 ?_
                refine lv_lload hx hb d_Walk_pushSlice_92 (lv_at hl 5 rfl) ?_
                refine lv_l2i (v := i.toInt32) hx hb d_Walk_pushSlice_94 rfl ?_
                refine W.eq (g2 := F0 m 95 ls [.int (nI j), .ref b38, .ref wk]) (by rw [show (i.toInt32) = (nI j) from (by rw [ej]; exact lN_i j)]) ?_
                obtain ⟨g39, hi39, ef39, hg39⟩ := hO.mem1 ef1 hv1 (isF.n1 hnd)
                have hn39 := hO.szle ef1 hv1
                obtain ⟨me40, hm40, hf40, hnm40⟩ := hg39 j hj
                refine vq_aald hx hb hK hP 1 hi39 (pf_A ef39) rfl (j := j) hj hn39 hm40 d_Walk_pushSlice_95 ?_
                have hPc := hP.part (cx := [(wk, .inr (10, [.ref wl, .int (nI t), .int (nI s9), .ref rt])), (wl, .inl (cV, 10000, .inr (.inr (.inr (.inr g)))))]) [0, 1] rfl
                have hDc := hD.part (cx := [(wk, .inr (10, [.ref wl, .int (nI t), .int (nI s9), .ref rt])), (wl, .inl (cV, 10000, .inr (.inr (.inr (.inr g)))))]) [0, 1] (by decide) rfl
                have hFc := va_freeP (cx := [(wk, .inr (10, [.ref wl, .int (nI t), .int (nI s9), .ref rt])), (wl, .inl (cV, 10000, .inr (.inr (.inr (.inr g)))))]) hD hS hA [0, 1] rfl
                have hKc := hK.sub (tys' := [(cI, .int), (cV, .object "QueryBench$Value")]) [0, 1] rfl
                refine w_same (fun hq0 => ?_)
                refine vx_callv (vx_runV (As := [.ref me40]) (rest := []) ⟨hx, hb, hml, hown, hts⟩ (c_Walk_push l hl9 K dC dI H cI cV E lv L f hO hN1 wk wl rt hrt t s9 g ν hI3 me40 hf40) (cwV 1 hts (gt_V (own := R_Walk) (C := R_Walk) (i := 38) (y := y_Walk_push) i_Walk_push z_839 z_841 (gt_sel (y := y_Walk_push) (n := 4) (by decide +kernel)) w_5) rfl rfl rfl (by decide +kernel) ⟨Nat.le_of_ble_eq_true rfl, Nat.le_of_ble_eq_true rfl⟩) ⟨ml_blind, va_recv hK hP (ci := 10) (q0 := 0) rfl rfl, fun U hU hW => ⟨rfl, ⟨hU, by rw [hU]; exact hPc, va_K.moved hW.alike hKc, hDc.weaken (fun _ _ _ _ => trivial)⟩, hN.warm hW, by rw [hU]; exact ZX.moved' hW.alike (ZX.narrow' (ZX.kept' hZ hS.2.1) hFc), by rw [hU]; exact CE.call hC hS.2.1 hFc hW, va_AO.moved hW.alike hV⟩⟩ rfl rfl hl.1 rfl (lv_room (Nat.le_of_ble_eq_true rfl)) d_Walk_pushSlice_96 ⟨Nat.le_of_ble_eq_true rfl, Nat.le_of_ble_eq_true rfl⟩) hS (fun q _ h => hFc q h) hFc (fun q _ h => hFc q h) (fun En ce q9 ⟨tx, sx, gx, nx⟩ t9 H1 locs ht hvm hw hB hz1 hk1 hS hce hcv hcl => ?_) (fun ⟨t41, s41, g41, n41⟩ t9 H1 locs ht hvm hw hB hz1 hk1 hS => ?_)
                · obtain ⟨hEn, hP1, hK1, hD1⟩ := hB
                  rw [ht] at hP1
                  obtain ⟨hP, hD⟩ := va_joinP (wr := []) (rx := [(wk, .inr (10, [.ref wl, .int tx, .int sx, .ref rt])), (wl, .inl (cV, 10000, .inr (.inr (.inr (.inr gx)))))]) (pl1 := va_pl L (pf f nx)) hP hD [0, 1] [] rfl rfl (by decide) (by decide) hk1 hFc hP1 hD1
                  generalize H1 = H at hP hS hce ⊢
                  have hP : va_P (dC, dI) classes ([(wk, .inr (10, [.ref wl, .int tx, .int sx, .ref rt])), (wl, .inl (cV, 10000, .inr (.inr (.inr (.inr gx)))))] ++ va_pl L (pf f nx)) H := hP
                  have hD : va_D A ([(wk, .inr (10, [.ref wl, .int tx, .int sx, .ref rt])), (wl, .inl (cV, 10000, .inr (.inr (.inr (.inr gx)))))] ++ va_pl L (pf f nx)) := hD
                  exact vx_out (fun x hx => (hex x hx).elim) hlocks hce hcv hcl (fun t9 ht2 ha => ⟨(tx, sx, gx, nx), trivial, ⟨hEn, by rw [ht2]; exact hP, va_K.moved ha hK, hD⟩, hS.F ht2⟩) hS.2.2 (Nat.le_of_ble_eq_true rfl) (Nat.le_of_ble_eq_true rfl)
                · obtain ⟨⟨hP1, hK1, hD1⟩, hz9⟩ := hB
                  rw [ht] at hP1
                  rw [ht] at hz9
                  refine w_tight (hq0.trans hz9) ?_
                  have hq0 := hq0.trans hz9
                  obtain ⟨hP, hD⟩ := va_joinP (wr := []) (rx := [(wk, .inr (10, [.ref wl, .int (nI t41), .int (nI s41), .ref rt])), (wl, .inl (cV, 10000, .inr (.inr (.inr (.inr g41)))))]) (pl1 := va_pl L (pf f n41)) hP hD [0, 1] [] rfl rfl (by decide) (by decide) hk1 hFc hP1 hD1
                  generalize H1 = H at hP hS hq0 ⊢
                  have hP : va_P (dC, dI) classes ([(wk, .inr (10, [.ref wl, .int (nI t41), .int (nI s41), .ref rt])), (wl, .inl (cV, 10000, .inr (.inr (.inr (.inr g41)))))] ++ va_pl L (pf f n41)) H := hP
                  have hD : va_D A ([(wk, .inr (10, [.ref wl, .int (nI t41), .int (nI s41), .ref rt])), (wl, .inl (cV, 10000, .inr (.inr (.inr (.inr g41)))))] ++ va_pl L (pf f n41)) := hD
                  obtain ⟨ha41, hb41, hW41⟩ := hw
                  have ha41 : t41 = t + 1 := ha41
                  have hb41 : s41 = s9 + 1 := hb41
                  have hW41 : WI E t41 s41 g41 := hW41
                  have hhW411 := hW41.1
                  have hhW412 := hW41.2.1
                  refine lv_lload hx hb d_Walk_pushSlice_99 (lv_at hl 5 rfl) ?_
                  refine lv_aload_n hx hb d_Walk_pushSlice_101 rfl (lv_at hl 2 rfl) ?_
                  refine vq_get (D := (dC, dI)) (ci := 7) (v := .long se2) (C := R_Selector) (T := F_Selector) (N := 9) hx hb hts in_Selector hown hK hP (hO.inL (a := sl) (by rw [hsl]; decide)) (pf_L ef2) rfl 6 (by decide) (hts _ z_625) (fun _ h9 => h9) rfl d_Walk_pushSlice_102 ?_
                  refine lv_ladd hx hb d_Walk_pushSlice_105 ?_
                  refine lv_lstore (lv' := [(6, .long (i + se2)), (0, .ref wk), (1, .ref nd), (2, .ref sl), (3, .int (nI (szF f nd))), (4, .long r32)]) hx hb d_Walk_pushSlice_106 hl (by decide) rfl (fun ls hl => ?_)
                  refine lv_goto (tgt := 79) hx hb d_Walk_pushSlice_108 (by decide) ?_
                  have hse := Int64.lt_iff_toInt_lt.mp (Int64.not_le.mp (fun h => c29 ((lg_cmp_le _ _).mpr h)))
                  rw [show (0 : Int64).toInt = 0 from rfl] at hse
                  have hia : (i + se2).toInt = i.toInt + se2.toInt := l_add (by omega) (by omega) hv2.2.2.2.2.2.1 hv2.2.2.2.2.2.2
                  exact ih (i + se2, t41, s41, g41, n41) _ _ _ ⟨show 0 ≤ (i + se2).toInt by omega, by show tp ≤ t41; omega, by show sp ≤ s41; omega, hW41⟩ (by show 10000 - s41 < 10000 - s9; omega) hP hD hS (lv_sub hl [1, 2, 3, 4, 5, 0] rfl)
    · refine w_same (fun hq => ?_)
      refine W.widen (k := 1) (n := 6) (Nat.le_of_ble_eq_true rfl) (Nat.le_of_ble_eq_true rfl) ?_
      refine vx_ret ?_
      exact W.vret hx hb hr (fun t9 ht hW => ⟨⟨(tp, sp, g, ν), rfl, ⟨by show tp ≤ tp; omega, by show sp ≤ sp; omega, hW9⟩, ⟨by rw [ht]; exact hP, va_K.moved hW.alike hK, hD⟩, by rw [ht]; exact hq⟩, hS.F ht⟩) hS.2.2 d_Walk_pushSlice_17
