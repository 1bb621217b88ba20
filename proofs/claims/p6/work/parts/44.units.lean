theorem w_1056 : (.fieldLink "QueryBenchModel" 107 "QueryBenchModel$Tree" "units" "[C" : Cond) ∈ gtbl := gt_in 1056 (by decide +kernel) (by decide +kernel)
theorem w_1370 : (.methodLink "QueryBenchModel" 248 ⟨"QueryBenchModel", "write", "(Ljava/lang/String;)V"⟩ : Cond) ∈ gtbl := gt_in 1370 (by decide +kernel) (by decide +kernel)
theorem w_1372 : (.instanceMethod ⟨"QueryBenchModel", "write", "(Ljava/lang/String;)V"⟩ : Cond) ∈ gtbl := gt_in 1372 (by decide +kernel) (by decide +kernel)
def upL (q : Int32) (u : Nat → Int32) : Nat → List Int32
  | 0 => [q]
  | j + 1 => upL q u j ++ unB q (u j)
theorem upL_sl {q : Int32} {u : Nat → Int32} {s : Nat} : ∀ (n : Nat), upL q (fun i => u (s + i)) n ++ [q] = unL q (sl u s n) := by
  intro n
  unfold unL
  congr 1
  induction n with
  | zero => rfl
  | succ n ih =>
    simp only [upL, ih]
    unfold sl
    rw [List.range_succ, List.map_append, List.flatMap_append, List.append_assoc]
    simp
theorem hxD_eq {x : Int32} {m : Nat} (hm : m < 16) (h : x &&& 15 = nI m) : hxD x = mtx 6 m &&& 255 := by unfold hxD; rw [h, nI_clamp (by omega)]
abbrev b_Mo_units : ByteArray := prog_14_method_29_code
def y_Mo_units : MethodName := ⟨"QueryBenchModel", "units", "(LQueryBenchModel$Tree;III)V"⟩
abbrev k_Mo_units : Cond := .code y_Mo_units b_Mo_units 9 none
theorem i_Mo_units : k_Mo_units ∈ gtbl := gt_in 1386 (by decide +kernel) (by decide +kernel)
theorem d_Mo_units_0 : decode b_Mo_units 0 = .ok (.aload_n 0, 1) := by decide +kernel
theorem d_Mo_units_1 : decode b_Mo_units 1 = .ok (.iload 4, 2) := by decide +kernel
theorem d_Mo_units_3 : decode b_Mo_units 3 = .ok (.invokevirtual 239, 3) := by decide +kernel
theorem d_Mo_units_6 : decode b_Mo_units 6 = .ok (.iload_n 2, 1) := by decide +kernel
theorem d_Mo_units_7 : decode b_Mo_units 7 = .ok (.istore 5, 2) := by decide +kernel
theorem d_Mo_units_9 : decode b_Mo_units 9 = .ok (.iload 5, 2) := by decide +kernel
theorem d_Mo_units_11 : decode b_Mo_units 11 = .ok (.iload_n 2, 1) := by decide +kernel
theorem d_Mo_units_12 : decode b_Mo_units 12 = .ok (.iload_n 3, 1) := by decide +kernel
theorem d_Mo_units_13 : decode b_Mo_units 13 = .ok (.iadd, 1) := by decide +kernel
theorem d_Mo_units_14 : decode b_Mo_units 14 = .ok (.if_icmp .ge 191, 3) := by decide +kernel
theorem d_Mo_units_17 : decode b_Mo_units 17 = .ok (.aload_n 1, 1) := by decide +kernel
theorem d_Mo_units_18 : decode b_Mo_units 18 = .ok (.getfield 107, 3) := by decide +kernel
theorem d_Mo_units_21 : decode b_Mo_units 21 = .ok (.iload 5, 2) := by decide +kernel
theorem d_Mo_units_23 : decode b_Mo_units 23 = .ok (.caload, 1) := by decide +kernel
theorem d_Mo_units_24 : decode b_Mo_units 24 = .ok (.istore 6, 2) := by decide +kernel
theorem d_Mo_units_26 : decode b_Mo_units 26 = .ok (.iload 6, 2) := by decide +kernel
theorem d_Mo_units_28 : decode b_Mo_units 28 = .ok (.bipush 8, 2) := by decide +kernel
theorem d_Mo_units_30 : decode b_Mo_units 30 = .ok (.if_icmp .ne 7, 3) := by decide +kernel
theorem d_Mo_units_33 : decode b_Mo_units 33 = .ok (.iconst 0, 1) := by decide +kernel
theorem d_Mo_units_34 : decode b_Mo_units 34 = .ok (.goto 48, 3) := by decide +kernel
theorem d_Mo_units_37 : decode b_Mo_units 37 = .ok (.iload 6, 2) := by decide +kernel
theorem d_Mo_units_39 : decode b_Mo_units 39 = .ok (.bipush 9, 2) := by decide +kernel
theorem d_Mo_units_41 : decode b_Mo_units 41 = .ok (.if_icmp .ne 7, 3) := by decide +kernel
theorem d_Mo_units_44 : decode b_Mo_units 44 = .ok (.iconst 1, 1) := by decide +kernel
theorem d_Mo_units_45 : decode b_Mo_units 45 = .ok (.goto 37, 3) := by decide +kernel
theorem d_Mo_units_48 : decode b_Mo_units 48 = .ok (.iload 6, 2) := by decide +kernel
theorem d_Mo_units_50 : decode b_Mo_units 50 = .ok (.bipush 10, 2) := by decide +kernel
theorem d_Mo_units_52 : decode b_Mo_units 52 = .ok (.if_icmp .ne 7, 3) := by decide +kernel
theorem d_Mo_units_55 : decode b_Mo_units 55 = .ok (.iconst 2, 1) := by decide +kernel
theorem d_Mo_units_56 : decode b_Mo_units 56 = .ok (.goto 26, 3) := by decide +kernel
theorem d_Mo_units_59 : decode b_Mo_units 59 = .ok (.iload 6, 2) := by decide +kernel
theorem d_Mo_units_61 : decode b_Mo_units 61 = .ok (.bipush 12, 2) := by decide +kernel
theorem d_Mo_units_63 : decode b_Mo_units 63 = .ok (.if_icmp .ne 7, 3) := by decide +kernel
theorem d_Mo_units_66 : decode b_Mo_units 66 = .ok (.iconst 3, 1) := by decide +kernel
theorem d_Mo_units_67 : decode b_Mo_units 67 = .ok (.goto 15, 3) := by decide +kernel
theorem d_Mo_units_70 : decode b_Mo_units 70 = .ok (.iload 6, 2) := by decide +kernel
theorem d_Mo_units_72 : decode b_Mo_units 72 = .ok (.bipush 13, 2) := by decide +kernel
theorem d_Mo_units_74 : decode b_Mo_units 74 = .ok (.if_icmp .ne 7, 3) := by decide +kernel
theorem d_Mo_units_77 : decode b_Mo_units 77 = .ok (.iconst 4, 1) := by decide +kernel
theorem d_Mo_units_78 : decode b_Mo_units 78 = .ok (.goto 4, 3) := by decide +kernel
theorem d_Mo_units_81 : decode b_Mo_units 81 = .ok (.iconst (-1), 1) := by decide +kernel
theorem d_Mo_units_82 : decode b_Mo_units 82 = .ok (.istore 7, 2) := by decide +kernel
theorem d_Mo_units_84 : decode b_Mo_units 84 = .ok (.iload 6, 2) := by decide +kernel
theorem d_Mo_units_86 : decode b_Mo_units 86 = .ok (.iload 4, 2) := by decide +kernel
theorem d_Mo_units_88 : decode b_Mo_units 88 = .ok (.if_icmp .eq 10, 3) := by decide +kernel
theorem d_Mo_units_91 : decode b_Mo_units 91 = .ok (.iload 6, 2) := by decide +kernel
theorem d_Mo_units_93 : decode b_Mo_units 93 = .ok (.bipush 92, 2) := by decide +kernel
theorem d_Mo_units_95 : decode b_Mo_units 95 = .ok (.if_icmp .ne 18, 3) := by decide +kernel
theorem d_Mo_units_98 : decode b_Mo_units 98 = .ok (.aload_n 0, 1) := by decide +kernel
theorem d_Mo_units_99 : decode b_Mo_units 99 = .ok (.bipush 92, 2) := by decide +kernel
theorem d_Mo_units_101 : decode b_Mo_units 101 = .ok (.invokevirtual 239, 3) := by decide +kernel
theorem d_Mo_units_104 : decode b_Mo_units 104 = .ok (.aload_n 0, 1) := by decide +kernel
theorem d_Mo_units_105 : decode b_Mo_units 105 = .ok (.iload 6, 2) := by decide +kernel
theorem d_Mo_units_107 : decode b_Mo_units 107 = .ok (.invokevirtual 239, 3) := by decide +kernel
theorem d_Mo_units_110 : decode b_Mo_units 110 = .ok (.goto 89, 3) := by decide +kernel
theorem d_Mo_units_113 : decode b_Mo_units 113 = .ok (.iload 7, 2) := by decide +kernel
theorem d_Mo_units_115 : decode b_Mo_units 115 = .ok (.ifCond .lt 23, 3) := by decide +kernel
theorem d_Mo_units_118 : decode b_Mo_units 118 = .ok (.aload_n 0, 1) := by decide +kernel
theorem d_Mo_units_119 : decode b_Mo_units 119 = .ok (.bipush 92, 2) := by decide +kernel
theorem d_Mo_units_121 : decode b_Mo_units 121 = .ok (.invokevirtual 239, 3) := by decide +kernel
theorem d_Mo_units_124 : decode b_Mo_units 124 = .ok (.aload_n 0, 1) := by decide +kernel
theorem d_Mo_units_125 : decode b_Mo_units 125 = .ok (.ldc 244, 2) := by decide +kernel
theorem d_Mo_units_127 : decode b_Mo_units 127 = .ok (.iload 7, 2) := by decide +kernel
theorem d_Mo_units_129 : decode b_Mo_units 129 = .ok (.invokevirtual 159, 3) := by decide +kernel
theorem d_Mo_units_132 : decode b_Mo_units 132 = .ok (.invokevirtual 239, 3) := by decide +kernel
theorem d_Mo_units_135 : decode b_Mo_units 135 = .ok (.goto 64, 3) := by decide +kernel
theorem d_Mo_units_138 : decode b_Mo_units 138 = .ok (.iload 6, 2) := by decide +kernel
theorem d_Mo_units_140 : decode b_Mo_units 140 = .ok (.bipush 32, 2) := by decide +kernel
theorem d_Mo_units_142 : decode b_Mo_units 142 = .ok (.if_icmp .lt 10, 3) := by decide +kernel
theorem d_Mo_units_145 : decode b_Mo_units 145 = .ok (.iload 6, 2) := by decide +kernel
theorem d_Mo_units_147 : decode b_Mo_units 147 = .ok (.bipush 126, 2) := by decide +kernel
theorem d_Mo_units_149 : decode b_Mo_units 149 = .ok (.if_icmp .le 44, 3) := by decide +kernel
theorem d_Mo_units_152 : decode b_Mo_units 152 = .ok (.aload_n 0, 1) := by decide +kernel
theorem d_Mo_units_153 : decode b_Mo_units 153 = .ok (.ldc 246, 2) := by decide +kernel
theorem d_Mo_units_155 : decode b_Mo_units 155 = .ok (.invokevirtual 248, 3) := by decide +kernel
theorem d_Mo_units_158 : decode b_Mo_units 158 = .ok (.bipush 12, 2) := by decide +kernel
theorem d_Mo_units_160 : decode b_Mo_units 160 = .ok (.istore 8, 2) := by decide +kernel
theorem d_Mo_units_162 : decode b_Mo_units 162 = .ok (.iload 8, 2) := by decide +kernel
theorem d_Mo_units_164 : decode b_Mo_units 164 = .ok (.ifCond .lt 26, 3) := by decide +kernel
theorem d_Mo_units_167 : decode b_Mo_units 167 = .ok (.aload_n 0, 1) := by decide +kernel
theorem d_Mo_units_168 : decode b_Mo_units 168 = .ok (.ldc 251, 2) := by decide +kernel
theorem d_Mo_units_170 : decode b_Mo_units 170 = .ok (.iload 6, 2) := by decide +kernel
theorem d_Mo_units_172 : decode b_Mo_units 172 = .ok (.iload 8, 2) := by decide +kernel
theorem d_Mo_units_174 : decode b_Mo_units 174 = .ok (.ishr, 1) := by decide +kernel
theorem d_Mo_units_175 : decode b_Mo_units 175 = .ok (.bipush 15, 2) := by decide +kernel
theorem d_Mo_units_177 : decode b_Mo_units 177 = .ok (.iand, 1) := by decide +kernel
theorem d_Mo_units_178 : decode b_Mo_units 178 = .ok (.invokevirtual 159, 3) := by decide +kernel
theorem d_Mo_units_181 : decode b_Mo_units 181 = .ok (.invokevirtual 239, 3) := by decide +kernel
theorem d_Mo_units_184 : decode b_Mo_units 184 = .ok (.iinc 8 (-4), 3) := by decide +kernel
theorem d_Mo_units_187 : decode b_Mo_units 187 = .ok (.goto (-25), 3) := by decide +kernel
theorem d_Mo_units_190 : decode b_Mo_units 190 = .ok (.goto 9, 3) := by decide +kernel
theorem d_Mo_units_193 : decode b_Mo_units 193 = .ok (.aload_n 0, 1) := by decide +kernel
theorem d_Mo_units_194 : decode b_Mo_units 194 = .ok (.iload 6, 2) := by decide +kernel
theorem d_Mo_units_196 : decode b_Mo_units 196 = .ok (.invokevirtual 239, 3) := by decide +kernel
theorem d_Mo_units_199 : decode b_Mo_units 199 = .ok (.iinc 5 1, 3) := by decide +kernel
theorem d_Mo_units_202 : decode b_Mo_units 202 = .ok (.goto (-193), 3) := by decide +kernel
theorem d_Mo_units_205 : decode b_Mo_units 205 = .ok (.aload_n 0, 1) := by decide +kernel
theorem d_Mo_units_206 : decode b_Mo_units 206 = .ok (.iload 4, 2) := by decide +kernel
theorem d_Mo_units_208 : decode b_Mo_units 208 = .ok (.invokevirtual 239, 3) := by decide +kernel
theorem d_Mo_units_211 : decode b_Mo_units 211 = .ok (.return_, 1) := by decide +kernel
set_option maxHeartbeats 4000000 in
set_option maxRecDepth 100000 in
/-- the reference: units -/
theorem c_Mo_units (l : Launch) (dC : Nat → ClassId) (dI : Nat → Nat → Nat) (mo : Nat) (sz : Heap) (v : Nat → Value) (cB cC : ClassId) (qo : Nat) (s0 : PS) (K : Nat → Nat × Nat) (t : Nat) (T : TS) (st ln : Nat) (q : Int32) (hk0 : s0.1 ≤ 16384) (h10 : v 10 = .ref qo) (hT : TOK T) (hsl : st + ln ≤ T.us) : Met l y_Mo_units (k_Mo_units :: gtbl) ({ frames := 5, cells := 0, slots := 0, locals := 120 }) (va_Pc [.ref mo, .ref t, .int (nI st), .int (nI ln), .int q] (me K dC dI [(mo, .inr (13, MF 30 (nf v s0.1 s0.2.1))), (qo, .inl (cB, 16392, .inl s0.2.2)), (t, .inr (12, MF 13 (tw T))), (T.au, .inl (cC, T.U, .inl T.un))] [(cB, .byte), (cC, .char)] sz)) (va_Qv (fun (_ : Unit) => True) (fun _ => mz dC dI [(mo, .inr (13, MF 30 (nf v (penL s0 (unL q (sl T.un st ln))).1 (penL s0 (unL q (sl T.un st ln))).2.1))), (qo, .inl (cB, 16392, .inl (penL s0 (unL q (sl T.un st ln))).2.2)), (t, .inr (12, MF 13 (tw T))), (T.au, .inl (cC, T.U, .inl T.un))] [(cB, .byte), (cC, .char)] (va_A [(mo, .inr (13, MF 30 (nf v s0.1 s0.2.1))), (qo, .inl (cB, 16392, .inl s0.2.2)), (t, .inr (12, MF 13 (tw T))), (T.au, .inl (cC, T.U, .inl T.un))] sz.size)) (va_A [(mo, .inr (13, MF 30 (nf v s0.1 s0.2.1))), (qo, .inl (cB, 16392, .inl s0.2.2)), (t, .inr (12, MF 13 (tw T))), (T.au, .inl (cC, T.U, .inl T.un))] sz.size)) 0 0 (va_A [(mo, .inr (13, MF 30 (nf v s0.1 s0.2.1))), (qo, .inl (cB, 16392, .inl s0.2.2)), (t, .inr (12, MF 13 (tw T))), (T.au, .inl (cC, T.U, .inl T.un))] sz.size) := by
  refine Met.ofW (cc := b_Mo_units) (maxL := 9) (ret := none) (by decide) rfl ?_
  intro p e s m args below meth c s₁ B hml hv
  obtain ⟨rfl, ⟨hsz, hP, hK, hD0⟩, hM⟩ := hv
  have hx := B.exec
  have hb := B.bytes
  have hr := B.returns
  have hts0 := atoms_spec (ws := k_Mo_units :: gtbl) B.pre
  have hts := fun w h => hts0 w (List.mem_cons_of_mem _ h)
  have hown : s.vm.findClass R_Mo = some m.cls := findClass_of_methodNamed B.named
  have hlocks := B.notSynchronized
  subst hsz
  have hD := hD0.self (sz := s.heap.size)
  generalize hAe : va_A [(mo, .inr (13, MF 30 (nf v s0.1 s0.2.1))), (qo, .inl (cB, 16392, .inl s0.2.2)), (t, .inr (12, MF 13 (tw T))), (T.au, .inl (cC, T.U, .inl T.un))] s.heap.size = A at hD hM ⊢
  have hA : ∀ q : Nat, s.heap.size ≤ q → A q := fun q h => by rw [← hAe]; exact Or.inr h
  have hS : va_S A s.heap s.heap [] := va_S.rf
  have hP : va_P (dC, dI) classes [(mo, .inr (13, MF 30 (nf v s0.1 s0.2.1))), (qo, .inl (cB, 16392, .inl s0.2.2)), (t, .inr (12, MF 13 (tw T))), (T.au, .inl (cC, T.U, .inl T.un))] s.heap := hP
  have hl := lv_entry ([.ref mo, .ref t, .int (nI st), .int (nI ln), .int q]) (n := 9) (Nat.le_of_ble_eq_true rfl)
  rw [lg_entry_eq]
  generalize (lg_sl ([.ref mo, .ref t, .int (nI st), .int (nI ln), .int q]) ++ List.replicate (9 - (lg_sl ([.ref mo, .ref t, .int (nI st), .int (nI ln), .int q])).length) Slot.unset).toArray = ls at hl ⊢
  have hl : lv_has ls 9 [(0, .ref mo), (1, .ref t), (2, .int (nI st)), (3, .int (nI ln)), (4, .int q)] := hl
  obtain ⟨ho1, ho2, ho3, ho4, ho5, ho6, ho7⟩ := hT
  have hP : va_P (dC, dI) classes [(mo, .inr (13, MF 30 (nf v (penL s0 ([])).1 (penL s0 ([])).2.1))), (qo, .inl (cB, 16392, .inl (penL s0 ([])).2.2)), (t, .inr (12, MF 13 (tw T))), (T.au, .inl (cC, T.U, .inl T.un))] s.heap := hP
  have hD : va_D A [(mo, .inr (13, MF 30 (nf v (penL s0 ([])).1 (penL s0 ([])).2.1))), (qo, .inl (cB, 16392, .inl (penL s0 ([])).2.2)), (t, .inr (12, MF 13 (tw T))), (T.au, .inl (cC, T.U, .inl T.un))] := hD
  refine lv_aload_n hx hb d_Mo_units_0 rfl (lv_at hl 0 rfl) ?_
  refine lv_iload hx hb d_Mo_units_1 (lv_at hl 4 rfl) ?_
  have hPc := hP.sub (ws' := [(mo, .inr (13, MF 30 (nf v (penL s0 ([])).1 (penL s0 ([])).2.1))), (qo, .inl (cB, 16392, .inl (penL s0 ([])).2.2))]) [0, 1] rfl
  have hDc := hD.sub (ws' := [(mo, .inr (13, MF 30 (nf v (penL s0 ([])).1 (penL s0 ([])).2.1))), (qo, .inl (cB, 16392, .inl (penL s0 ([])).2.2))]) [0, 1] (by decide) rfl
  have hKc := hK.sub (tys' := [(cB, .byte)]) [0] rfl
  have hFc := va_free (wc := [(mo, .inr (13, MF 30 (nf v (penL s0 ([])).1 (penL s0 ([])).2.1))), (qo, .inl (cB, 16392, .inl (penL s0 ([])).2.2))]) hD hS hA [0, 1] rfl
  refine va_callv (va_runV (As := [.int q]) (rest := []) ⟨hx, hb, hml, hown, hts⟩ (c_Mo_pen l dC dI mo s.heap v cB qo (penL s0 ([])) q (penL_le hk0 _) h10) (cwV 1 hts (gt_V (own := R_Mo) (C := R_Mo) (i := 239) (y := y_Mo_write) i_Mo_write w_1374 w_1376 (gt_sel (y := y_Mo_write) (n := 30) (by decide +kernel)) w_7) rfl rfl rfl (by decide +kernel) ⟨Nat.le_of_ble_eq_true rfl, Nat.le_of_ble_eq_true rfl⟩) ⟨mp_blind, va_recv hKc hPc (ci := 13) (q0 := 0) rfl rfl, fun U hU hW => ⟨rfl, hU, by rw [hU]; exact hPc, va_K.moved hW.alike hKc, hDc.weaken (fun _ _ _ _ => trivial)⟩⟩ rfl rfl hl.1 rfl (lv_room (Nat.le_of_ble_eq_true rfl)) d_Mo_units_3 ⟨Nat.le_of_ble_eq_true rfl, Nat.le_of_ble_eq_true rfl⟩) hS (fun q _ h => hFc q h) hFc (fun u2 t9 H1 locs ht hvm hw hB hz1 hk1 hS => ?_)
  obtain ⟨hP1, hK1, hD1⟩ := hB
  rw [ht] at hP1
  obtain ⟨hP, hD⟩ := va_join (wr := [(t, .inr (12, MF 13 (tw T))), (T.au, .inl (cC, T.U, .inl T.un))]) (w1 := [(mo, .inr (13, MF 30 (nf v u2.1 u2.2.1))), (qo, .inl (cB, 16392, .inl u2.2.2))]) hP hD [0, 1] [2, 3] rfl rfl (by decide) (by decide) hk1 hFc hP1 hD1
  generalize H1 = H at hP hS ⊢
  have hP : va_P (dC, dI) classes [(t, .inr (12, MF 13 (tw T))), (T.au, .inl (cC, T.U, .inl T.un)), (mo, .inr (13, MF 30 (nf v u2.1 u2.2.1))), (qo, .inl (cB, 16392, .inl u2.2.2))] H := hP
  have hD : va_D A [(t, .inr (12, MF 13 (tw T))), (T.au, .inl (cC, T.U, .inl T.un)), (mo, .inr (13, MF 30 (nf v u2.1 u2.2.1))), (qo, .inl (cB, 16392, .inl u2.2.2))] := hD
  have hP := hP.sub (ws' := [(mo, .inr (13, MF 30 (nf v u2.1 u2.2.1))), (qo, .inl (cB, 16392, .inl u2.2.2)), (t, .inr (12, MF 13 (tw T))), (T.au, .inl (cC, T.U, .inl T.un))]) [2, 3, 0, 1] rfl
  have hD := hD.sub (ws' := [(mo, .inr (13, MF 30 (nf v u2.1 u2.2.1))), (qo, .inl (cB, 16392, .inl u2.2.2)), (t, .inr (12, MF 13 (tw T))), (T.au, .inl (cC, T.U, .inl T.un))]) [2, 3, 0, 1] (by decide) rfl
  have hw : u2 = pen1 (penL s0 ([])) q := hw
  rw [penL_snoc] at hw
  subst hw
  have hP : va_P (dC, dI) classes [(mo, .inr (13, MF 30 (nf v (penL s0 ([] ++ [q])).1 (penL s0 ([] ++ [q])).2.1))), (qo, .inl (cB, 16392, .inl (penL s0 ([] ++ [q])).2.2)), (t, .inr (12, MF 13 (tw T))), (T.au, .inl (cC, T.U, .inl T.un))] H := hP
  have hD : va_D A [(mo, .inr (13, MF 30 (nf v (penL s0 ([] ++ [q])).1 (penL s0 ([] ++ [q])).2.1))), (qo, .inl (cB, 16392, .inl (penL s0 ([] ++ [q])).2.2)), (t, .inr (12, MF 13 (tw T))), (T.au, .inl (cC, T.U, .inl T.un))] := hD
  refine lv_iload_n hx hb d_Mo_units_6 rfl (lv_at hl 2 rfl) ?_
  refine lv_istore (lv' := [(5, .int (nI st)), (0, .ref mo), (1, .ref t), (2, .int (nI st)), (3, .int (nI ln)), (4, .int q)]) hx hb d_Mo_units_7 hl (by decide) rfl (fun ls hl => ?_)
  have hl : lv_has ls 9 [(5, .int (nI (st + 0))), (0, .ref mo), (1, .ref t), (2, .int (nI st)), (3, .int (nI ln)), (4, .int q)] := hl
  refine w_loop (D := (dC, dI)) (cl := classes) (A := A) (H0 := s.heap) (nL := 9) 9 (σ := Nat) (fun j => j ≤ ln) (fun j => ln - j) (fun j => [(mo, .inr (13, MF 30 (nf v (penL s0 (upL q (fun i9 => T.un (st + i9)) j)).1 (penL s0 (upL q (fun i9 => T.un (st + i9)) j)).2.1))), (qo, .inl (cB, 16392, .inl (penL s0 (upL q (fun i9 => T.un (st + i9)) j)).2.2)), (t, .inr (12, MF 13 (tw T))), (T.au, .inl (cC, T.U, .inl T.un))]) (fun j => [(0, .ref mo), (1, .ref t), (2, .int (nI st)), (3, .int (nI ln)), (4, .int q), (5, .int (nI (st + j)))]) ?_ 0 (Nat.zero_le _) hP hD hS (lv_sub hl [1, 2, 3, 4, 5, 0] rfl)
  rintro j H locs ls hI ih hP hD hS hl
  have hP : va_P (dC, dI) classes [(mo, .inr (13, MF 30 (nf v (penL s0 (upL q (fun i9 => T.un (st + i9)) j)).1 (penL s0 (upL q (fun i9 => T.un (st + i9)) j)).2.1))), (qo, .inl (cB, 16392, .inl (penL s0 (upL q (fun i9 => T.un (st + i9)) j)).2.2)), (t, .inr (12, MF 13 (tw T))), (T.au, .inl (cC, T.U, .inl T.un))] H := hP
  have hD : va_D A [(mo, .inr (13, MF 30 (nf v (penL s0 (upL q (fun i9 => T.un (st + i9)) j)).1 (penL s0 (upL q (fun i9 => T.un (st + i9)) j)).2.1))), (qo, .inl (cB, 16392, .inl (penL s0 (upL q (fun i9 => T.un (st + i9)) j)).2.2)), (t, .inr (12, MF 13 (tw T))), (T.au, .inl (cC, T.U, .inl T.un))] := hD
  have hl : lv_has ls 9 [(0, .ref mo), (1, .ref t), (2, .int (nI st)), (3, .int (nI ln)), (4, .int q), (5, .int (nI (st + j)))] := hl
  refine lv_iload hx hb d_Mo_units_9 (lv_at hl 5 rfl) ?_
  refine lv_iload_n hx hb d_Mo_units_11 rfl (lv_at hl 2 rfl) ?_
  refine lv_iload_n hx hb d_Mo_units_12 rfl (lv_at hl 3 rfl) ?_
  refine lv_iadd hx hb d_Mo_units_13 ?_
  refine W.eq (g2 := F0 m 14 ls [.int (nI (st + ln)), .int (nI (st + j))]) (by rw [show ((nI st) + (nI ln)) = (nI (st + ln)) from nI_add _ _]) ?_
  refine lv_icmp_ge (tgt := 205) hx hb d_Mo_units_14 (by decide) (fun c14 => ?_) (fun c14 => ?_)
  · refine lv_aload_n hx hb d_Mo_units_205 rfl (lv_at hl 0 rfl) ?_
    refine lv_iload hx hb d_Mo_units_206 (lv_at hl 4 rfl) ?_
    have hPc := hP.sub (ws' := [(mo, .inr (13, MF 30 (nf v (penL s0 (upL q (fun i9 => T.un (st + i9)) j)).1 (penL s0 (upL q (fun i9 => T.un (st + i9)) j)).2.1))), (qo, .inl (cB, 16392, .inl (penL s0 (upL q (fun i9 => T.un (st + i9)) j)).2.2))]) [0, 1] rfl
    have hDc := hD.sub (ws' := [(mo, .inr (13, MF 30 (nf v (penL s0 (upL q (fun i9 => T.un (st + i9)) j)).1 (penL s0 (upL q (fun i9 => T.un (st + i9)) j)).2.1))), (qo, .inl (cB, 16392, .inl (penL s0 (upL q (fun i9 => T.un (st + i9)) j)).2.2))]) [0, 1] (by decide) rfl
    have hKc := hK.sub (tys' := [(cB, .byte)]) [0] rfl
    have hFc := va_free (wc := [(mo, .inr (13, MF 30 (nf v (penL s0 (upL q (fun i9 => T.un (st + i9)) j)).1 (penL s0 (upL q (fun i9 => T.un (st + i9)) j)).2.1))), (qo, .inl (cB, 16392, .inl (penL s0 (upL q (fun i9 => T.un (st + i9)) j)).2.2))]) hD hS hA [0, 1] rfl
    refine va_callv (va_runV (As := [.int q]) (rest := []) ⟨hx, hb, hml, hown, hts⟩ (c_Mo_pen l dC dI mo H v cB qo (penL s0 (upL q (fun i9 => T.un (st + i9)) j)) q (penL_le hk0 _) h10) (cwV 1 hts (gt_V (own := R_Mo) (C := R_Mo) (i := 239) (y := y_Mo_write) i_Mo_write w_1374 w_1376 (gt_sel (y := y_Mo_write) (n := 30) (by decide +kernel)) w_7) rfl rfl rfl (by decide +kernel) ⟨Nat.le_of_ble_eq_true rfl, Nat.le_of_ble_eq_true rfl⟩) ⟨mp_blind, va_recv hKc hPc (ci := 13) (q0 := 0) rfl rfl, fun U hU hW => ⟨rfl, hU, by rw [hU]; exact hPc, va_K.moved hW.alike hKc, hDc.weaken (fun _ _ _ _ => trivial)⟩⟩ rfl rfl hl.1 rfl (lv_room (Nat.le_of_ble_eq_true rfl)) d_Mo_units_208 ⟨Nat.le_of_ble_eq_true rfl, Nat.le_of_ble_eq_true rfl⟩) hS (fun q _ h => hFc q h) hFc (fun u2 t9 H1 locs ht hvm hw hB hz1 hk1 hS => ?_)
    obtain ⟨hP1, hK1, hD1⟩ := hB
    rw [ht] at hP1
    obtain ⟨hP, hD⟩ := va_join (wr := [(t, .inr (12, MF 13 (tw T))), (T.au, .inl (cC, T.U, .inl T.un))]) (w1 := [(mo, .inr (13, MF 30 (nf v u2.1 u2.2.1))), (qo, .inl (cB, 16392, .inl u2.2.2))]) hP hD [0, 1] [2, 3] rfl rfl (by decide) (by decide) hk1 hFc hP1 hD1
    generalize H1 = H at hP hS ⊢
    have hP : va_P (dC, dI) classes [(t, .inr (12, MF 13 (tw T))), (T.au, .inl (cC, T.U, .inl T.un)), (mo, .inr (13, MF 30 (nf v u2.1 u2.2.1))), (qo, .inl (cB, 16392, .inl u2.2.2))] H := hP
    have hD : va_D A [(t, .inr (12, MF 13 (tw T))), (T.au, .inl (cC, T.U, .inl T.un)), (mo, .inr (13, MF 30 (nf v u2.1 u2.2.1))), (qo, .inl (cB, 16392, .inl u2.2.2))] := hD
    have hP := hP.sub (ws' := [(mo, .inr (13, MF 30 (nf v u2.1 u2.2.1))), (qo, .inl (cB, 16392, .inl u2.2.2)), (t, .inr (12, MF 13 (tw T))), (T.au, .inl (cC, T.U, .inl T.un))]) [2, 3, 0, 1] rfl
    have hD := hD.sub (ws' := [(mo, .inr (13, MF 30 (nf v u2.1 u2.2.1))), (qo, .inl (cB, 16392, .inl u2.2.2)), (t, .inr (12, MF 13 (tw T))), (T.au, .inl (cC, T.U, .inl T.un))]) [2, 3, 0, 1] (by decide) rfl
    have hw : u2 = pen1 (penL s0 (upL q (fun i9 => T.un (st + i9)) j)) q := hw
    rw [penL_snoc] at hw
    subst hw
    have hP : va_P (dC, dI) classes [(mo, .inr (13, MF 30 (nf v (penL s0 (upL q (fun i9 => T.un (st + i9)) j ++ [q])).1 (penL s0 (upL q (fun i9 => T.un (st + i9)) j ++ [q])).2.1))), (qo, .inl (cB, 16392, .inl (penL s0 (upL q (fun i9 => T.un (st + i9)) j ++ [q])).2.2)), (t, .inr (12, MF 13 (tw T))), (T.au, .inl (cC, T.U, .inl T.un))] H := hP
    have hD : va_D A [(mo, .inr (13, MF 30 (nf v (penL s0 (upL q (fun i9 => T.un (st + i9)) j ++ [q])).1 (penL s0 (upL q (fun i9 => T.un (st + i9)) j ++ [q])).2.1))), (qo, .inl (cB, 16392, .inl (penL s0 (upL q (fun i9 => T.un (st + i9)) j ++ [q])).2.2)), (t, .inr (12, MF 13 (tw T))), (T.au, .inl (cC, T.U, .inl T.un))] := hD
    have hjl : j = ln := by rw [nI_leI (by omega) (by omega)] at c14; omega
    rw [hjl, upL_sl] at hP hD
    exact W.vret hx hb hr (fun t9 ht hW => ⟨⟨(), rfl, trivial, by rw [ht]; exact hP, va_K.moved hW.alike hK, hD⟩, hS.F ht⟩) hS.2.2 d_Mo_units_211
  · refine lv_aload_n hx hb d_Mo_units_17 rfl (lv_at hl 1 rfl) ?_
    refine va_get (D := (dC, dI)) (ci := 12) (v := .ref T.au) (C := R_Tree) (T := F_Tree) (N := 13) hx hb hts in_Tree hown hK hP 2 rfl rfl 11 (by decide) (hts _ w_1056) (fun _ h9 => h9) (MFg (by decide) rfl) d_Mo_units_18 ?_
    refine lv_iload hx hb d_Mo_units_21 (lv_at hl 5 rfl) ?_
    have hj : j < ln := by rw [nI_leI (by omega) (by omega)] at c14; omega
    refine va_cald hx hb hK hP 3 1 rfl rfl (vp_in_nI (show st + j < T.U by omega) (by omega)) d_Mo_units_23 ?_
    rw [show (nI (st + j)).toNatClampNeg = st + j from nI_clamp (by omega)]
    obtain ⟨u9, hu9⟩ : ∃ z, z = T.un (st + j) := ⟨_, rfl⟩
    rw [← hu9]
    refine lv_istore (lv' := [(6, .int u9), (0, .ref mo), (1, .ref t), (2, .int (nI st)), (3, .int (nI ln)), (4, .int q), (5, .int (nI (st + j)))]) hx hb d_Mo_units_24 hl (by decide) rfl (fun ls hl => ?_)
    refine lv_iload hx hb d_Mo_units_26 (lv_at hl 0 rfl) ?_
    refine lv_bipush (v := 8) hx hb d_Mo_units_28 (by decide) ?_
    refine lv_icmp_ne (tgt := 37) hx hb d_Mo_units_30 (by decide) (fun c30 => ?_) (fun c30 => ?_)
    · refine lv_iload hx hb d_Mo_units_37 (lv_at hl 0 rfl) ?_
      refine lv_bipush (v := 9) hx hb d_Mo_units_39 (by decide) ?_
      refine lv_icmp_ne (tgt := 48) hx hb d_Mo_units_41 (by decide) (fun c41 => ?_) (fun c41 => ?_)
      · refine lv_iload hx hb d_Mo_units_48 (lv_at hl 0 rfl) ?_
        refine lv_bipush (v := 10) hx hb d_Mo_units_50 (by decide) ?_
        refine lv_icmp_ne (tgt := 59) hx hb d_Mo_units_52 (by decide) (fun c52 => ?_) (fun c52 => ?_)
        · refine lv_iload hx hb d_Mo_units_59 (lv_at hl 0 rfl) ?_
          refine lv_bipush (v := 12) hx hb d_Mo_units_61 (by decide) ?_
          refine lv_icmp_ne (tgt := 70) hx hb d_Mo_units_63 (by decide) (fun c63 => ?_) (fun c63 => ?_)
          · refine lv_iload hx hb d_Mo_units_70 (lv_at hl 0 rfl) ?_
            refine lv_bipush (v := 13) hx hb d_Mo_units_72 (by decide) ?_
            refine lv_icmp_ne (tgt := 81) hx hb d_Mo_units_74 (by decide) (fun c74 => ?_) (fun c74 => ?_)
            · refine lv_iconst (v := (-1)) hx hb d_Mo_units_81 (by decide) ?_
              refine lv_istore (lv' := [(7, .int (-1)), (6, .int u9), (0, .ref mo), (1, .ref t), (2, .int (nI st)), (3, .int (nI ln)), (4, .int q), (5, .int (nI (st + j)))]) hx hb d_Mo_units_82 hl (by decide) rfl (fun ls hl => ?_)
              refine lv_iload hx hb d_Mo_units_84 (lv_at hl 1 rfl) ?_
              refine lv_iload hx hb d_Mo_units_86 (lv_at hl 6 rfl) ?_
              refine lv_icmp_eq (tgt := 98) hx hb d_Mo_units_88 (by decide) (fun c88 => ?_) (fun c88 => ?_)
              · refine lv_aload_n hx hb d_Mo_units_98 rfl (lv_at hl 2 rfl) ?_
                refine lv_bipush (v := 92) hx hb d_Mo_units_99 (by decide) ?_
                have hPc := hP.sub (ws' := [(mo, .inr (13, MF 30 (nf v (penL s0 (upL q (fun i9 => T.un (st + i9)) j)).1 (penL s0 (upL q (fun i9 => T.un (st + i9)) j)).2.1))), (qo, .inl (cB, 16392, .inl (penL s0 (upL q (fun i9 => T.un (st + i9)) j)).2.2))]) [0, 1] rfl
                have hDc := hD.sub (ws' := [(mo, .inr (13, MF 30 (nf v (penL s0 (upL q (fun i9 => T.un (st + i9)) j)).1 (penL s0 (upL q (fun i9 => T.un (st + i9)) j)).2.1))), (qo, .inl (cB, 16392, .inl (penL s0 (upL q (fun i9 => T.un (st + i9)) j)).2.2))]) [0, 1] (by decide) rfl
                have hKc := hK.sub (tys' := [(cB, .byte)]) [0] rfl
                have hFc := va_free (wc := [(mo, .inr (13, MF 30 (nf v (penL s0 (upL q (fun i9 => T.un (st + i9)) j)).1 (penL s0 (upL q (fun i9 => T.un (st + i9)) j)).2.1))), (qo, .inl (cB, 16392, .inl (penL s0 (upL q (fun i9 => T.un (st + i9)) j)).2.2))]) hD hS hA [0, 1] rfl
                refine va_callv (va_runV (As := [.int 92]) (rest := []) ⟨hx, hb, hml, hown, hts⟩ (c_Mo_pen l dC dI mo H v cB qo (penL s0 (upL q (fun i9 => T.un (st + i9)) j)) 92 (penL_le hk0 _) h10) (cwV 1 hts (gt_V (own := R_Mo) (C := R_Mo) (i := 239) (y := y_Mo_write) i_Mo_write w_1374 w_1376 (gt_sel (y := y_Mo_write) (n := 30) (by decide +kernel)) w_7) rfl rfl rfl (by decide +kernel) ⟨Nat.le_of_ble_eq_true rfl, Nat.le_of_ble_eq_true rfl⟩) ⟨mp_blind, va_recv hKc hPc (ci := 13) (q0 := 0) rfl rfl, fun U hU hW => ⟨rfl, hU, by rw [hU]; exact hPc, va_K.moved hW.alike hKc, hDc.weaken (fun _ _ _ _ => trivial)⟩⟩ rfl rfl hl.1 rfl (lv_room (Nat.le_of_ble_eq_true rfl)) d_Mo_units_101 ⟨Nat.le_of_ble_eq_true rfl, Nat.le_of_ble_eq_true rfl⟩) hS (fun q _ h => hFc q h) hFc (fun u2 t9 H1 locs ht hvm hw hB hz1 hk1 hS => ?_)
                obtain ⟨hP1, hK1, hD1⟩ := hB
                rw [ht] at hP1
                obtain ⟨hP, hD⟩ := va_join (wr := [(t, .inr (12, MF 13 (tw T))), (T.au, .inl (cC, T.U, .inl T.un))]) (w1 := [(mo, .inr (13, MF 30 (nf v u2.1 u2.2.1))), (qo, .inl (cB, 16392, .inl u2.2.2))]) hP hD [0, 1] [2, 3] rfl rfl (by decide) (by decide) hk1 hFc hP1 hD1
                generalize H1 = H at hP hS ⊢
                have hP : va_P (dC, dI) classes [(t, .inr (12, MF 13 (tw T))), (T.au, .inl (cC, T.U, .inl T.un)), (mo, .inr (13, MF 30 (nf v u2.1 u2.2.1))), (qo, .inl (cB, 16392, .inl u2.2.2))] H := hP
                have hD : va_D A [(t, .inr (12, MF 13 (tw T))), (T.au, .inl (cC, T.U, .inl T.un)), (mo, .inr (13, MF 30 (nf v u2.1 u2.2.1))), (qo, .inl (cB, 16392, .inl u2.2.2))] := hD
                have hP := hP.sub (ws' := [(mo, .inr (13, MF 30 (nf v u2.1 u2.2.1))), (qo, .inl (cB, 16392, .inl u2.2.2)), (t, .inr (12, MF 13 (tw T))), (T.au, .inl (cC, T.U, .inl T.un))]) [2, 3, 0, 1] rfl
                have hD := hD.sub (ws' := [(mo, .inr (13, MF 30 (nf v u2.1 u2.2.1))), (qo, .inl (cB, 16392, .inl u2.2.2)), (t, .inr (12, MF 13 (tw T))), (T.au, .inl (cC, T.U, .inl T.un))]) [2, 3, 0, 1] (by decide) rfl
                have hw : u2 = pen1 (penL s0 (upL q (fun i9 => T.un (st + i9)) j)) 92 := hw
                rw [penL_snoc] at hw
                subst hw
                have hP : va_P (dC, dI) classes [(mo, .inr (13, MF 30 (nf v (penL s0 (upL q (fun i9 => T.un (st + i9)) j ++ [92])).1 (penL s0 (upL q (fun i9 => T.un (st + i9)) j ++ [92])).2.1))), (qo, .inl (cB, 16392, .inl (penL s0 (upL q (fun i9 => T.un (st + i9)) j ++ [92])).2.2)), (t, .inr (12, MF 13 (tw T))), (T.au, .inl (cC, T.U, .inl T.un))] H := hP
                have hD : va_D A [(mo, .inr (13, MF 30 (nf v (penL s0 (upL q (fun i9 => T.un (st + i9)) j ++ [92])).1 (penL s0 (upL q (fun i9 => T.un (st + i9)) j ++ [92])).2.1))), (qo, .inl (cB, 16392, .inl (penL s0 (upL q (fun i9 => T.un (st + i9)) j ++ [92])).2.2)), (t, .inr (12, MF 13 (tw T))), (T.au, .inl (cC, T.U, .inl T.un))] := hD
                refine lv_aload_n hx hb d_Mo_units_104 rfl (lv_at hl 2 rfl) ?_
                refine lv_iload hx hb d_Mo_units_105 (lv_at hl 1 rfl) ?_
                have hPc := hP.sub (ws' := [(mo, .inr (13, MF 30 (nf v (penL s0 (upL q (fun i9 => T.un (st + i9)) j ++ [92])).1 (penL s0 (upL q (fun i9 => T.un (st + i9)) j ++ [92])).2.1))), (qo, .inl (cB, 16392, .inl (penL s0 (upL q (fun i9 => T.un (st + i9)) j ++ [92])).2.2))]) [0, 1] rfl
                have hDc := hD.sub (ws' := [(mo, .inr (13, MF 30 (nf v (penL s0 (upL q (fun i9 => T.un (st + i9)) j ++ [92])).1 (penL s0 (upL q (fun i9 => T.un (st + i9)) j ++ [92])).2.1))), (qo, .inl (cB, 16392, .inl (penL s0 (upL q (fun i9 => T.un (st + i9)) j ++ [92])).2.2))]) [0, 1] (by decide) rfl
                have hKc := hK.sub (tys' := [(cB, .byte)]) [0] rfl
                have hFc := va_free (wc := [(mo, .inr (13, MF 30 (nf v (penL s0 (upL q (fun i9 => T.un (st + i9)) j ++ [92])).1 (penL s0 (upL q (fun i9 => T.un (st + i9)) j ++ [92])).2.1))), (qo, .inl (cB, 16392, .inl (penL s0 (upL q (fun i9 => T.un (st + i9)) j ++ [92])).2.2))]) hD hS hA [0, 1] rfl
                refine va_callv (va_runV (As := [.int u9]) (rest := []) ⟨hx, hb, hml, hown, hts⟩ (c_Mo_pen l dC dI mo H v cB qo (penL s0 (upL q (fun i9 => T.un (st + i9)) j ++ [92])) u9 (penL_le hk0 _) h10) (cwV 1 hts (gt_V (own := R_Mo) (C := R_Mo) (i := 239) (y := y_Mo_write) i_Mo_write w_1374 w_1376 (gt_sel (y := y_Mo_write) (n := 30) (by decide +kernel)) w_7) rfl rfl rfl (by decide +kernel) ⟨Nat.le_of_ble_eq_true rfl, Nat.le_of_ble_eq_true rfl⟩) ⟨mp_blind, va_recv hKc hPc (ci := 13) (q0 := 0) rfl rfl, fun U hU hW => ⟨rfl, hU, by rw [hU]; exact hPc, va_K.moved hW.alike hKc, hDc.weaken (fun _ _ _ _ => trivial)⟩⟩ rfl rfl hl.1 rfl (lv_room (Nat.le_of_ble_eq_true rfl)) d_Mo_units_107 ⟨Nat.le_of_ble_eq_true rfl, Nat.le_of_ble_eq_true rfl⟩) hS (fun q _ h => hFc q h) hFc (fun u2 t9 H1 locs ht hvm hw hB hz1 hk1 hS => ?_)
                obtain ⟨hP1, hK1, hD1⟩ := hB
                rw [ht] at hP1
                obtain ⟨hP, hD⟩ := va_join (wr := [(t, .inr (12, MF 13 (tw T))), (T.au, .inl (cC, T.U, .inl T.un))]) (w1 := [(mo, .inr (13, MF 30 (nf v u2.1 u2.2.1))), (qo, .inl (cB, 16392, .inl u2.2.2))]) hP hD [0, 1] [2, 3] rfl rfl (by decide) (by decide) hk1 hFc hP1 hD1
                generalize H1 = H at hP hS ⊢
                have hP : va_P (dC, dI) classes [(t, .inr (12, MF 13 (tw T))), (T.au, .inl (cC, T.U, .inl T.un)), (mo, .inr (13, MF 30 (nf v u2.1 u2.2.1))), (qo, .inl (cB, 16392, .inl u2.2.2))] H := hP
                have hD : va_D A [(t, .inr (12, MF 13 (tw T))), (T.au, .inl (cC, T.U, .inl T.un)), (mo, .inr (13, MF 30 (nf v u2.1 u2.2.1))), (qo, .inl (cB, 16392, .inl u2.2.2))] := hD
                have hP := hP.sub (ws' := [(mo, .inr (13, MF 30 (nf v u2.1 u2.2.1))), (qo, .inl (cB, 16392, .inl u2.2.2)), (t, .inr (12, MF 13 (tw T))), (T.au, .inl (cC, T.U, .inl T.un))]) [2, 3, 0, 1] rfl
                have hD := hD.sub (ws' := [(mo, .inr (13, MF 30 (nf v u2.1 u2.2.1))), (qo, .inl (cB, 16392, .inl u2.2.2)), (t, .inr (12, MF 13 (tw T))), (T.au, .inl (cC, T.U, .inl T.un))]) [2, 3, 0, 1] (by decide) rfl
                have hw : u2 = pen1 (penL s0 (upL q (fun i9 => T.un (st + i9)) j ++ [92])) u9 := hw
                rw [penL_snoc] at hw
                subst hw
                have hP : va_P (dC, dI) classes [(mo, .inr (13, MF 30 (nf v (penL s0 (upL q (fun i9 => T.un (st + i9)) j ++ [92] ++ [u9])).1 (penL s0 (upL q (fun i9 => T.un (st + i9)) j ++ [92] ++ [u9])).2.1))), (qo, .inl (cB, 16392, .inl (penL s0 (upL q (fun i9 => T.un (st + i9)) j ++ [92] ++ [u9])).2.2)), (t, .inr (12, MF 13 (tw T))), (T.au, .inl (cC, T.U, .inl T.un))] H := hP
                have hD : va_D A [(mo, .inr (13, MF 30 (nf v (penL s0 (upL q (fun i9 => T.un (st + i9)) j ++ [92] ++ [u9])).1 (penL s0 (upL q (fun i9 => T.un (st + i9)) j ++ [92] ++ [u9])).2.1))), (qo, .inl (cB, 16392, .inl (penL s0 (upL q (fun i9 => T.un (st + i9)) j ++ [92] ++ [u9])).2.2)), (t, .inr (12, MF 13 (tw T))), (T.au, .inl (cC, T.U, .inl T.un))] := hD
                refine lv_goto (tgt := 199) hx hb d_Mo_units_110 (by decide) ?_
                refine lv_iinc (v := nI (st + (j + 1))) (lv' := [(5, .int (nI (st + (j + 1)))), (7, .int (-1)), (6, .int u9), (0, .ref mo), (1, .ref t), (2, .int (nI st)), (3, .int (nI ln)), (4, .int q)]) hx hb d_Mo_units_199 hl (k := 7) rfl (nI_1 (st + j)) (by decide) rfl (fun ls hl => ?_)
                refine lv_goto (tgt := 9) hx hb d_Mo_units_202 (by decide) ?_
                have hek : escK u9 = (-1) := by unfold escK; rw [if_neg c30, if_neg c41, if_neg c52, if_neg c63, if_neg c74]
                have hun : upL q (fun i9 => T.un (st + i9)) (j + 1) = upL q (fun i9 => T.un (st + i9)) j ++ [92] ++ [u9] := by
                  show upL q (fun i9 => T.un (st + i9)) j ++ unB q (T.un (st + j)) = _
                  rw [← hu9]
                  unfold unB
                  rw [if_pos (Or.inl c88)]
                  simp only [List.append_assoc, List.cons_append, List.nil_append]; first | done | rfl
                rw [← hun] at hP hD
                exact ih (j + 1) _ _ _ (by omega) (by show ln - (j + 1) < ln - j; omega) hP hD hS (lv_sub hl [3, 4, 5, 6, 7, 0] rfl)
              · refine lv_iload hx hb d_Mo_units_91 (lv_at hl 1 rfl) ?_
                refine lv_bipush (v := 92) hx hb d_Mo_units_93 (by decide) ?_
                refine lv_icmp_ne (tgt := 113) hx hb d_Mo_units_95 (by decide) (fun c95 => ?_) (fun c95 => ?_)
                · refine lv_iload hx hb d_Mo_units_113 (lv_at hl 0 rfl) ?_
                  refine lv_if_lt (tgt := 138) hx hb d_Mo_units_115 (by decide) (fun _ => ?_) (fun h => absurd (by decide) h)
                  refine lv_iload hx hb d_Mo_units_138 (lv_at hl 1 rfl) ?_
                  refine lv_bipush (v := 32) hx hb d_Mo_units_140 (by decide) ?_
                  refine lv_icmp_lt (tgt := 152) hx hb d_Mo_units_142 (by decide) (fun c142 => ?_) (fun c142 => ?_)
                  · refine lv_aload_n hx hb d_Mo_units_152 rfl (lv_at hl 2 rfl) ?_
                    refine va_ldcS hx hb hown (hM 5 _ rfl).2 d_Mo_units_153 ?_
                    have hE := (hM 5 _ rfl).1
                    have hPc := hP.sub (ws' := [(mo, .inr (13, MF 30 (nf v (penL s0 (upL q (fun i9 => T.un (st + i9)) j)).1 (penL s0 (upL q (fun i9 => T.un (st + i9)) j)).2.1))), (qo, .inl (cB, 16392, .inl (penL s0 (upL q (fun i9 => T.un (st + i9)) j)).2.2))]) [0, 1] rfl
                    have hDc := hD.sub (ws' := [(mo, .inr (13, MF 30 (nf v (penL s0 (upL q (fun i9 => T.un (st + i9)) j)).1 (penL s0 (upL q (fun i9 => T.un (st + i9)) j)).2.1))), (qo, .inl (cB, 16392, .inl (penL s0 (upL q (fun i9 => T.un (st + i9)) j)).2.2))]) [0, 1] (by decide) rfl
                    have hKc := hK.sub (tys' := [(cB, .byte)]) [0] rfl
                    have hFc := va_free (wc := [(mo, .inr (13, MF 30 (nf v (penL s0 (upL q (fun i9 => T.un (st + i9)) j)).1 (penL s0 (upL q (fun i9 => T.un (st + i9)) j)).2.1))), (qo, .inl (cB, 16392, .inl (penL s0 (upL q (fun i9 => T.un (st + i9)) j)).2.2))]) hD hS hA [0, 1] rfl
                    refine va_callv (va_runV (As := [.ref (K 5).1]) (rest := []) ⟨hx, hb, hml, hown, hts⟩ (c_Mo_writeS l dC dI mo H v cB qo (penL s0 (upL q (fun i9 => T.un (st + i9)) j)) (K 5).1 (K 5).2 2 (mtx 5) (penL_le hk0 _) (by decide) h10) (cwV 1 hts (gt_V (own := R_Mo) (C := R_Mo) (i := 248) (y := y_Mo_writeS) i_Mo_writeS w_1370 w_1372 (gt_sel (y := y_Mo_writeS) (n := 30) (by decide +kernel)) w_7) rfl rfl rfl (by decide +kernel) ⟨Nat.le_of_ble_eq_true rfl, Nat.le_of_ble_eq_true rfl⟩) ⟨mstr_blind, va_recv hKc hPc (ci := 13) (q0 := 0) rfl rfl, fun U hU hW => ⟨rfl, ⟨hU, by rw [hU]; exact hPc, va_K.moved hW.alike hKc, hDc.weaken (fun _ _ _ _ => trivial)⟩, by rw [hU]; exact SX.moved' hW.alike (SX.narrow' (SX.kept' hE hS.2.1) hFc)⟩⟩ rfl rfl hl.1 rfl (lv_room (Nat.le_of_ble_eq_true rfl)) d_Mo_units_155 ⟨Nat.le_of_ble_eq_true rfl, Nat.le_of_ble_eq_true rfl⟩) hS (fun q _ h => hFc q h) hFc (fun _u t9 H1 locs ht hvm hw hB hz1 hk1 hS => ?_)
                    obtain ⟨hP1, hK1, hD1⟩ := hB
                    rw [ht] at hP1
                    obtain ⟨hP, hD⟩ := va_join (wr := [(t, .inr (12, MF 13 (tw T))), (T.au, .inl (cC, T.U, .inl T.un))]) (w1 := [(mo, .inr (13, MF 30 (nf v (penN (mtx 5) (penL s0 (upL q (fun i9 => T.un (st + i9)) j)) 2).1 (penN (mtx 5) (penL s0 (upL q (fun i9 => T.un (st + i9)) j)) 2).2.1))), (qo, .inl (cB, 16392, .inl (penN (mtx 5) (penL s0 (upL q (fun i9 => T.un (st + i9)) j)) 2).2.2))]) hP hD [0, 1] [2, 3] rfl rfl (by decide) (by decide) hk1 hFc hP1 hD1
                    generalize H1 = H at hP hS ⊢
                    have hP : va_P (dC, dI) classes [(t, .inr (12, MF 13 (tw T))), (T.au, .inl (cC, T.U, .inl T.un)), (mo, .inr (13, MF 30 (nf v (penN (mtx 5) (penL s0 (upL q (fun i9 => T.un (st + i9)) j)) 2).1 (penN (mtx 5) (penL s0 (upL q (fun i9 => T.un (st + i9)) j)) 2).2.1))), (qo, .inl (cB, 16392, .inl (penN (mtx 5) (penL s0 (upL q (fun i9 => T.un (st + i9)) j)) 2).2.2))] H := hP
                    have hD : va_D A [(t, .inr (12, MF 13 (tw T))), (T.au, .inl (cC, T.U, .inl T.un)), (mo, .inr (13, MF 30 (nf v (penN (mtx 5) (penL s0 (upL q (fun i9 => T.un (st + i9)) j)) 2).1 (penN (mtx 5) (penL s0 (upL q (fun i9 => T.un (st + i9)) j)) 2).2.1))), (qo, .inl (cB, 16392, .inl (penN (mtx 5) (penL s0 (upL q (fun i9 => T.un (st + i9)) j)) 2).2.2))] := hD
                    have hP := hP.sub (ws' := [(mo, .inr (13, MF 30 (nf v (penN (mtx 5) (penL s0 (upL q (fun i9 => T.un (st + i9)) j)) 2).1 (penN (mtx 5) (penL s0 (upL q (fun i9 => T.un (st + i9)) j)) 2).2.1))), (qo, .inl (cB, 16392, .inl (penN (mtx 5) (penL s0 (upL q (fun i9 => T.un (st + i9)) j)) 2).2.2)), (t, .inr (12, MF 13 (tw T))), (T.au, .inl (cC, T.U, .inl T.un))]) [2, 3, 0, 1] rfl
                    have hD := hD.sub (ws' := [(mo, .inr (13, MF 30 (nf v (penN (mtx 5) (penL s0 (upL q (fun i9 => T.un (st + i9)) j)) 2).1 (penN (mtx 5) (penL s0 (upL q (fun i9 => T.un (st + i9)) j)) 2).2.1))), (qo, .inl (cB, 16392, .inl (penN (mtx 5) (penL s0 (upL q (fun i9 => T.un (st + i9)) j)) 2).2.2)), (t, .inr (12, MF 13 (tw T))), (T.au, .inl (cC, T.U, .inl T.un))]) [2, 3, 0, 1] (by decide) rfl
                    rw [show (penN (mtx 5) (penL s0 (upL q (fun i9 => T.un (st + i9)) j)) 2) = penL s0 (upL q (fun i9 => T.un (st + i9)) j ++ [92, 117]) from by rw [penN_L, penL_app]; rfl] at hP hD
                    have hP : va_P (dC, dI) classes [(mo, .inr (13, MF 30 (nf v (penL s0 (upL q (fun i9 => T.un (st + i9)) j ++ [92, 117])).1 (penL s0 (upL q (fun i9 => T.un (st + i9)) j ++ [92, 117])).2.1))), (qo, .inl (cB, 16392, .inl (penL s0 (upL q (fun i9 => T.un (st + i9)) j ++ [92, 117])).2.2)), (t, .inr (12, MF 13 (tw T))), (T.au, .inl (cC, T.U, .inl T.un))] H := hP
                    have hD : va_D A [(mo, .inr (13, MF 30 (nf v (penL s0 (upL q (fun i9 => T.un (st + i9)) j ++ [92, 117])).1 (penL s0 (upL q (fun i9 => T.un (st + i9)) j ++ [92, 117])).2.1))), (qo, .inl (cB, 16392, .inl (penL s0 (upL q (fun i9 => T.un (st + i9)) j ++ [92, 117])).2.2)), (t, .inr (12, MF 13 (tw T))), (T.au, .inl (cC, T.U, .inl T.un))] := hD
                    refine lv_bipush (v := 12) hx hb d_Mo_units_158 (by decide) ?_
                    refine lv_istore (lv' := [(8, .int 12), (7, .int (-1)), (6, .int u9), (0, .ref mo), (1, .ref t), (2, .int (nI st)), (3, .int (nI ln)), (4, .int q), (5, .int (nI (st + j)))]) hx hb d_Mo_units_160 hl (by decide) rfl (fun ls hl => ?_)
                    refine lv_iload hx hb d_Mo_units_162 (lv_at hl 0 rfl) ?_
                    refine lv_if_lt (tgt := 190) hx hb d_Mo_units_164 (by decide) (fun h => absurd h (by decide)) (fun _ => ?_)
                    refine lv_aload_n hx hb d_Mo_units_167 rfl (lv_at hl 3 rfl) ?_
                    refine va_ldcS hx hb hown (hM 6 _ rfl).2 d_Mo_units_168 ?_
                    refine lv_iload hx hb d_Mo_units_170 (lv_at hl 2 rfl) ?_
                    refine lv_iload hx hb d_Mo_units_172 (lv_at hl 0 rfl) ?_
                    refine lv_ishr hx hb d_Mo_units_174 ?_
                    refine lv_bipush (v := 15) hx hb d_Mo_units_175 (by decide) ?_
                    refine lv_iand hx hb d_Mo_units_177 ?_
                    obtain ⟨m0, hm0⟩ := and15 ((u9 >>> (12 &&& 31)))
                    refine W.eq (g2 := F0 m 178 ls [.int (nI m0), .ref (K 6).1, .ref mo]) (by rw [show ((u9 >>> (12 &&& 31)) &&& 15) = (nI m0) from hm0.2]) ?_
                    have hE := (hM 6 _ rfl).1
                    have hPc := hP.sub (ws' := []) [] rfl
                    have hDc := hD.sub (ws' := []) [] (by decide) rfl
                    have hKc := hK.sub (tys' := []) [] rfl
                    have hFc := va_free (wc := []) hD hS hA [] rfl
                    refine va_calli (va_runV (As := [.int (nI m0)]) (rest := [.ref mo]) ⟨hx, hb, hml, hown, hts⟩ (c_Str_charAt l dC dI H (K 6).1 (K 6).2 16 (mtx 6) m0 hm0.1 (by decide)) (cwV 1 hts (gt_V (own := R_Mo) (C := R_Str) (i := 159) (y := y_Str_charAt) i_Str_charAt w_1245 w_466 w_467 w_18) rfl rfl rfl (by decide +kernel) ⟨Nat.le_of_ble_eq_true rfl, Nat.le_of_ble_eq_true rfl⟩) ⟨mstr_blind, (by obtain ⟨cell, h1, h2, h3, -⟩ := va_O.kept hE.1 hS.2.1; exact ⟨cell, h1, h2, h3⟩), fun U hU hW => ⟨rfl, ⟨hU, by rw [hU]; exact hPc, va_K.moved hW.alike hKc, hDc.weaken (fun _ _ _ _ => trivial)⟩, by rw [hU]; exact SX.moved' hW.alike (SX.narrow' (SX.kept' hE hS.2.1) hFc)⟩⟩ rfl rfl hl.1 rfl (lv_room (Nat.le_of_ble_eq_true rfl)) d_Mo_units_178 ⟨Nat.le_of_ble_eq_true rfl, Nat.le_of_ble_eq_true rfl⟩) hS (fun q _ h => hFc q h) hFc (fun r0 _u t9 H1 locs ht hvm hw hB hz1 hk1 hS => ?_)
                    obtain ⟨hP1, hK1, hD1⟩ := hB
                    rw [ht] at hP1
                    obtain ⟨hP, hD⟩ := va_join (wr := [(mo, .inr (13, MF 30 (nf v (penL s0 (upL q (fun i9 => T.un (st + i9)) j ++ [92, 117])).1 (penL s0 (upL q (fun i9 => T.un (st + i9)) j ++ [92, 117])).2.1))), (qo, .inl (cB, 16392, .inl (penL s0 (upL q (fun i9 => T.un (st + i9)) j ++ [92, 117])).2.2)), (t, .inr (12, MF 13 (tw T))), (T.au, .inl (cC, T.U, .inl T.un))]) (w1 := []) hP hD [] [0, 1, 2, 3] rfl rfl (by decide) (by decide) hk1 hFc hP1 hD1
                    generalize H1 = H at hP hS ⊢
                    have hP : va_P (dC, dI) classes [(mo, .inr (13, MF 30 (nf v (penL s0 (upL q (fun i9 => T.un (st + i9)) j ++ [92, 117])).1 (penL s0 (upL q (fun i9 => T.un (st + i9)) j ++ [92, 117])).2.1))), (qo, .inl (cB, 16392, .inl (penL s0 (upL q (fun i9 => T.un (st + i9)) j ++ [92, 117])).2.2)), (t, .inr (12, MF 13 (tw T))), (T.au, .inl (cC, T.U, .inl T.un))] H := hP
                    have hD : va_D A [(mo, .inr (13, MF 30 (nf v (penL s0 (upL q (fun i9 => T.un (st + i9)) j ++ [92, 117])).1 (penL s0 (upL q (fun i9 => T.un (st + i9)) j ++ [92, 117])).2.1))), (qo, .inl (cB, 16392, .inl (penL s0 (upL q (fun i9 => T.un (st + i9)) j ++ [92, 117])).2.2)), (t, .inr (12, MF 13 (tw T))), (T.au, .inl (cC, T.U, .inl T.un))] := hD
                    have hw : r0 = (mtx 6) m0 &&& 255 := hw
                    subst hw
                    have hPc := hP.sub (ws' := [(mo, .inr (13, MF 30 (nf v (penL s0 (upL q (fun i9 => T.un (st + i9)) j ++ [92, 117])).1 (penL s0 (upL q (fun i9 => T.un (st + i9)) j ++ [92, 117])).2.1))), (qo, .inl (cB, 16392, .inl (penL s0 (upL q (fun i9 => T.un (st + i9)) j ++ [92, 117])).2.2))]) [0, 1] rfl
                    have hDc := hD.sub (ws' := [(mo, .inr (13, MF 30 (nf v (penL s0 (upL q (fun i9 => T.un (st + i9)) j ++ [92, 117])).1 (penL s0 (upL q (fun i9 => T.un (st + i9)) j ++ [92, 117])).2.1))), (qo, .inl (cB, 16392, .inl (penL s0 (upL q (fun i9 => T.un (st + i9)) j ++ [92, 117])).2.2))]) [0, 1] (by decide) rfl
                    have hKc := hK.sub (tys' := [(cB, .byte)]) [0] rfl
                    have hFc := va_free (wc := [(mo, .inr (13, MF 30 (nf v (penL s0 (upL q (fun i9 => T.un (st + i9)) j ++ [92, 117])).1 (penL s0 (upL q (fun i9 => T.un (st + i9)) j ++ [92, 117])).2.1))), (qo, .inl (cB, 16392, .inl (penL s0 (upL q (fun i9 => T.un (st + i9)) j ++ [92, 117])).2.2))]) hD hS hA [0, 1] rfl
                    refine va_callv (va_runV (As := [.int ((mtx 6) m0 &&& 255)]) (rest := []) ⟨hx, hb, hml, hown, hts⟩ (c_Mo_pen l dC dI mo H v cB qo (penL s0 (upL q (fun i9 => T.un (st + i9)) j ++ [92, 117])) (((mtx 6) m0 &&& 255)) (penL_le hk0 _) h10) (cwV 1 hts (gt_V (own := R_Mo) (C := R_Mo) (i := 239) (y := y_Mo_write) i_Mo_write w_1374 w_1376 (gt_sel (y := y_Mo_write) (n := 30) (by decide +kernel)) w_7) rfl rfl rfl (by decide +kernel) ⟨Nat.le_of_ble_eq_true rfl, Nat.le_of_ble_eq_true rfl⟩) ⟨mp_blind, va_recv hKc hPc (ci := 13) (q0 := 0) rfl rfl, fun U hU hW => ⟨rfl, hU, by rw [hU]; exact hPc, va_K.moved hW.alike hKc, hDc.weaken (fun _ _ _ _ => trivial)⟩⟩ rfl rfl hl.1 rfl (lv_room (Nat.le_of_ble_eq_true rfl)) d_Mo_units_181 ⟨Nat.le_of_ble_eq_true rfl, Nat.le_of_ble_eq_true rfl⟩) hS (fun q _ h => hFc q h) hFc (fun u2 t9 H1 locs ht hvm hw hB hz1 hk1 hS => ?_)
                    obtain ⟨hP1, hK1, hD1⟩ := hB
                    rw [ht] at hP1
                    obtain ⟨hP, hD⟩ := va_join (wr := [(t, .inr (12, MF 13 (tw T))), (T.au, .inl (cC, T.U, .inl T.un))]) (w1 := [(mo, .inr (13, MF 30 (nf v u2.1 u2.2.1))), (qo, .inl (cB, 16392, .inl u2.2.2))]) hP hD [0, 1] [2, 3] rfl rfl (by decide) (by decide) hk1 hFc hP1 hD1
                    generalize H1 = H at hP hS ⊢
                    have hP : va_P (dC, dI) classes [(t, .inr (12, MF 13 (tw T))), (T.au, .inl (cC, T.U, .inl T.un)), (mo, .inr (13, MF 30 (nf v u2.1 u2.2.1))), (qo, .inl (cB, 16392, .inl u2.2.2))] H := hP
                    have hD : va_D A [(t, .inr (12, MF 13 (tw T))), (T.au, .inl (cC, T.U, .inl T.un)), (mo, .inr (13, MF 30 (nf v u2.1 u2.2.1))), (qo, .inl (cB, 16392, .inl u2.2.2))] := hD
                    have hP := hP.sub (ws' := [(mo, .inr (13, MF 30 (nf v u2.1 u2.2.1))), (qo, .inl (cB, 16392, .inl u2.2.2)), (t, .inr (12, MF 13 (tw T))), (T.au, .inl (cC, T.U, .inl T.un))]) [2, 3, 0, 1] rfl
                    have hD := hD.sub (ws' := [(mo, .inr (13, MF 30 (nf v u2.1 u2.2.1))), (qo, .inl (cB, 16392, .inl u2.2.2)), (t, .inr (12, MF 13 (tw T))), (T.au, .inl (cC, T.U, .inl T.un))]) [2, 3, 0, 1] (by decide) rfl
                    have hw : u2 = pen1 (penL s0 (upL q (fun i9 => T.un (st + i9)) j ++ [92, 117])) (((mtx 6) m0 &&& 255)) := hw
                    rw [penL_snoc] at hw
                    subst hw
                    have hP : va_P (dC, dI) classes [(mo, .inr (13, MF 30 (nf v (penL s0 (upL q (fun i9 => T.un (st + i9)) j ++ [92, 117] ++ [((mtx 6) m0 &&& 255)])).1 (penL s0 (upL q (fun i9 => T.un (st + i9)) j ++ [92, 117] ++ [((mtx 6) m0 &&& 255)])).2.1))), (qo, .inl (cB, 16392, .inl (penL s0 (upL q (fun i9 => T.un (st + i9)) j ++ [92, 117] ++ [((mtx 6) m0 &&& 255)])).2.2)), (t, .inr (12, MF 13 (tw T))), (T.au, .inl (cC, T.U, .inl T.un))] H := hP
                    have hD : va_D A [(mo, .inr (13, MF 30 (nf v (penL s0 (upL q (fun i9 => T.un (st + i9)) j ++ [92, 117] ++ [((mtx 6) m0 &&& 255)])).1 (penL s0 (upL q (fun i9 => T.un (st + i9)) j ++ [92, 117] ++ [((mtx 6) m0 &&& 255)])).2.1))), (qo, .inl (cB, 16392, .inl (penL s0 (upL q (fun i9 => T.un (st + i9)) j ++ [92, 117] ++ [((mtx 6) m0 &&& 255)])).2.2)), (t, .inr (12, MF 13 (tw T))), (T.au, .inl (cC, T.U, .inl T.un))] := hD
                    refine lv_iinc (v := 8) (lv' := [(8, .int 8), (7, .int (-1)), (6, .int u9), (0, .ref mo), (1, .ref t), (2, .int (nI st)), (3, .int (nI ln)), (4, .int q), (5, .int (nI (st + j)))]) hx hb d_Mo_units_184 hl (k := 0) rfl (by decide) (by decide) rfl (fun ls hl => ?_)
                    refine lv_goto (tgt := 162) hx hb d_Mo_units_187 (by decide) ?_
                    refine lv_iload hx hb d_Mo_units_162 (lv_at hl 0 rfl) ?_
                    refine lv_if_lt (tgt := 190) hx hb d_Mo_units_164 (by decide) (fun h => absurd h (by decide)) (fun _ => ?_)
                    refine lv_aload_n hx hb d_Mo_units_167 rfl (lv_at hl 3 rfl) ?_
                    refine va_ldcS hx hb hown (hM 6 _ rfl).2 d_Mo_units_168 ?_
                    refine lv_iload hx hb d_Mo_units_170 (lv_at hl 2 rfl) ?_
                    refine lv_iload hx hb d_Mo_units_172 (lv_at hl 0 rfl) ?_
                    refine lv_ishr hx hb d_Mo_units_174 ?_
                    refine lv_bipush (v := 15) hx hb d_Mo_units_175 (by decide) ?_
                    refine lv_iand hx hb d_Mo_units_177 ?_
                    obtain ⟨m1, hm1⟩ := and15 ((u9 >>> (8 &&& 31)))
                    refine W.eq (g2 := F0 m 178 ls [.int (nI m1), .ref (K 6).1, .ref mo]) (by rw [show ((u9 >>> (8 &&& 31)) &&& 15) = (nI m1) from hm1.2]) ?_
                    have hE := (hM 6 _ rfl).1
                    have hPc := hP.sub (ws' := []) [] rfl
                    have hDc := hD.sub (ws' := []) [] (by decide) rfl
                    have hKc := hK.sub (tys' := []) [] rfl
                    have hFc := va_free (wc := []) hD hS hA [] rfl
                    refine va_calli (va_runV (As := [.int (nI m1)]) (rest := [.ref mo]) ⟨hx, hb, hml, hown, hts⟩ (c_Str_charAt l dC dI H (K 6).1 (K 6).2 16 (mtx 6) m1 hm1.1 (by decide)) (cwV 1 hts (gt_V (own := R_Mo) (C := R_Str) (i := 159) (y := y_Str_charAt) i_Str_charAt w_1245 w_466 w_467 w_18) rfl rfl rfl (by decide +kernel) ⟨Nat.le_of_ble_eq_true rfl, Nat.le_of_ble_eq_true rfl⟩) ⟨mstr_blind, (by obtain ⟨cell, h1, h2, h3, -⟩ := va_O.kept hE.1 hS.2.1; exact ⟨cell, h1, h2, h3⟩), fun U hU hW => ⟨rfl, ⟨hU, by rw [hU]; exact hPc, va_K.moved hW.alike hKc, hDc.weaken (fun _ _ _ _ => trivial)⟩, by rw [hU]; exact SX.moved' hW.alike (SX.narrow' (SX.kept' hE hS.2.1) hFc)⟩⟩ rfl rfl hl.1 rfl (lv_room (Nat.le_of_ble_eq_true rfl)) d_Mo_units_178 ⟨Nat.le_of_ble_eq_true rfl, Nat.le_of_ble_eq_true rfl⟩) hS (fun q _ h => hFc q h) hFc (fun r0 _u t9 H1 locs ht hvm hw hB hz1 hk1 hS => ?_)
                    obtain ⟨hP1, hK1, hD1⟩ := hB
                    rw [ht] at hP1
                    obtain ⟨hP, hD⟩ := va_join (wr := [(mo, .inr (13, MF 30 (nf v (penL s0 (upL q (fun i9 => T.un (st + i9)) j ++ [92, 117] ++ [((mtx 6) m0 &&& 255)])).1 (penL s0 (upL q (fun i9 => T.un (st + i9)) j ++ [92, 117] ++ [((mtx 6) m0 &&& 255)])).2.1))), (qo, .inl (cB, 16392, .inl (penL s0 (upL q (fun i9 => T.un (st + i9)) j ++ [92, 117] ++ [((mtx 6) m0 &&& 255)])).2.2)), (t, .inr (12, MF 13 (tw T))), (T.au, .inl (cC, T.U, .inl T.un))]) (w1 := []) hP hD [] [0, 1, 2, 3] rfl rfl (by decide) (by decide) hk1 hFc hP1 hD1
                    generalize H1 = H at hP hS ⊢
                    have hP : va_P (dC, dI) classes [(mo, .inr (13, MF 30 (nf v (penL s0 (upL q (fun i9 => T.un (st + i9)) j ++ [92, 117] ++ [((mtx 6) m0 &&& 255)])).1 (penL s0 (upL q (fun i9 => T.un (st + i9)) j ++ [92, 117] ++ [((mtx 6) m0 &&& 255)])).2.1))), (qo, .inl (cB, 16392, .inl (penL s0 (upL q (fun i9 => T.un (st + i9)) j ++ [92, 117] ++ [((mtx 6) m0 &&& 255)])).2.2)), (t, .inr (12, MF 13 (tw T))), (T.au, .inl (cC, T.U, .inl T.un))] H := hP
                    have hD : va_D A [(mo, .inr (13, MF 30 (nf v (penL s0 (upL q (fun i9 => T.un (st + i9)) j ++ [92, 117] ++ [((mtx 6) m0 &&& 255)])).1 (penL s0 (upL q (fun i9 => T.un (st + i9)) j ++ [92, 117] ++ [((mtx 6) m0 &&& 255)])).2.1))), (qo, .inl (cB, 16392, .inl (penL s0 (upL q (fun i9 => T.un (st + i9)) j ++ [92, 117] ++ [((mtx 6) m0 &&& 255)])).2.2)), (t, .inr (12, MF 13 (tw T))), (T.au, .inl (cC, T.U, .inl T.un))] := hD
                    have hw : r0 = (mtx 6) m1 &&& 255 := hw
                    subst hw
                    have hPc := hP.sub (ws' := [(mo, .inr (13, MF 30 (nf v (penL s0 (upL q (fun i9 => T.un (st + i9)) j ++ [92, 117] ++ [((mtx 6) m0 &&& 255)])).1 (penL s0 (upL q (fun i9 => T.un (st + i9)) j ++ [92, 117] ++ [((mtx 6) m0 &&& 255)])).2.1))), (qo, .inl (cB, 16392, .inl (penL s0 (upL q (fun i9 => T.un (st + i9)) j ++ [92, 117] ++ [((mtx 6) m0 &&& 255)])).2.2))]) [0, 1] rfl
                    have hDc := hD.sub (ws' := [(mo, .inr (13, MF 30 (nf v (penL s0 (upL q (fun i9 => T.un (st + i9)) j ++ [92, 117] ++ [((mtx 6) m0 &&& 255)])).1 (penL s0 (upL q (fun i9 => T.un (st + i9)) j ++ [92, 117] ++ [((mtx 6) m0 &&& 255)])).2.1))), (qo, .inl (cB, 16392, .inl (penL s0 (upL q (fun i9 => T.un (st + i9)) j ++ [92, 117] ++ [((mtx 6) m0 &&& 255)])).2.2))]) [0, 1] (by decide) rfl
                    have hKc := hK.sub (tys' := [(cB, .byte)]) [0] rfl
                    have hFc := va_free (wc := [(mo, .inr (13, MF 30 (nf v (penL s0 (upL q (fun i9 => T.un (st + i9)) j ++ [92, 117] ++ [((mtx 6) m0 &&& 255)])).1 (penL s0 (upL q (fun i9 => T.un (st + i9)) j ++ [92, 117] ++ [((mtx 6) m0 &&& 255)])).2.1))), (qo, .inl (cB, 16392, .inl (penL s0 (upL q (fun i9 => T.un (st + i9)) j ++ [92, 117] ++ [((mtx 6) m0 &&& 255)])).2.2))]) hD hS hA [0, 1] rfl
                    refine va_callv (va_runV (As := [.int ((mtx 6) m1 &&& 255)]) (rest := []) ⟨hx, hb, hml, hown, hts⟩ (c_Mo_pen l dC dI mo H v cB qo (penL s0 (upL q (fun i9 => T.un (st + i9)) j ++ [92, 117] ++ [((mtx 6) m0 &&& 255)])) (((mtx 6) m1 &&& 255)) (penL_le hk0 _) h10) (cwV 1 hts (gt_V (own := R_Mo) (C := R_Mo) (i := 239) (y := y_Mo_write) i_Mo_write w_1374 w_1376 (gt_sel (y := y_Mo_write) (n := 30) (by decide +kernel)) w_7) rfl rfl rfl (by decide +kernel) ⟨Nat.le_of_ble_eq_true rfl, Nat.le_of_ble_eq_true rfl⟩) ⟨mp_blind, va_recv hKc hPc (ci := 13) (q0 := 0) rfl rfl, fun U hU hW => ⟨rfl, hU, by rw [hU]; exact hPc, va_K.moved hW.alike hKc, hDc.weaken (fun _ _ _ _ => trivial)⟩⟩ rfl rfl hl.1 rfl (lv_room (Nat.le_of_ble_eq_true rfl)) d_Mo_units_181 ⟨Nat.le_of_ble_eq_true rfl, Nat.le_of_ble_eq_true rfl⟩) hS (fun q _ h => hFc q h) hFc (fun u2 t9 H1 locs ht hvm hw hB hz1 hk1 hS => ?_)
                    obtain ⟨hP1, hK1, hD1⟩ := hB
                    rw [ht] at hP1
                    obtain ⟨hP, hD⟩ := va_join (wr := [(t, .inr (12, MF 13 (tw T))), (T.au, .inl (cC, T.U, .inl T.un))]) (w1 := [(mo, .inr (13, MF 30 (nf v u2.1 u2.2.1))), (qo, .inl (cB, 16392, .inl u2.2.2))]) hP hD [0, 1] [2, 3] rfl rfl (by decide) (by decide) hk1 hFc hP1 hD1
                    generalize H1 = H at hP hS ⊢
                    have hP : va_P (dC, dI) classes [(t, .inr (12, MF 13 (tw T))), (T.au, .inl (cC, T.U, .inl T.un)), (mo, .inr (13, MF 30 (nf v u2.1 u2.2.1))), (qo, .inl (cB, 16392, .inl u2.2.2))] H := hP
                    have hD : va_D A [(t, .inr (12, MF 13 (tw T))), (T.au, .inl (cC, T.U, .inl T.un)), (mo, .inr (13, MF 30 (nf v u2.1 u2.2.1))), (qo, .inl (cB, 16392, .inl u2.2.2))] := hD
                    have hP := hP.sub (ws' := [(mo, .inr (13, MF 30 (nf v u2.1 u2.2.1))), (qo, .inl (cB, 16392, .inl u2.2.2)), (t, .inr (12, MF 13 (tw T))), (T.au, .inl (cC, T.U, .inl T.un))]) [2, 3, 0, 1] rfl
                    have hD := hD.sub (ws' := [(mo, .inr (13, MF 30 (nf v u2.1 u2.2.1))), (qo, .inl (cB, 16392, .inl u2.2.2)), (t, .inr (12, MF 13 (tw T))), (T.au, .inl (cC, T.U, .inl T.un))]) [2, 3, 0, 1] (by decide) rfl
                    have hw : u2 = pen1 (penL s0 (upL q (fun i9 => T.un (st + i9)) j ++ [92, 117] ++ [((mtx 6) m0 &&& 255)])) (((mtx 6) m1 &&& 255)) := hw
                    rw [penL_snoc] at hw
                    subst hw
                    have hP : va_P (dC, dI) classes [(mo, .inr (13, MF 30 (nf v (penL s0 (upL q (fun i9 => T.un (st + i9)) j ++ [92, 117] ++ [((mtx 6) m0 &&& 255)] ++ [((mtx 6) m1 &&& 255)])).1 (penL s0 (upL q (fun i9 => T.un (st + i9)) j ++ [92, 117] ++ [((mtx 6) m0 &&& 255)] ++ [((mtx 6) m1 &&& 255)])).2.1))), (qo, .inl (cB, 16392, .inl (penL s0 (upL q (fun i9 => T.un (st + i9)) j ++ [92, 117] ++ [((mtx 6) m0 &&& 255)] ++ [((mtx 6) m1 &&& 255)])).2.2)), (t, .inr (12, MF 13 (tw T))), (T.au, .inl (cC, T.U, .inl T.un))] H := hP
                    have hD : va_D A [(mo, .inr (13, MF 30 (nf v (penL s0 (upL q (fun i9 => T.un (st + i9)) j ++ [92, 117] ++ [((mtx 6) m0 &&& 255)] ++ [((mtx 6) m1 &&& 255)])).1 (penL s0 (upL q (fun i9 => T.un (st + i9)) j ++ [92, 117] ++ [((mtx 6) m0 &&& 255)] ++ [((mtx 6) m1 &&& 255)])).2.1))), (qo, .inl (cB, 16392, .inl (penL s0 (upL q (fun i9 => T.un (st + i9)) j ++ [92, 117] ++ [((mtx 6) m0 &&& 255)] ++ [((mtx 6) m1 &&& 255)])).2.2)), (t, .inr (12, MF 13 (tw T))), (T.au, .inl (cC, T.U, .inl T.un))] := hD
                    refine lv_iinc (v := 4) (lv' := [(8, .int 4), (7, .int (-1)), (6, .int u9), (0, .ref mo), (1, .ref t), (2, .int (nI st)), (3, .int (nI ln)), (4, .int q), (5, .int (nI (st + j)))]) hx hb d_Mo_units_184 hl (k := 0) rfl (by decide) (by decide) rfl (fun ls hl => ?_)
                    refine lv_goto (tgt := 162) hx hb d_Mo_units_187 (by decide) ?_
                    refine lv_iload hx hb d_Mo_units_162 (lv_at hl 0 rfl) ?_
                    refine lv_if_lt (tgt := 190) hx hb d_Mo_units_164 (by decide) (fun h => absurd h (by decide)) (fun _ => ?_)
                    refine lv_aload_n hx hb d_Mo_units_167 rfl (lv_at hl 3 rfl) ?_
                    refine va_ldcS hx hb hown (hM 6 _ rfl).2 d_Mo_units_168 ?_
                    refine lv_iload hx hb d_Mo_units_170 (lv_at hl 2 rfl) ?_
                    refine lv_iload hx hb d_Mo_units_172 (lv_at hl 0 rfl) ?_
                    refine lv_ishr hx hb d_Mo_units_174 ?_
                    refine lv_bipush (v := 15) hx hb d_Mo_units_175 (by decide) ?_
                    refine lv_iand hx hb d_Mo_units_177 ?_
                    obtain ⟨m2, hm2⟩ := and15 ((u9 >>> (4 &&& 31)))
                    refine W.eq (g2 := F0 m 178 ls [.int (nI m2), .ref (K 6).1, .ref mo]) (by rw [show ((u9 >>> (4 &&& 31)) &&& 15) = (nI m2) from hm2.2]) ?_
                    have hE := (hM 6 _ rfl).1
                    have hPc := hP.sub (ws' := []) [] rfl
                    have hDc := hD.sub (ws' := []) [] (by decide) rfl
                    have hKc := hK.sub (tys' := []) [] rfl
                    have hFc := va_free (wc := []) hD hS hA [] rfl
                    refine va_calli (va_runV (As := [.int (nI m2)]) (rest := [.ref mo]) ⟨hx, hb, hml, hown, hts⟩ (c_Str_charAt l dC dI H (K 6).1 (K 6).2 16 (mtx 6) m2 hm2.1 (by decide)) (cwV 1 hts (gt_V (own := R_Mo) (C := R_Str) (i := 159) (y := y_Str_charAt) i_Str_charAt w_1245 w_466 w_467 w_18) rfl rfl rfl (by decide +kernel) ⟨Nat.le_of_ble_eq_true rfl, Nat.le_of_ble_eq_true rfl⟩) ⟨mstr_blind, (by obtain ⟨cell, h1, h2, h3, -⟩ := va_O.kept hE.1 hS.2.1; exact ⟨cell, h1, h2, h3⟩), fun U hU hW => ⟨rfl, ⟨hU, by rw [hU]; exact hPc, va_K.moved hW.alike hKc, hDc.weaken (fun _ _ _ _ => trivial)⟩, by rw [hU]; exact SX.moved' hW.alike (SX.narrow' (SX.kept' hE hS.2.1) hFc)⟩⟩ rfl rfl hl.1 rfl (lv_room (Nat.le_of_ble_eq_true rfl)) d_Mo_units_178 ⟨Nat.le_of_ble_eq_true rfl, Nat.le_of_ble_eq_true rfl⟩) hS (fun q _ h => hFc q h) hFc (fun r0 _u t9 H1 locs ht hvm hw hB hz1 hk1 hS => ?_)
                    obtain ⟨hP1, hK1, hD1⟩ := hB
                    rw [ht] at hP1
                    obtain ⟨hP, hD⟩ := va_join (wr := [(mo, .inr (13, MF 30 (nf v (penL s0 (upL q (fun i9 => T.un (st + i9)) j ++ [92, 117] ++ [((mtx 6) m0 &&& 255)] ++ [((mtx 6) m1 &&& 255)])).1 (penL s0 (upL q (fun i9 => T.un (st + i9)) j ++ [92, 117] ++ [((mtx 6) m0 &&& 255)] ++ [((mtx 6) m1 &&& 255)])).2.1))), (qo, .inl (cB, 16392, .inl (penL s0 (upL q (fun i9 => T.un (st + i9)) j ++ [92, 117] ++ [((mtx 6) m0 &&& 255)] ++ [((mtx 6) m1 &&& 255)])).2.2)), (t, .inr (12, MF 13 (tw T))), (T.au, .inl (cC, T.U, .inl T.un))]) (w1 := []) hP hD [] [0, 1, 2, 3] rfl rfl (by decide) (by decide) hk1 hFc hP1 hD1
                    generalize H1 = H at hP hS ⊢
                    have hP : va_P (dC, dI) classes [(mo, .inr (13, MF 30 (nf v (penL s0 (upL q (fun i9 => T.un (st + i9)) j ++ [92, 117] ++ [((mtx 6) m0 &&& 255)] ++ [((mtx 6) m1 &&& 255)])).1 (penL s0 (upL q (fun i9 => T.un (st + i9)) j ++ [92, 117] ++ [((mtx 6) m0 &&& 255)] ++ [((mtx 6) m1 &&& 255)])).2.1))), (qo, .inl (cB, 16392, .inl (penL s0 (upL q (fun i9 => T.un (st + i9)) j ++ [92, 117] ++ [((mtx 6) m0 &&& 255)] ++ [((mtx 6) m1 &&& 255)])).2.2)), (t, .inr (12, MF 13 (tw T))), (T.au, .inl (cC, T.U, .inl T.un))] H := hP
                    have hD : va_D A [(mo, .inr (13, MF 30 (nf v (penL s0 (upL q (fun i9 => T.un (st + i9)) j ++ [92, 117] ++ [((mtx 6) m0 &&& 255)] ++ [((mtx 6) m1 &&& 255)])).1 (penL s0 (upL q (fun i9 => T.un (st + i9)) j ++ [92, 117] ++ [((mtx 6) m0 &&& 255)] ++ [((mtx 6) m1 &&& 255)])).2.1))), (qo, .inl (cB, 16392, .inl (penL s0 (upL q (fun i9 => T.un (st + i9)) j ++ [92, 117] ++ [((mtx 6) m0 &&& 255)] ++ [((mtx 6) m1 &&& 255)])).2.2)), (t, .inr (12, MF 13 (tw T))), (T.au, .inl (cC, T.U, .inl T.un))] := hD
                    have hw : r0 = (mtx 6) m2 &&& 255 := hw
                    subst hw
                    have hPc := hP.sub (ws' := [(mo, .inr (13, MF 30 (nf v (penL s0 (upL q (fun i9 => T.un (st + i9)) j ++ [92, 117] ++ [((mtx 6) m0 &&& 255)] ++ [((mtx 6) m1 &&& 255)])).1 (penL s0 (upL q (fun i9 => T.un (st + i9)) j ++ [92, 117] ++ [((mtx 6) m0 &&& 255)] ++ [((mtx 6) m1 &&& 255)])).2.1))), (qo, .inl (cB, 16392, .inl (penL s0 (upL q (fun i9 => T.un (st + i9)) j ++ [92, 117] ++ [((mtx 6) m0 &&& 255)] ++ [((mtx 6) m1 &&& 255)])).2.2))]) [0, 1] rfl
                    have hDc := hD.sub (ws' := [(mo, .inr (13, MF 30 (nf v (penL s0 (upL q (fun i9 => T.un (st + i9)) j ++ [92, 117] ++ [((mtx 6) m0 &&& 255)] ++ [((mtx 6) m1 &&& 255)])).1 (penL s0 (upL q (fun i9 => T.un (st + i9)) j ++ [92, 117] ++ [((mtx 6) m0 &&& 255)] ++ [((mtx 6) m1 &&& 255)])).2.1))), (qo, .inl (cB, 16392, .inl (penL s0 (upL q (fun i9 => T.un (st + i9)) j ++ [92, 117] ++ [((mtx 6) m0 &&& 255)] ++ [((mtx 6) m1 &&& 255)])).2.2))]) [0, 1] (by decide) rfl
                    have hKc := hK.sub (tys' := [(cB, .byte)]) [0] rfl
                    have hFc := va_free (wc := [(mo, .inr (13, MF 30 (nf v (penL s0 (upL q (fun i9 => T.un (st + i9)) j ++ [92, 117] ++ [((mtx 6) m0 &&& 255)] ++ [((mtx 6) m1 &&& 255)])).1 (penL s0 (upL q (fun i9 => T.un (st + i9)) j ++ [92, 117] ++ [((mtx 6) m0 &&& 255)] ++ [((mtx 6) m1 &&& 255)])).2.1))), (qo, .inl (cB, 16392, .inl (penL s0 (upL q (fun i9 => T.un (st + i9)) j ++ [92, 117] ++ [((mtx 6) m0 &&& 255)] ++ [((mtx 6) m1 &&& 255)])).2.2))]) hD hS hA [0, 1] rfl
                    refine va_callv (va_runV (As := [.int ((mtx 6) m2 &&& 255)]) (rest := []) ⟨hx, hb, hml, hown, hts⟩ (c_Mo_pen l dC dI mo H v cB qo (penL s0 (upL q (fun i9 => T.un (st + i9)) j ++ [92, 117] ++ [((mtx 6) m0 &&& 255)] ++ [((mtx 6) m1 &&& 255)])) (((mtx 6) m2 &&& 255)) (penL_le hk0 _) h10) (cwV 1 hts (gt_V (own := R_Mo) (C := R_Mo) (i := 239) (y := y_Mo_write) i_Mo_write w_1374 w_1376 (gt_sel (y := y_Mo_write) (n := 30) (by decide +kernel)) w_7) rfl rfl rfl (by decide +kernel) ⟨Nat.le_of_ble_eq_true rfl, Nat.le_of_ble_eq_true rfl⟩) ⟨mp_blind, va_recv hKc hPc (ci := 13) (q0 := 0) rfl rfl, fun U hU hW => ⟨rfl, hU, by rw [hU]; exact hPc, va_K.moved hW.alike hKc, hDc.weaken (fun _ _ _ _ => trivial)⟩⟩ rfl rfl hl.1 rfl (lv_room (Nat.le_of_ble_eq_true rfl)) d_Mo_units_181 ⟨Nat.le_of_ble_eq_true rfl, Nat.le_of_ble_eq_true rfl⟩) hS (fun q _ h => hFc q h) hFc (fun u2 t9 H1 locs ht hvm hw hB hz1 hk1 hS => ?_)
                    obtain ⟨hP1, hK1, hD1⟩ := hB
                    rw [ht] at hP1
                    obtain ⟨hP, hD⟩ := va_join (wr := [(t, .inr (12, MF 13 (tw T))), (T.au, .inl (cC, T.U, .inl T.un))]) (w1 := [(mo, .inr (13, MF 30 (nf v u2.1 u2.2.1))), (qo, .inl (cB, 16392, .inl u2.2.2))]) hP hD [0, 1] [2, 3] rfl rfl (by decide) (by decide) hk1 hFc hP1 hD1
                    generalize H1 = H at hP hS ⊢
                    have hP : va_P (dC, dI) classes [(t, .inr (12, MF 13 (tw T))), (T.au, .inl (cC, T.U, .inl T.un)), (mo, .inr (13, MF 30 (nf v u2.1 u2.2.1))), (qo, .inl (cB, 16392, .inl u2.2.2))] H := hP
                    have hD : va_D A [(t, .inr (12, MF 13 (tw T))), (T.au, .inl (cC, T.U, .inl T.un)), (mo, .inr (13, MF 30 (nf v u2.1 u2.2.1))), (qo, .inl (cB, 16392, .inl u2.2.2))] := hD
                    have hP := hP.sub (ws' := [(mo, .inr (13, MF 30 (nf v u2.1 u2.2.1))), (qo, .inl (cB, 16392, .inl u2.2.2)), (t, .inr (12, MF 13 (tw T))), (T.au, .inl (cC, T.U, .inl T.un))]) [2, 3, 0, 1] rfl
                    have hD := hD.sub (ws' := [(mo, .inr (13, MF 30 (nf v u2.1 u2.2.1))), (qo, .inl (cB, 16392, .inl u2.2.2)), (t, .inr (12, MF 13 (tw T))), (T.au, .inl (cC, T.U, .inl T.un))]) [2, 3, 0, 1] (by decide) rfl
                    have hw : u2 = pen1 (penL s0 (upL q (fun i9 => T.un (st + i9)) j ++ [92, 117] ++ [((mtx 6) m0 &&& 255)] ++ [((mtx 6) m1 &&& 255)])) (((mtx 6) m2 &&& 255)) := hw
                    rw [penL_snoc] at hw
                    subst hw
                    have hP : va_P (dC, dI) classes [(mo, .inr (13, MF 30 (nf v (penL s0 (upL q (fun i9 => T.un (st + i9)) j ++ [92, 117] ++ [((mtx 6) m0 &&& 255)] ++ [((mtx 6) m1 &&& 255)] ++ [((mtx 6) m2 &&& 255)])).1 (penL s0 (upL q (fun i9 => T.un (st + i9)) j ++ [92, 117] ++ [((mtx 6) m0 &&& 255)] ++ [((mtx 6) m1 &&& 255)] ++ [((mtx 6) m2 &&& 255)])).2.1))), (qo, .inl (cB, 16392, .inl (penL s0 (upL q (fun i9 => T.un (st + i9)) j ++ [92, 117] ++ [((mtx 6) m0 &&& 255)] ++ [((mtx 6) m1 &&& 255)] ++ [((mtx 6) m2 &&& 255)])).2.2)), (t, .inr (12, MF 13 (tw T))), (T.au, .inl (cC, T.U, .inl T.un))] H := hP
                    have hD : va_D A [(mo, .inr (13, MF 30 (nf v (penL s0 (upL q (fun i9 => T.un (st + i9)) j ++ [92, 117] ++ [((mtx 6) m0 &&& 255)] ++ [((mtx 6) m1 &&& 255)] ++ [((mtx 6) m2 &&& 255)])).1 (penL s0 (upL q (fun i9 => T.un (st + i9)) j ++ [92, 117] ++ [((mtx 6) m0 &&& 255)] ++ [((mtx 6) m1 &&& 255)] ++ [((mtx 6) m2 &&& 255)])).2.1))), (qo, .inl (cB, 16392, .inl (penL s0 (upL q (fun i9 => T.un (st + i9)) j ++ [92, 117] ++ [((mtx 6) m0 &&& 255)] ++ [((mtx 6) m1 &&& 255)] ++ [((mtx 6) m2 &&& 255)])).2.2)), (t, .inr (12, MF 13 (tw T))), (T.au, .inl (cC, T.U, .inl T.un))] := hD
                    refine lv_iinc (v := 0) (lv' := [(8, .int 0), (7, .int (-1)), (6, .int u9), (0, .ref mo), (1, .ref t), (2, .int (nI st)), (3, .int (nI ln)), (4, .int q), (5, .int (nI (st + j)))]) hx hb d_Mo_units_184 hl (k := 0) rfl (by decide) (by decide) rfl (fun ls hl => ?_)
                    refine lv_goto (tgt := 162) hx hb d_Mo_units_187 (by decide) ?_
                    refine lv_iload hx hb d_Mo_units_162 (lv_at hl 0 rfl) ?_
                    refine lv_if_lt (tgt := 190) hx hb d_Mo_units_164 (by decide) (fun h => absurd h (by decide)) (fun _ => ?_)
                    refine lv_aload_n hx hb d_Mo_units_167 rfl (lv_at hl 3 rfl) ?_
                    refine va_ldcS hx hb hown (hM 6 _ rfl).2 d_Mo_units_168 ?_
                    refine lv_iload hx hb d_Mo_units_170 (lv_at hl 2 rfl) ?_
                    refine lv_iload hx hb d_Mo_units_172 (lv_at hl 0 rfl) ?_
                    refine lv_ishr hx hb d_Mo_units_174 ?_
                    refine lv_bipush (v := 15) hx hb d_Mo_units_175 (by decide) ?_
                    refine lv_iand hx hb d_Mo_units_177 ?_
                    obtain ⟨m3, hm3⟩ := and15 ((u9 >>> (0 &&& 31)))
                    refine W.eq (g2 := F0 m 178 ls [.int (nI m3), .ref (K 6).1, .ref mo]) (by rw [show ((u9 >>> (0 &&& 31)) &&& 15) = (nI m3) from hm3.2]) ?_
                    have hE := (hM 6 _ rfl).1
                    have hPc := hP.sub (ws' := []) [] rfl
                    have hDc := hD.sub (ws' := []) [] (by decide) rfl
                    have hKc := hK.sub (tys' := []) [] rfl
                    have hFc := va_free (wc := []) hD hS hA [] rfl
                    refine va_calli (va_runV (As := [.int (nI m3)]) (rest := [.ref mo]) ⟨hx, hb, hml, hown, hts⟩ (c_Str_charAt l dC dI H (K 6).1 (K 6).2 16 (mtx 6) m3 hm3.1 (by decide)) (cwV 1 hts (gt_V (own := R_Mo) (C := R_Str) (i := 159) (y := y_Str_charAt) i_Str_charAt w_1245 w_466 w_467 w_18) rfl rfl rfl (by decide +kernel) ⟨Nat.le_of_ble_eq_true rfl, Nat.le_of_ble_eq_true rfl⟩) ⟨mstr_blind, (by obtain ⟨cell, h1, h2, h3, -⟩ := va_O.kept hE.1 hS.2.1; exact ⟨cell, h1, h2, h3⟩), fun U hU hW => ⟨rfl, ⟨hU, by rw [hU]; exact hPc, va_K.moved hW.alike hKc, hDc.weaken (fun _ _ _ _ => trivial)⟩, by rw [hU]; exact SX.moved' hW.alike (SX.narrow' (SX.kept' hE hS.2.1) hFc)⟩⟩ rfl rfl hl.1 rfl (lv_room (Nat.le_of_ble_eq_true rfl)) d_Mo_units_178 ⟨Nat.le_of_ble_eq_true rfl, Nat.le_of_ble_eq_true rfl⟩) hS (fun q _ h => hFc q h) hFc (fun r0 _u t9 H1 locs ht hvm hw hB hz1 hk1 hS => ?_)
                    obtain ⟨hP1, hK1, hD1⟩ := hB
                    rw [ht] at hP1
                    obtain ⟨hP, hD⟩ := va_join (wr := [(mo, .inr (13, MF 30 (nf v (penL s0 (upL q (fun i9 => T.un (st + i9)) j ++ [92, 117] ++ [((mtx 6) m0 &&& 255)] ++ [((mtx 6) m1 &&& 255)] ++ [((mtx 6) m2 &&& 255)])).1 (penL s0 (upL q (fun i9 => T.un (st + i9)) j ++ [92, 117] ++ [((mtx 6) m0 &&& 255)] ++ [((mtx 6) m1 &&& 255)] ++ [((mtx 6) m2 &&& 255)])).2.1))), (qo, .inl (cB, 16392, .inl (penL s0 (upL q (fun i9 => T.un (st + i9)) j ++ [92, 117] ++ [((mtx 6) m0 &&& 255)] ++ [((mtx 6) m1 &&& 255)] ++ [((mtx 6) m2 &&& 255)])).2.2)), (t, .inr (12, MF 13 (tw T))), (T.au, .inl (cC, T.U, .inl T.un))]) (w1 := []) hP hD [] [0, 1, 2, 3] rfl rfl (by decide) (by decide) hk1 hFc hP1 hD1
                    generalize H1 = H at hP hS ⊢
                    have hP : va_P (dC, dI) classes [(mo, .inr (13, MF 30 (nf v (penL s0 (upL q (fun i9 => T.un (st + i9)) j ++ [92, 117] ++ [((mtx 6) m0 &&& 255)] ++ [((mtx 6) m1 &&& 255)] ++ [((mtx 6) m2 &&& 255)])).1 (penL s0 (upL q (fun i9 => T.un (st + i9)) j ++ [92, 117] ++ [((mtx 6) m0 &&& 255)] ++ [((mtx 6) m1 &&& 255)] ++ [((mtx 6) m2 &&& 255)])).2.1))), (qo, .inl (cB, 16392, .inl (penL s0 (upL q (fun i9 => T.un (st + i9)) j ++ [92, 117] ++ [((mtx 6) m0 &&& 255)] ++ [((mtx 6) m1 &&& 255)] ++ [((mtx 6) m2 &&& 255)])).2.2)), (t, .inr (12, MF 13 (tw T))), (T.au, .inl (cC, T.U, .inl T.un))] H := hP
                    have hD : va_D A [(mo, .inr (13, MF 30 (nf v (penL s0 (upL q (fun i9 => T.un (st + i9)) j ++ [92, 117] ++ [((mtx 6) m0 &&& 255)] ++ [((mtx 6) m1 &&& 255)] ++ [((mtx 6) m2 &&& 255)])).1 (penL s0 (upL q (fun i9 => T.un (st + i9)) j ++ [92, 117] ++ [((mtx 6) m0 &&& 255)] ++ [((mtx 6) m1 &&& 255)] ++ [((mtx 6) m2 &&& 255)])).2.1))), (qo, .inl (cB, 16392, .inl (penL s0 (upL q (fun i9 => T.un (st + i9)) j ++ [92, 117] ++ [((mtx 6) m0 &&& 255)] ++ [((mtx 6) m1 &&& 255)] ++ [((mtx 6) m2 &&& 255)])).2.2)), (t, .inr (12, MF 13 (tw T))), (T.au, .inl (cC, T.U, .inl T.un))] := hD
                    have hw : r0 = (mtx 6) m3 &&& 255 := hw
                    subst hw
                    have hPc := hP.sub (ws' := [(mo, .inr (13, MF 30 (nf v (penL s0 (upL q (fun i9 => T.un (st + i9)) j ++ [92, 117] ++ [((mtx 6) m0 &&& 255)] ++ [((mtx 6) m1 &&& 255)] ++ [((mtx 6) m2 &&& 255)])).1 (penL s0 (upL q (fun i9 => T.un (st + i9)) j ++ [92, 117] ++ [((mtx 6) m0 &&& 255)] ++ [((mtx 6) m1 &&& 255)] ++ [((mtx 6) m2 &&& 255)])).2.1))), (qo, .inl (cB, 16392, .inl (penL s0 (upL q (fun i9 => T.un (st + i9)) j ++ [92, 117] ++ [((mtx 6) m0 &&& 255)] ++ [((mtx 6) m1 &&& 255)] ++ [((mtx 6) m2 &&& 255)])).2.2))]) [0, 1] rfl
                    have hDc := hD.sub (ws' := [(mo, .inr (13, MF 30 (nf v (penL s0 (upL q (fun i9 => T.un (st + i9)) j ++ [92, 117] ++ [((mtx 6) m0 &&& 255)] ++ [((mtx 6) m1 &&& 255)] ++ [((mtx 6) m2 &&& 255)])).1 (penL s0 (upL q (fun i9 => T.un (st + i9)) j ++ [92, 117] ++ [((mtx 6) m0 &&& 255)] ++ [((mtx 6) m1 &&& 255)] ++ [((mtx 6) m2 &&& 255)])).2.1))), (qo, .inl (cB, 16392, .inl (penL s0 (upL q (fun i9 => T.un (st + i9)) j ++ [92, 117] ++ [((mtx 6) m0 &&& 255)] ++ [((mtx 6) m1 &&& 255)] ++ [((mtx 6) m2 &&& 255)])).2.2))]) [0, 1] (by decide) rfl
                    have hKc := hK.sub (tys' := [(cB, .byte)]) [0] rfl
                    have hFc := va_free (wc := [(mo, .inr (13, MF 30 (nf v (penL s0 (upL q (fun i9 => T.un (st + i9)) j ++ [92, 117] ++ [((mtx 6) m0 &&& 255)] ++ [((mtx 6) m1 &&& 255)] ++ [((mtx 6) m2 &&& 255)])).1 (penL s0 (upL q (fun i9 => T.un (st + i9)) j ++ [92, 117] ++ [((mtx 6) m0 &&& 255)] ++ [((mtx 6) m1 &&& 255)] ++ [((mtx 6) m2 &&& 255)])).2.1))), (qo, .inl (cB, 16392, .inl (penL s0 (upL q (fun i9 => T.un (st + i9)) j ++ [92, 117] ++ [((mtx 6) m0 &&& 255)] ++ [((mtx 6) m1 &&& 255)] ++ [((mtx 6) m2 &&& 255)])).2.2))]) hD hS hA [0, 1] rfl
                    refine va_callv (va_runV (As := [.int ((mtx 6) m3 &&& 255)]) (rest := []) ⟨hx, hb, hml, hown, hts⟩ (c_Mo_pen l dC dI mo H v cB qo (penL s0 (upL q (fun i9 => T.un (st + i9)) j ++ [92, 117] ++ [((mtx 6) m0 &&& 255)] ++ [((mtx 6) m1 &&& 255)] ++ [((mtx 6) m2 &&& 255)])) (((mtx 6) m3 &&& 255)) (penL_le hk0 _) h10) (cwV 1 hts (gt_V (own := R_Mo) (C := R_Mo) (i := 239) (y := y_Mo_write) i_Mo_write w_1374 w_1376 (gt_sel (y := y_Mo_write) (n := 30) (by decide +kernel)) w_7) rfl rfl rfl (by decide +kernel) ⟨Nat.le_of_ble_eq_true rfl, Nat.le_of_ble_eq_true rfl⟩) ⟨mp_blind, va_recv hKc hPc (ci := 13) (q0 := 0) rfl rfl, fun U hU hW => ⟨rfl, hU, by rw [hU]; exact hPc, va_K.moved hW.alike hKc, hDc.weaken (fun _ _ _ _ => trivial)⟩⟩ rfl rfl hl.1 rfl (lv_room (Nat.le_of_ble_eq_true rfl)) d_Mo_units_181 ⟨Nat.le_of_ble_eq_true rfl, Nat.le_of_ble_eq_true rfl⟩) hS (fun q _ h => hFc q h) hFc (fun u2 t9 H1 locs ht hvm hw hB hz1 hk1 hS => ?_)
                    obtain ⟨hP1, hK1, hD1⟩ := hB
                    rw [ht] at hP1
                    obtain ⟨hP, hD⟩ := va_join (wr := [(t, .inr (12, MF 13 (tw T))), (T.au, .inl (cC, T.U, .inl T.un))]) (w1 := [(mo, .inr (13, MF 30 (nf v u2.1 u2.2.1))), (qo, .inl (cB, 16392, .inl u2.2.2))]) hP hD [0, 1] [2, 3] rfl rfl (by decide) (by decide) hk1 hFc hP1 hD1
                    generalize H1 = H at hP hS ⊢
                    have hP : va_P (dC, dI) classes [(t, .inr (12, MF 13 (tw T))), (T.au, .inl (cC, T.U, .inl T.un)), (mo, .inr (13, MF 30 (nf v u2.1 u2.2.1))), (qo, .inl (cB, 16392, .inl u2.2.2))] H := hP
                    have hD : va_D A [(t, .inr (12, MF 13 (tw T))), (T.au, .inl (cC, T.U, .inl T.un)), (mo, .inr (13, MF 30 (nf v u2.1 u2.2.1))), (qo, .inl (cB, 16392, .inl u2.2.2))] := hD
                    have hP := hP.sub (ws' := [(mo, .inr (13, MF 30 (nf v u2.1 u2.2.1))), (qo, .inl (cB, 16392, .inl u2.2.2)), (t, .inr (12, MF 13 (tw T))), (T.au, .inl (cC, T.U, .inl T.un))]) [2, 3, 0, 1] rfl
                    have hD := hD.sub (ws' := [(mo, .inr (13, MF 30 (nf v u2.1 u2.2.1))), (qo, .inl (cB, 16392, .inl u2.2.2)), (t, .inr (12, MF 13 (tw T))), (T.au, .inl (cC, T.U, .inl T.un))]) [2, 3, 0, 1] (by decide) rfl
                    have hw : u2 = pen1 (penL s0 (upL q (fun i9 => T.un (st + i9)) j ++ [92, 117] ++ [((mtx 6) m0 &&& 255)] ++ [((mtx 6) m1 &&& 255)] ++ [((mtx 6) m2 &&& 255)])) (((mtx 6) m3 &&& 255)) := hw
                    rw [penL_snoc] at hw
                    subst hw
                    have hP : va_P (dC, dI) classes [(mo, .inr (13, MF 30 (nf v (penL s0 (upL q (fun i9 => T.un (st + i9)) j ++ [92, 117] ++ [((mtx 6) m0 &&& 255)] ++ [((mtx 6) m1 &&& 255)] ++ [((mtx 6) m2 &&& 255)] ++ [((mtx 6) m3 &&& 255)])).1 (penL s0 (upL q (fun i9 => T.un (st + i9)) j ++ [92, 117] ++ [((mtx 6) m0 &&& 255)] ++ [((mtx 6) m1 &&& 255)] ++ [((mtx 6) m2 &&& 255)] ++ [((mtx 6) m3 &&& 255)])).2.1))), (qo, .inl (cB, 16392, .inl (penL s0 (upL q (fun i9 => T.un (st + i9)) j ++ [92, 117] ++ [((mtx 6) m0 &&& 255)] ++ [((mtx 6) m1 &&& 255)] ++ [((mtx 6) m2 &&& 255)] ++ [((mtx 6) m3 &&& 255)])).2.2)), (t, .inr (12, MF 13 (tw T))), (T.au, .inl (cC, T.U, .inl T.un))] H := hP
                    have hD : va_D A [(mo, .inr (13, MF 30 (nf v (penL s0 (upL q (fun i9 => T.un (st + i9)) j ++ [92, 117] ++ [((mtx 6) m0 &&& 255)] ++ [((mtx 6) m1 &&& 255)] ++ [((mtx 6) m2 &&& 255)] ++ [((mtx 6) m3 &&& 255)])).1 (penL s0 (upL q (fun i9 => T.un (st + i9)) j ++ [92, 117] ++ [((mtx 6) m0 &&& 255)] ++ [((mtx 6) m1 &&& 255)] ++ [((mtx 6) m2 &&& 255)] ++ [((mtx 6) m3 &&& 255)])).2.1))), (qo, .inl (cB, 16392, .inl (penL s0 (upL q (fun i9 => T.un (st + i9)) j ++ [92, 117] ++ [((mtx 6) m0 &&& 255)] ++ [((mtx 6) m1 &&& 255)] ++ [((mtx 6) m2 &&& 255)] ++ [((mtx 6) m3 &&& 255)])).2.2)), (t, .inr (12, MF 13 (tw T))), (T.au, .inl (cC, T.U, .inl T.un))] := hD
                    refine lv_iinc (v := (-4)) (lv' := [(8, .int (-4)), (7, .int (-1)), (6, .int u9), (0, .ref mo), (1, .ref t), (2, .int (nI st)), (3, .int (nI ln)), (4, .int q), (5, .int (nI (st + j)))]) hx hb d_Mo_units_184 hl (k := 0) rfl (by decide) (by decide) rfl (fun ls hl => ?_)
                    refine lv_goto (tgt := 162) hx hb d_Mo_units_187 (by decide) ?_
                    refine lv_iload hx hb d_Mo_units_162 (lv_at hl 0 rfl) ?_
                    refine lv_if_lt (tgt := 190) hx hb d_Mo_units_164 (by decide) (fun _ => ?_) (fun h => absurd (by decide) h)
                    refine lv_goto (tgt := 199) hx hb d_Mo_units_190 (by decide) ?_
                    refine lv_iinc (v := nI (st + (j + 1))) (lv' := [(5, .int (nI (st + (j + 1)))), (8, .int (-4)), (7, .int (-1)), (6, .int u9), (0, .ref mo), (1, .ref t), (2, .int (nI st)), (3, .int (nI ln)), (4, .int q)]) hx hb d_Mo_units_199 hl (k := 8) rfl (nI_1 (st + j)) (by decide) rfl (fun ls hl => ?_)
                    refine lv_goto (tgt := 9) hx hb d_Mo_units_202 (by decide) ?_
                    have hek : escK u9 = (-1) := by unfold escK; rw [if_neg c30, if_neg c41, if_neg c52, if_neg c63, if_neg c74]
                    have hun : upL q (fun i9 => T.un (st + i9)) (j + 1) = upL q (fun i9 => T.un (st + i9)) j ++ [92, 117] ++ [((mtx 6) m0 &&& 255)] ++ [((mtx 6) m1 &&& 255)] ++ [((mtx 6) m2 &&& 255)] ++ [((mtx 6) m3 &&& 255)] := by
                      show upL q (fun i9 => T.un (st + i9)) j ++ unB q (T.un (st + j)) = _
                      rw [← hu9]
                      unfold unB
                      rw [if_neg (fun h => h.elim c88 c95), hek, if_neg (fun h => h (by decide)), if_pos (Or.inl c142)]
                      rw [hxD_eq hm0.1 hm0.2, hxD_eq hm1.1 hm1.2, hxD_eq hm2.1 hm2.2, hxD_eq hm3.1 hm3.2]
                      simp only [List.append_assoc, List.cons_append, List.nil_append]; first | done | rfl
                    rw [← hun] at hP hD
                    exact ih (j + 1) _ _ _ (by omega) (by show ln - (j + 1) < ln - j; omega) hP hD hS (lv_sub hl [4, 5, 6, 7, 8, 0] rfl)
                  · refine lv_iload hx hb d_Mo_units_145 (lv_at hl 1 rfl) ?_
                    refine lv_bipush (v := 126) hx hb d_Mo_units_147 (by decide) ?_
                    refine lv_icmp_le (tgt := 193) hx hb d_Mo_units_149 (by decide) (fun c149 => ?_) (fun c149 => ?_)
                    · refine lv_aload_n hx hb d_Mo_units_193 rfl (lv_at hl 2 rfl) ?_
                      refine lv_iload hx hb d_Mo_units_194 (lv_at hl 1 rfl) ?_
                      have hPc := hP.sub (ws' := [(mo, .inr (13, MF 30 (nf v (penL s0 (upL q (fun i9 => T.un (st + i9)) j)).1 (penL s0 (upL q (fun i9 => T.un (st + i9)) j)).2.1))), (qo, .inl (cB, 16392, .inl (penL s0 (upL q (fun i9 => T.un (st + i9)) j)).2.2))]) [0, 1] rfl
                      have hDc := hD.sub (ws' := [(mo, .inr (13, MF 30 (nf v (penL s0 (upL q (fun i9 => T.un (st + i9)) j)).1 (penL s0 (upL q (fun i9 => T.un (st + i9)) j)).2.1))), (qo, .inl (cB, 16392, .inl (penL s0 (upL q (fun i9 => T.un (st + i9)) j)).2.2))]) [0, 1] (by decide) rfl
                      have hKc := hK.sub (tys' := [(cB, .byte)]) [0] rfl
                      have hFc := va_free (wc := [(mo, .inr (13, MF 30 (nf v (penL s0 (upL q (fun i9 => T.un (st + i9)) j)).1 (penL s0 (upL q (fun i9 => T.un (st + i9)) j)).2.1))), (qo, .inl (cB, 16392, .inl (penL s0 (upL q (fun i9 => T.un (st + i9)) j)).2.2))]) hD hS hA [0, 1] rfl
                      refine va_callv (va_runV (As := [.int u9]) (rest := []) ⟨hx, hb, hml, hown, hts⟩ (c_Mo_pen l dC dI mo H v cB qo (penL s0 (upL q (fun i9 => T.un (st + i9)) j)) u9 (penL_le hk0 _) h10) (cwV 1 hts (gt_V (own := R_Mo) (C := R_Mo) (i := 239) (y := y_Mo_write) i_Mo_write w_1374 w_1376 (gt_sel (y := y_Mo_write) (n := 30) (by decide +kernel)) w_7) rfl rfl rfl (by decide +kernel) ⟨Nat.le_of_ble_eq_true rfl, Nat.le_of_ble_eq_true rfl⟩) ⟨mp_blind, va_recv hKc hPc (ci := 13) (q0 := 0) rfl rfl, fun U hU hW => ⟨rfl, hU, by rw [hU]; exact hPc, va_K.moved hW.alike hKc, hDc.weaken (fun _ _ _ _ => trivial)⟩⟩ rfl rfl hl.1 rfl (lv_room (Nat.le_of_ble_eq_true rfl)) d_Mo_units_196 ⟨Nat.le_of_ble_eq_true rfl, Nat.le_of_ble_eq_true rfl⟩) hS (fun q _ h => hFc q h) hFc (fun u2 t9 H1 locs ht hvm hw hB hz1 hk1 hS => ?_)
                      obtain ⟨hP1, hK1, hD1⟩ := hB
                      rw [ht] at hP1
                      obtain ⟨hP, hD⟩ := va_join (wr := [(t, .inr (12, MF 13 (tw T))), (T.au, .inl (cC, T.U, .inl T.un))]) (w1 := [(mo, .inr (13, MF 30 (nf v u2.1 u2.2.1))), (qo, .inl (cB, 16392, .inl u2.2.2))]) hP hD [0, 1] [2, 3] rfl rfl (by decide) (by decide) hk1 hFc hP1 hD1
                      generalize H1 = H at hP hS ⊢
                      have hP : va_P (dC, dI) classes [(t, .inr (12, MF 13 (tw T))), (T.au, .inl (cC, T.U, .inl T.un)), (mo, .inr (13, MF 30 (nf v u2.1 u2.2.1))), (qo, .inl (cB, 16392, .inl u2.2.2))] H := hP
                      have hD : va_D A [(t, .inr (12, MF 13 (tw T))), (T.au, .inl (cC, T.U, .inl T.un)), (mo, .inr (13, MF 30 (nf v u2.1 u2.2.1))), (qo, .inl (cB, 16392, .inl u2.2.2))] := hD
                      have hP := hP.sub (ws' := [(mo, .inr (13, MF 30 (nf v u2.1 u2.2.1))), (qo, .inl (cB, 16392, .inl u2.2.2)), (t, .inr (12, MF 13 (tw T))), (T.au, .inl (cC, T.U, .inl T.un))]) [2, 3, 0, 1] rfl
                      have hD := hD.sub (ws' := [(mo, .inr (13, MF 30 (nf v u2.1 u2.2.1))), (qo, .inl (cB, 16392, .inl u2.2.2)), (t, .inr (12, MF 13 (tw T))), (T.au, .inl (cC, T.U, .inl T.un))]) [2, 3, 0, 1] (by decide) rfl
                      have hw : u2 = pen1 (penL s0 (upL q (fun i9 => T.un (st + i9)) j)) u9 := hw
                      rw [penL_snoc] at hw
                      subst hw
                      have hP : va_P (dC, dI) classes [(mo, .inr (13, MF 30 (nf v (penL s0 (upL q (fun i9 => T.un (st + i9)) j ++ [u9])).1 (penL s0 (upL q (fun i9 => T.un (st + i9)) j ++ [u9])).2.1))), (qo, .inl (cB, 16392, .inl (penL s0 (upL q (fun i9 => T.un (st + i9)) j ++ [u9])).2.2)), (t, .inr (12, MF 13 (tw T))), (T.au, .inl (cC, T.U, .inl T.un))] H := hP
                      have hD : va_D A [(mo, .inr (13, MF 30 (nf v (penL s0 (upL q (fun i9 => T.un (st + i9)) j ++ [u9])).1 (penL s0 (upL q (fun i9 => T.un (st + i9)) j ++ [u9])).2.1))), (qo, .inl (cB, 16392, .inl (penL s0 (upL q (fun i9 => T.un (st + i9)) j ++ [u9])).2.2)), (t, .inr (12, MF 13 (tw T))), (T.au, .inl (cC, T.U, .inl T.un))] := hD
                      refine lv_iinc (v := nI (st + (j + 1))) (lv' := [(5, .int (nI (st + (j + 1)))), (7, .int (-1)), (6, .int u9), (0, .ref mo), (1, .ref t), (2, .int (nI st)), (3, .int (nI ln)), (4, .int q)]) hx hb d_Mo_units_199 hl (k := 7) rfl (nI_1 (st + j)) (by decide) rfl (fun ls hl => ?_)
                      refine lv_goto (tgt := 9) hx hb d_Mo_units_202 (by decide) ?_
                      have hek : escK u9 = (-1) := by unfold escK; rw [if_neg c30, if_neg c41, if_neg c52, if_neg c63, if_neg c74]
                      have hun : upL q (fun i9 => T.un (st + i9)) (j + 1) = upL q (fun i9 => T.un (st + i9)) j ++ [u9] := by
                        show upL q (fun i9 => T.un (st + i9)) j ++ unB q (T.un (st + j)) = _
                        rw [← hu9]
                        unfold unB
                        rw [if_neg (fun h => h.elim c88 c95), hek, if_neg (fun h => h (by decide)), if_neg (fun h => h.elim c142 (fun h => h c149))]
                        all_goals rfl
                      rw [← hun] at hP hD
                      exact ih (j + 1) _ _ _ (by omega) (by show ln - (j + 1) < ln - j; omega) hP hD hS (lv_sub hl [3, 4, 5, 6, 7, 0] rfl)
                    · refine lv_aload_n hx hb d_Mo_units_152 rfl (lv_at hl 2 rfl) ?_
                      refine va_ldcS hx hb hown (hM 5 _ rfl).2 d_Mo_units_153 ?_
                      have hE := (hM 5 _ rfl).1
                      have hPc := hP.sub (ws' := [(mo, .inr (13, MF 30 (nf v (penL s0 (upL q (fun i9 => T.un (st + i9)) j)).1 (penL s0 (upL q (fun i9 => T.un (st + i9)) j)).2.1))), (qo, .inl (cB, 16392, .inl (penL s0 (upL q (fun i9 => T.un (st + i9)) j)).2.2))]) [0, 1] rfl
                      have hDc := hD.sub (ws' := [(mo, .inr (13, MF 30 (nf v (penL s0 (upL q (fun i9 => T.un (st + i9)) j)).1 (penL s0 (upL q (fun i9 => T.un (st + i9)) j)).2.1))), (qo, .inl (cB, 16392, .inl (penL s0 (upL q (fun i9 => T.un (st + i9)) j)).2.2))]) [0, 1] (by decide) rfl
                      have hKc := hK.sub (tys' := [(cB, .byte)]) [0] rfl
                      have hFc := va_free (wc := [(mo, .inr (13, MF 30 (nf v (penL s0 (upL q (fun i9 => T.un (st + i9)) j)).1 (penL s0 (upL q (fun i9 => T.un (st + i9)) j)).2.1))), (qo, .inl (cB, 16392, .inl (penL s0 (upL q (fun i9 => T.un (st + i9)) j)).2.2))]) hD hS hA [0, 1] rfl
                      refine va_callv (va_runV (As := [.ref (K 5).1]) (rest := []) ⟨hx, hb, hml, hown, hts⟩ (c_Mo_writeS l dC dI mo H v cB qo (penL s0 (upL q (fun i9 => T.un (st + i9)) j)) (K 5).1 (K 5).2 2 (mtx 5) (penL_le hk0 _) (by decide) h10) (cwV 1 hts (gt_V (own := R_Mo) (C := R_Mo) (i := 248) (y := y_Mo_writeS) i_Mo_writeS w_1370 w_1372 (gt_sel (y := y_Mo_writeS) (n := 30) (by decide +kernel)) w_7) rfl rfl rfl (by decide +kernel) ⟨Nat.le_of_ble_eq_true rfl, Nat.le_of_ble_eq_true rfl⟩) ⟨mstr_blind, va_recv hKc hPc (ci := 13) (q0 := 0) rfl rfl, fun U hU hW => ⟨rfl, ⟨hU, by rw [hU]; exact hPc, va_K.moved hW.alike hKc, hDc.weaken (fun _ _ _ _ => trivial)⟩, by rw [hU]; exact SX.moved' hW.alike (SX.narrow' (SX.kept' hE hS.2.1) hFc)⟩⟩ rfl rfl hl.1 rfl (lv_room (Nat.le_of_ble_eq_true rfl)) d_Mo_units_155 ⟨Nat.le_of_ble_eq_true rfl, Nat.le_of_ble_eq_true rfl⟩) hS (fun q _ h => hFc q h) hFc (fun _u t9 H1 locs ht hvm hw hB hz1 hk1 hS => ?_)
                      obtain ⟨hP1, hK1, hD1⟩ := hB
                      rw [ht] at hP1
                      obtain ⟨hP, hD⟩ := va_join (wr := [(t, .inr (12, MF 13 (tw T))), (T.au, .inl (cC, T.U, .inl T.un))]) (w1 := [(mo, .inr (13, MF 30 (nf v (penN (mtx 5) (penL s0 (upL q (fun i9 => T.un (st + i9)) j)) 2).1 (penN (mtx 5) (penL s0 (upL q (fun i9 => T.un (st + i9)) j)) 2).2.1))), (qo, .inl (cB, 16392, .inl (penN (mtx 5) (penL s0 (upL q (fun i9 => T.un (st + i9)) j)) 2).2.2))]) hP hD [0, 1] [2, 3] rfl rfl (by decide) (by decide) hk1 hFc hP1 hD1
                      generalize H1 = H at hP hS ⊢
                      have hP : va_P (dC, dI) classes [(t, .inr (12, MF 13 (tw T))), (T.au, .inl (cC, T.U, .inl T.un)), (mo, .inr (13, MF 30 (nf v (penN (mtx 5) (penL s0 (upL q (fun i9 => T.un (st + i9)) j)) 2).1 (penN (mtx 5) (penL s0 (upL q (fun i9 => T.un (st + i9)) j)) 2).2.1))), (qo, .inl (cB, 16392, .inl (penN (mtx 5) (penL s0 (upL q (fun i9 => T.un (st + i9)) j)) 2).2.2))] H := hP
                      have hD : va_D A [(t, .inr (12, MF 13 (tw T))), (T.au, .inl (cC, T.U, .inl T.un)), (mo, .inr (13, MF 30 (nf v (penN (mtx 5) (penL s0 (upL q (fun i9 => T.un (st + i9)) j)) 2).1 (penN (mtx 5) (penL s0 (upL q (fun i9 => T.un (st + i9)) j)) 2).2.1))), (qo, .inl (cB, 16392, .inl (penN (mtx 5) (penL s0 (upL q (fun i9 => T.un (st + i9)) j)) 2).2.2))] := hD
                      have hP := hP.sub (ws' := [(mo, .inr (13, MF 30 (nf v (penN (mtx 5) (penL s0 (upL q (fun i9 => T.un (st + i9)) j)) 2).1 (penN (mtx 5) (penL s0 (upL q (fun i9 => T.un (st + i9)) j)) 2).2.1))), (qo, .inl (cB, 16392, .inl (penN (mtx 5) (penL s0 (upL q (fun i9 => T.un (st + i9)) j)) 2).2.2)), (t, .inr (12, MF 13 (tw T))), (T.au, .inl (cC, T.U, .inl T.un))]) [2, 3, 0, 1] rfl
                      have hD := hD.sub (ws' := [(mo, .inr (13, MF 30 (nf v (penN (mtx 5) (penL s0 (upL q (fun i9 => T.un (st + i9)) j)) 2).1 (penN (mtx 5) (penL s0 (upL q (fun i9 => T.un (st + i9)) j)) 2).2.1))), (qo, .inl (cB, 16392, .inl (penN (mtx 5) (penL s0 (upL q (fun i9 => T.un (st + i9)) j)) 2).2.2)), (t, .inr (12, MF 13 (tw T))), (T.au, .inl (cC, T.U, .inl T.un))]) [2, 3, 0, 1] (by decide) rfl
                      rw [show (penN (mtx 5) (penL s0 (upL q (fun i9 => T.un (st + i9)) j)) 2) = penL s0 (upL q (fun i9 => T.un (st + i9)) j ++ [92, 117]) from by rw [penN_L, penL_app]; rfl] at hP hD
                      have hP : va_P (dC, dI) classes [(mo, .inr (13, MF 30 (nf v (penL s0 (upL q (fun i9 => T.un (st + i9)) j ++ [92, 117])).1 (penL s0 (upL q (fun i9 => T.un (st + i9)) j ++ [92, 117])).2.1))), (qo, .inl (cB, 16392, .inl (penL s0 (upL q (fun i9 => T.un (st + i9)) j ++ [92, 117])).2.2)), (t, .inr (12, MF 13 (tw T))), (T.au, .inl (cC, T.U, .inl T.un))] H := hP
                      have hD : va_D A [(mo, .inr (13, MF 30 (nf v (penL s0 (upL q (fun i9 => T.un (st + i9)) j ++ [92, 117])).1 (penL s0 (upL q (fun i9 => T.un (st + i9)) j ++ [92, 117])).2.1))), (qo, .inl (cB, 16392, .inl (penL s0 (upL q (fun i9 => T.un (st + i9)) j ++ [92, 117])).2.2)), (t, .inr (12, MF 13 (tw T))), (T.au, .inl (cC, T.U, .inl T.un))] := hD
                      refine lv_bipush (v := 12) hx hb d_Mo_units_158 (by decide) ?_
                      refine lv_istore (lv' := [(8, .int 12), (7, .int (-1)), (6, .int u9), (0, .ref mo), (1, .ref t), (2, .int (nI st)), (3, .int (nI ln)), (4, .int q), (5, .int (nI (st + j)))]) hx hb d_Mo_units_160 hl (by decide) rfl (fun ls hl => ?_)
                      refine lv_iload hx hb d_Mo_units_162 (lv_at hl 0 rfl) ?_
                      refine lv_if_lt (tgt := 190) hx hb d_Mo_units_164 (by decide) (fun h => absurd h (by decide)) (fun _ => ?_)
                      refine lv_aload_n hx hb d_Mo_units_167 rfl (lv_at hl 3 rfl) ?_
                      refine va_ldcS hx hb hown (hM 6 _ rfl).2 d_Mo_units_168 ?_
                      refine lv_iload hx hb d_Mo_units_170 (lv_at hl 2 rfl) ?_
                      refine lv_iload hx hb d_Mo_units_172 (lv_at hl 0 rfl) ?_
                      refine lv_ishr hx hb d_Mo_units_174 ?_
                      refine lv_bipush (v := 15) hx hb d_Mo_units_175 (by decide) ?_
                      refine lv_iand hx hb d_Mo_units_177 ?_
                      obtain ⟨m0, hm0⟩ := and15 ((u9 >>> (12 &&& 31)))
                      refine W.eq (g2 := F0 m 178 ls [.int (nI m0), .ref (K 6).1, .ref mo]) (by rw [show ((u9 >>> (12 &&& 31)) &&& 15) = (nI m0) from hm0.2]) ?_
                      have hE := (hM 6 _ rfl).1
                      have hPc := hP.sub (ws' := []) [] rfl
                      have hDc := hD.sub (ws' := []) [] (by decide) rfl
                      have hKc := hK.sub (tys' := []) [] rfl
                      have hFc := va_free (wc := []) hD hS hA [] rfl
                      refine va_calli (va_runV (As := [.int (nI m0)]) (rest := [.ref mo]) ⟨hx, hb, hml, hown, hts⟩ (c_Str_charAt l dC dI H (K 6).1 (K 6).2 16 (mtx 6) m0 hm0.1 (by decide)) (cwV 1 hts (gt_V (own := R_Mo) (C := R_Str) (i := 159) (y := y_Str_charAt) i_Str_charAt w_1245 w_466 w_467 w_18) rfl rfl rfl (by decide +kernel) ⟨Nat.le_of_ble_eq_true rfl, Nat.le_of_ble_eq_true rfl⟩) ⟨mstr_blind, (by obtain ⟨cell, h1, h2, h3, -⟩ := va_O.kept hE.1 hS.2.1; exact ⟨cell, h1, h2, h3⟩), fun U hU hW => ⟨rfl, ⟨hU, by rw [hU]; exact hPc, va_K.moved hW.alike hKc, hDc.weaken (fun _ _ _ _ => trivial)⟩, by rw [hU]; exact SX.moved' hW.alike (SX.narrow' (SX.kept' hE hS.2.1) hFc)⟩⟩ rfl rfl hl.1 rfl (lv_room (Nat.le_of_ble_eq_true rfl)) d_Mo_units_178 ⟨Nat.le_of_ble_eq_true rfl, Nat.le_of_ble_eq_true rfl⟩) hS (fun q _ h => hFc q h) hFc (fun r0 _u t9 H1 locs ht hvm hw hB hz1 hk1 hS => ?_)
                      obtain ⟨hP1, hK1, hD1⟩ := hB
                      rw [ht] at hP1
                      obtain ⟨hP, hD⟩ := va_join (wr := [(mo, .inr (13, MF 30 (nf v (penL s0 (upL q (fun i9 => T.un (st + i9)) j ++ [92, 117])).1 (penL s0 (upL q (fun i9 => T.un (st + i9)) j ++ [92, 117])).2.1))), (qo, .inl (cB, 16392, .inl (penL s0 (upL q (fun i9 => T.un (st + i9)) j ++ [92, 117])).2.2)), (t, .inr (12, MF 13 (tw T))), (T.au, .inl (cC, T.U, .inl T.un))]) (w1 := []) hP hD [] [0, 1, 2, 3] rfl rfl (by decide) (by decide) hk1 hFc hP1 hD1
                      generalize H1 = H at hP hS ⊢
                      have hP : va_P (dC, dI) classes [(mo, .inr (13, MF 30 (nf v (penL s0 (upL q (fun i9 => T.un (st + i9)) j ++ [92, 117])).1 (penL s0 (upL q (fun i9 => T.un (st + i9)) j ++ [92, 117])).2.1))), (qo, .inl (cB, 16392, .inl (penL s0 (upL q (fun i9 => T.un (st + i9)) j ++ [92, 117])).2.2)), (t, .inr (12, MF 13 (tw T))), (T.au, .inl (cC, T.U, .inl T.un))] H := hP
                      have hD : va_D A [(mo, .inr (13, MF 30 (nf v (penL s0 (upL q (fun i9 => T.un (st + i9)) j ++ [92, 117])).1 (penL s0 (upL q (fun i9 => T.un (st + i9)) j ++ [92, 117])).2.1))), (qo, .inl (cB, 16392, .inl (penL s0 (upL q (fun i9 => T.un (st + i9)) j ++ [92, 117])).2.2)), (t, .inr (12, MF 13 (tw T))), (T.au, .inl (cC, T.U, .inl T.un))] := hD
                      have hw : r0 = (mtx 6) m0 &&& 255 := hw
                      subst hw
                      have hPc := hP.sub (ws' := [(mo, .inr (13, MF 30 (nf v (penL s0 (upL q (fun i9 => T.un (st + i9)) j ++ [92, 117])).1 (penL s0 (upL q (fun i9 => T.un (st + i9)) j ++ [92, 117])).2.1))), (qo, .inl (cB, 16392, .inl (penL s0 (upL q (fun i9 => T.un (st + i9)) j ++ [92, 117])).2.2))]) [0, 1] rfl
                      have hDc := hD.sub (ws' := [(mo, .inr (13, MF 30 (nf v (penL s0 (upL q (fun i9 => T.un (st + i9)) j ++ [92, 117])).1 (penL s0 (upL q (fun i9 => T.un (st + i9)) j ++ [92, 117])).2.1))), (qo, .inl (cB, 16392, .inl (penL s0 (upL q (fun i9 => T.un (st + i9)) j ++ [92, 117])).2.2))]) [0, 1] (by decide) rfl
                      have hKc := hK.sub (tys' := [(cB, .byte)]) [0] rfl
                      have hFc := va_free (wc := [(mo, .inr (13, MF 30 (nf v (penL s0 (upL q (fun i9 => T.un (st + i9)) j ++ [92, 117])).1 (penL s0 (upL q (fun i9 => T.un (st + i9)) j ++ [92, 117])).2.1))), (qo, .inl (cB, 16392, .inl (penL s0 (upL q (fun i9 => T.un (st + i9)) j ++ [92, 117])).2.2))]) hD hS hA [0, 1] rfl
                      refine va_callv (va_runV (As := [.int ((mtx 6) m0 &&& 255)]) (rest := []) ⟨hx, hb, hml, hown, hts⟩ (c_Mo_pen l dC dI mo H v cB qo (penL s0 (upL q (fun i9 => T.un (st + i9)) j ++ [92, 117])) (((mtx 6) m0 &&& 255)) (penL_le hk0 _) h10) (cwV 1 hts (gt_V (own := R_Mo) (C := R_Mo) (i := 239) (y := y_Mo_write) i_Mo_write w_1374 w_1376 (gt_sel (y := y_Mo_write) (n := 30) (by decide +kernel)) w_7) rfl rfl rfl (by decide +kernel) ⟨Nat.le_of_ble_eq_true rfl, Nat.le_of_ble_eq_true rfl⟩) ⟨mp_blind, va_recv hKc hPc (ci := 13) (q0 := 0) rfl rfl, fun U hU hW => ⟨rfl, hU, by rw [hU]; exact hPc, va_K.moved hW.alike hKc, hDc.weaken (fun _ _ _ _ => trivial)⟩⟩ rfl rfl hl.1 rfl (lv_room (Nat.le_of_ble_eq_true rfl)) d_Mo_units_181 ⟨Nat.le_of_ble_eq_true rfl, Nat.le_of_ble_eq_true rfl⟩) hS (fun q _ h => hFc q h) hFc (fun u2 t9 H1 locs ht hvm hw hB hz1 hk1 hS => ?_)
                      obtain ⟨hP1, hK1, hD1⟩ := hB
                      rw [ht] at hP1
                      obtain ⟨hP, hD⟩ := va_join (wr := [(t, .inr (12, MF 13 (tw T))), (T.au, .inl (cC, T.U, .inl T.un))]) (w1 := [(mo, .inr (13, MF 30 (nf v u2.1 u2.2.1))), (qo, .inl (cB, 16392, .inl u2.2.2))]) hP hD [0, 1] [2, 3] rfl rfl (by decide) (by decide) hk1 hFc hP1 hD1
                      generalize H1 = H at hP hS ⊢
                      have hP : va_P (dC, dI) classes [(t, .inr (12, MF 13 (tw T))), (T.au, .inl (cC, T.U, .inl T.un)), (mo, .inr (13, MF 30 (nf v u2.1 u2.2.1))), (qo, .inl (cB, 16392, .inl u2.2.2))] H := hP
                      have hD : va_D A [(t, .inr (12, MF 13 (tw T))), (T.au, .inl (cC, T.U, .inl T.un)), (mo, .inr (13, MF 30 (nf v u2.1 u2.2.1))), (qo, .inl (cB, 16392, .inl u2.2.2))] := hD
                      have hP := hP.sub (ws' := [(mo, .inr (13, MF 30 (nf v u2.1 u2.2.1))), (qo, .inl (cB, 16392, .inl u2.2.2)), (t, .inr (12, MF 13 (tw T))), (T.au, .inl (cC, T.U, .inl T.un))]) [2, 3, 0, 1] rfl
                      have hD := hD.sub (ws' := [(mo, .inr (13, MF 30 (nf v u2.1 u2.2.1))), (qo, .inl (cB, 16392, .inl u2.2.2)), (t, .inr (12, MF 13 (tw T))), (T.au, .inl (cC, T.U, .inl T.un))]) [2, 3, 0, 1] (by decide) rfl
                      have hw : u2 = pen1 (penL s0 (upL q (fun i9 => T.un (st + i9)) j ++ [92, 117])) (((mtx 6) m0 &&& 255)) := hw
                      rw [penL_snoc] at hw
                      subst hw
                      have hP : va_P (dC, dI) classes [(mo, .inr (13, MF 30 (nf v (penL s0 (upL q (fun i9 => T.un (st + i9)) j ++ [92, 117] ++ [((mtx 6) m0 &&& 255)])).1 (penL s0 (upL q (fun i9 => T.un (st + i9)) j ++ [92, 117] ++ [((mtx 6) m0 &&& 255)])).2.1))), (qo, .inl (cB, 16392, .inl (penL s0 (upL q (fun i9 => T.un (st + i9)) j ++ [92, 117] ++ [((mtx 6) m0 &&& 255)])).2.2)), (t, .inr (12, MF 13 (tw T))), (T.au, .inl (cC, T.U, .inl T.un))] H := hP
                      have hD : va_D A [(mo, .inr (13, MF 30 (nf v (penL s0 (upL q (fun i9 => T.un (st + i9)) j ++ [92, 117] ++ [((mtx 6) m0 &&& 255)])).1 (penL s0 (upL q (fun i9 => T.un (st + i9)) j ++ [92, 117] ++ [((mtx 6) m0 &&& 255)])).2.1))), (qo, .inl (cB, 16392, .inl (penL s0 (upL q (fun i9 => T.un (st + i9)) j ++ [92, 117] ++ [((mtx 6) m0 &&& 255)])).2.2)), (t, .inr (12, MF 13 (tw T))), (T.au, .inl (cC, T.U, .inl T.un))] := hD
                      refine lv_iinc (v := 8) (lv' := [(8, .int 8), (7, .int (-1)), (6, .int u9), (0, .ref mo), (1, .ref t), (2, .int (nI st)), (3, .int (nI ln)), (4, .int q), (5, .int (nI (st + j)))]) hx hb d_Mo_units_184 hl (k := 0) rfl (by decide) (by decide) rfl (fun ls hl => ?_)
                      refine lv_goto (tgt := 162) hx hb d_Mo_units_187 (by decide) ?_
                      refine lv_iload hx hb d_Mo_units_162 (lv_at hl 0 rfl) ?_
                      refine lv_if_lt (tgt := 190) hx hb d_Mo_units_164 (by decide) (fun h => absurd h (by decide)) (fun _ => ?_)
                      refine lv_aload_n hx hb d_Mo_units_167 rfl (lv_at hl 3 rfl) ?_
                      refine va_ldcS hx hb hown (hM 6 _ rfl).2 d_Mo_units_168 ?_
                      refine lv_iload hx hb d_Mo_units_170 (lv_at hl 2 rfl) ?_
                      refine lv_iload hx hb d_Mo_units_172 (lv_at hl 0 rfl) ?_
                      refine lv_ishr hx hb d_Mo_units_174 ?_
                      refine lv_bipush (v := 15) hx hb d_Mo_units_175 (by decide) ?_
                      refine lv_iand hx hb d_Mo_units_177 ?_
                      obtain ⟨m1, hm1⟩ := and15 ((u9 >>> (8 &&& 31)))
                      refine W.eq (g2 := F0 m 178 ls [.int (nI m1), .ref (K 6).1, .ref mo]) (by rw [show ((u9 >>> (8 &&& 31)) &&& 15) = (nI m1) from hm1.2]) ?_
                      have hE := (hM 6 _ rfl).1
                      have hPc := hP.sub (ws' := []) [] rfl
                      have hDc := hD.sub (ws' := []) [] (by decide) rfl
                      have hKc := hK.sub (tys' := []) [] rfl
                      have hFc := va_free (wc := []) hD hS hA [] rfl
                      refine va_calli (va_runV (As := [.int (nI m1)]) (rest := [.ref mo]) ⟨hx, hb, hml, hown, hts⟩ (c_Str_charAt l dC dI H (K 6).1 (K 6).2 16 (mtx 6) m1 hm1.1 (by decide)) (cwV 1 hts (gt_V (own := R_Mo) (C := R_Str) (i := 159) (y := y_Str_charAt) i_Str_charAt w_1245 w_466 w_467 w_18) rfl rfl rfl (by decide +kernel) ⟨Nat.le_of_ble_eq_true rfl, Nat.le_of_ble_eq_true rfl⟩) ⟨mstr_blind, (by obtain ⟨cell, h1, h2, h3, -⟩ := va_O.kept hE.1 hS.2.1; exact ⟨cell, h1, h2, h3⟩), fun U hU hW => ⟨rfl, ⟨hU, by rw [hU]; exact hPc, va_K.moved hW.alike hKc, hDc.weaken (fun _ _ _ _ => trivial)⟩, by rw [hU]; exact SX.moved' hW.alike (SX.narrow' (SX.kept' hE hS.2.1) hFc)⟩⟩ rfl rfl hl.1 rfl (lv_room (Nat.le_of_ble_eq_true rfl)) d_Mo_units_178 ⟨Nat.le_of_ble_eq_true rfl, Nat.le_of_ble_eq_true rfl⟩) hS (fun q _ h => hFc q h) hFc (fun r0 _u t9 H1 locs ht hvm hw hB hz1 hk1 hS => ?_)
                      obtain ⟨hP1, hK1, hD1⟩ := hB
                      rw [ht] at hP1
                      obtain ⟨hP, hD⟩ := va_join (wr := [(mo, .inr (13, MF 30 (nf v (penL s0 (upL q (fun i9 => T.un (st + i9)) j ++ [92, 117] ++ [((mtx 6) m0 &&& 255)])).1 (penL s0 (upL q (fun i9 => T.un (st + i9)) j ++ [92, 117] ++ [((mtx 6) m0 &&& 255)])).2.1))), (qo, .inl (cB, 16392, .inl (penL s0 (upL q (fun i9 => T.un (st + i9)) j ++ [92, 117] ++ [((mtx 6) m0 &&& 255)])).2.2)), (t, .inr (12, MF 13 (tw T))), (T.au, .inl (cC, T.U, .inl T.un))]) (w1 := []) hP hD [] [0, 1, 2, 3] rfl rfl (by decide) (by decide) hk1 hFc hP1 hD1
                      generalize H1 = H at hP hS ⊢
                      have hP : va_P (dC, dI) classes [(mo, .inr (13, MF 30 (nf v (penL s0 (upL q (fun i9 => T.un (st + i9)) j ++ [92, 117] ++ [((mtx 6) m0 &&& 255)])).1 (penL s0 (upL q (fun i9 => T.un (st + i9)) j ++ [92, 117] ++ [((mtx 6) m0 &&& 255)])).2.1))), (qo, .inl (cB, 16392, .inl (penL s0 (upL q (fun i9 => T.un (st + i9)) j ++ [92, 117] ++ [((mtx 6) m0 &&& 255)])).2.2)), (t, .inr (12, MF 13 (tw T))), (T.au, .inl (cC, T.U, .inl T.un))] H := hP
                      have hD : va_D A [(mo, .inr (13, MF 30 (nf v (penL s0 (upL q (fun i9 => T.un (st + i9)) j ++ [92, 117] ++ [((mtx 6) m0 &&& 255)])).1 (penL s0 (upL q (fun i9 => T.un (st + i9)) j ++ [92, 117] ++ [((mtx 6) m0 &&& 255)])).2.1))), (qo, .inl (cB, 16392, .inl (penL s0 (upL q (fun i9 => T.un (st + i9)) j ++ [92, 117] ++ [((mtx 6) m0 &&& 255)])).2.2)), (t, .inr (12, MF 13 (tw T))), (T.au, .inl (cC, T.U, .inl T.un))] := hD
                      have hw : r0 = (mtx 6) m1 &&& 255 := hw
                      subst hw
                      have hPc := hP.sub (ws' := [(mo, .inr (13, MF 30 (nf v (penL s0 (upL q (fun i9 => T.un (st + i9)) j ++ [92, 117] ++ [((mtx 6) m0 &&& 255)])).1 (penL s0 (upL q (fun i9 => T.un (st + i9)) j ++ [92, 117] ++ [((mtx 6) m0 &&& 255)])).2.1))), (qo, .inl (cB, 16392, .inl (penL s0 (upL q (fun i9 => T.un (st + i9)) j ++ [92, 117] ++ [((mtx 6) m0 &&& 255)])).2.2))]) [0, 1] rfl
                      have hDc := hD.sub (ws' := [(mo, .inr (13, MF 30 (nf v (penL s0 (upL q (fun i9 => T.un (st + i9)) j ++ [92, 117] ++ [((mtx 6) m0 &&& 255)])).1 (penL s0 (upL q (fun i9 => T.un (st + i9)) j ++ [92, 117] ++ [((mtx 6) m0 &&& 255)])).2.1))), (qo, .inl (cB, 16392, .inl (penL s0 (upL q (fun i9 => T.un (st + i9)) j ++ [92, 117] ++ [((mtx 6) m0 &&& 255)])).2.2))]) [0, 1] (by decide) rfl
                      have hKc := hK.sub (tys' := [(cB, .byte)]) [0] rfl
                      have hFc := va_free (wc := [(mo, .inr (13, MF 30 (nf v (penL s0 (upL q (fun i9 => T.un (st + i9)) j ++ [92, 117] ++ [((mtx 6) m0 &&& 255)])).1 (penL s0 (upL q (fun i9 => T.un (st + i9)) j ++ [92, 117] ++ [((mtx 6) m0 &&& 255)])).2.1))), (qo, .inl (cB, 16392, .inl (penL s0 (upL q (fun i9 => T.un (st + i9)) j ++ [92, 117] ++ [((mtx 6) m0 &&& 255)])).2.2))]) hD hS hA [0, 1] rfl
                      refine va_callv (va_runV (As := [.int ((mtx 6) m1 &&& 255)]) (rest := []) ⟨hx, hb, hml, hown, hts⟩ (c_Mo_pen l dC dI mo H v cB qo (penL s0 (upL q (fun i9 => T.un (st + i9)) j ++ [92, 117] ++ [((mtx 6) m0 &&& 255)])) (((mtx 6) m1 &&& 255)) (penL_le hk0 _) h10) (cwV 1 hts (gt_V (own := R_Mo) (C := R_Mo) (i := 239) (y := y_Mo_write) i_Mo_write w_1374 w_1376 (gt_sel (y := y_Mo_write) (n := 30) (by decide +kernel)) w_7) rfl rfl rfl (by decide +kernel) ⟨Nat.le_of_ble_eq_true rfl, Nat.le_of_ble_eq_true rfl⟩) ⟨mp_blind, va_recv hKc hPc (ci := 13) (q0 := 0) rfl rfl, fun U hU hW => ⟨rfl, hU, by rw [hU]; exact hPc, va_K.moved hW.alike hKc, hDc.weaken (fun _ _ _ _ => trivial)⟩⟩ rfl rfl hl.1 rfl (lv_room (Nat.le_of_ble_eq_true rfl)) d_Mo_units_181 ⟨Nat.le_of_ble_eq_true rfl, Nat.le_of_ble_eq_true rfl⟩) hS (fun q _ h => hFc q h) hFc (fun u2 t9 H1 locs ht hvm hw hB hz1 hk1 hS => ?_)
                      obtain ⟨hP1, hK1, hD1⟩ := hB
                      rw [ht] at hP1
                      obtain ⟨hP, hD⟩ := va_join (wr := [(t, .inr (12, MF 13 (tw T))), (T.au, .inl (cC, T.U, .inl T.un))]) (w1 := [(mo, .inr (13, MF 30 (nf v u2.1 u2.2.1))), (qo, .inl (cB, 16392, .inl u2.2.2))]) hP hD [0, 1] [2, 3] rfl rfl (by decide) (by decide) hk1 hFc hP1 hD1
                      generalize H1 = H at hP hS ⊢
                      have hP : va_P (dC, dI) classes [(t, .inr (12, MF 13 (tw T))), (T.au, .inl (cC, T.U, .inl T.un)), (mo, .inr (13, MF 30 (nf v u2.1 u2.2.1))), (qo, .inl (cB, 16392, .inl u2.2.2))] H := hP
                      have hD : va_D A [(t, .inr (12, MF 13 (tw T))), (T.au, .inl (cC, T.U, .inl T.un)), (mo, .inr (13, MF 30 (nf v u2.1 u2.2.1))), (qo, .inl (cB, 16392, .inl u2.2.2))] := hD
                      have hP := hP.sub (ws' := [(mo, .inr (13, MF 30 (nf v u2.1 u2.2.1))), (qo, .inl (cB, 16392, .inl u2.2.2)), (t, .inr (12, MF 13 (tw T))), (T.au, .inl (cC, T.U, .inl T.un))]) [2, 3, 0, 1] rfl
                      have hD := hD.sub (ws' := [(mo, .inr (13, MF 30 (nf v u2.1 u2.2.1))), (qo, .inl (cB, 16392, .inl u2.2.2)), (t, .inr (12, MF 13 (tw T))), (T.au, .inl (cC, T.U, .inl T.un))]) [2, 3, 0, 1] (by decide) rfl
                      have hw : u2 = pen1 (penL s0 (upL q (fun i9 => T.un (st + i9)) j ++ [92, 117] ++ [((mtx 6) m0 &&& 255)])) (((mtx 6) m1 &&& 255)) := hw
                      rw [penL_snoc] at hw
                      subst hw
                      have hP : va_P (dC, dI) classes [(mo, .inr (13, MF 30 (nf v (penL s0 (upL q (fun i9 => T.un (st + i9)) j ++ [92, 117] ++ [((mtx 6) m0 &&& 255)] ++ [((mtx 6) m1 &&& 255)])).1 (penL s0 (upL q (fun i9 => T.un (st + i9)) j ++ [92, 117] ++ [((mtx 6) m0 &&& 255)] ++ [((mtx 6) m1 &&& 255)])).2.1))), (qo, .inl (cB, 16392, .inl (penL s0 (upL q (fun i9 => T.un (st + i9)) j ++ [92, 117] ++ [((mtx 6) m0 &&& 255)] ++ [((mtx 6) m1 &&& 255)])).2.2)), (t, .inr (12, MF 13 (tw T))), (T.au, .inl (cC, T.U, .inl T.un))] H := hP
                      have hD : va_D A [(mo, .inr (13, MF 30 (nf v (penL s0 (upL q (fun i9 => T.un (st + i9)) j ++ [92, 117] ++ [((mtx 6) m0 &&& 255)] ++ [((mtx 6) m1 &&& 255)])).1 (penL s0 (upL q (fun i9 => T.un (st + i9)) j ++ [92, 117] ++ [((mtx 6) m0 &&& 255)] ++ [((mtx 6) m1 &&& 255)])).2.1))), (qo, .inl (cB, 16392, .inl (penL s0 (upL q (fun i9 => T.un (st + i9)) j ++ [92, 117] ++ [((mtx 6) m0 &&& 255)] ++ [((mtx 6) m1 &&& 255)])).2.2)), (t, .inr (12, MF 13 (tw T))), (T.au, .inl (cC, T.U, .inl T.un))] := hD
                      refine lv_iinc (v := 4) (lv' := [(8, .int 4), (7, .int (-1)), (6, .int u9), (0, .ref mo), (1, .ref t), (2, .int (nI st)), (3, .int (nI ln)), (4, .int q), (5, .int (nI (st + j)))]) hx hb d_Mo_units_184 hl (k := 0) rfl (by decide) (by decide) rfl (fun ls hl => ?_)
                      refine lv_goto (tgt := 162) hx hb d_Mo_units_187 (by decide) ?_
                      refine lv_iload hx hb d_Mo_units_162 (lv_at hl 0 rfl) ?_
                      refine lv_if_lt (tgt := 190) hx hb d_Mo_units_164 (by decide) (fun h => absurd h (by decide)) (fun _ => ?_)
                      refine lv_aload_n hx hb d_Mo_units_167 rfl (lv_at hl 3 rfl) ?_
                      refine va_ldcS hx hb hown (hM 6 _ rfl).2 d_Mo_units_168 ?_
                      refine lv_iload hx hb d_Mo_units_170 (lv_at hl 2 rfl) ?_
                      refine lv_iload hx hb d_Mo_units_172 (lv_at hl 0 rfl) ?_
                      refine lv_ishr hx hb d_Mo_units_174 ?_
                      refine lv_bipush (v := 15) hx hb d_Mo_units_175 (by decide) ?_
                      refine lv_iand hx hb d_Mo_units_177 ?_
                      obtain ⟨m2, hm2⟩ := and15 ((u9 >>> (4 &&& 31)))
                      refine W.eq (g2 := F0 m 178 ls [.int (nI m2), .ref (K 6).1, .ref mo]) (by rw [show ((u9 >>> (4 &&& 31)) &&& 15) = (nI m2) from hm2.2]) ?_
                      have hE := (hM 6 _ rfl).1
                      have hPc := hP.sub (ws' := []) [] rfl
                      have hDc := hD.sub (ws' := []) [] (by decide) rfl
                      have hKc := hK.sub (tys' := []) [] rfl
                      have hFc := va_free (wc := []) hD hS hA [] rfl
                      refine va_calli (va_runV (As := [.int (nI m2)]) (rest := [.ref mo]) ⟨hx, hb, hml, hown, hts⟩ (c_Str_charAt l dC dI H (K 6).1 (K 6).2 16 (mtx 6) m2 hm2.1 (by decide)) (cwV 1 hts (gt_V (own := R_Mo) (C := R_Str) (i := 159) (y := y_Str_charAt) i_Str_charAt w_1245 w_466 w_467 w_18) rfl rfl rfl (by decide +kernel) ⟨Nat.le_of_ble_eq_true rfl, Nat.le_of_ble_eq_true rfl⟩) ⟨mstr_blind, (by obtain ⟨cell, h1, h2, h3, -⟩ := va_O.kept hE.1 hS.2.1; exact ⟨cell, h1, h2, h3⟩), fun U hU hW => ⟨rfl, ⟨hU, by rw [hU]; exact hPc, va_K.moved hW.alike hKc, hDc.weaken (fun _ _ _ _ => trivial)⟩, by rw [hU]; exact SX.moved' hW.alike (SX.narrow' (SX.kept' hE hS.2.1) hFc)⟩⟩ rfl rfl hl.1 rfl (lv_room (Nat.le_of_ble_eq_true rfl)) d_Mo_units_178 ⟨Nat.le_of_ble_eq_true rfl, Nat.le_of_ble_eq_true rfl⟩) hS (fun q _ h => hFc q h) hFc (fun r0 _u t9 H1 locs ht hvm hw hB hz1 hk1 hS => ?_)
                      obtain ⟨hP1, hK1, hD1⟩ := hB
                      rw [ht] at hP1
                      obtain ⟨hP, hD⟩ := va_join (wr := [(mo, .inr (13, MF 30 (nf v (penL s0 (upL q (fun i9 => T.un (st + i9)) j ++ [92, 117] ++ [((mtx 6) m0 &&& 255)] ++ [((mtx 6) m1 &&& 255)])).1 (penL s0 (upL q (fun i9 => T.un (st + i9)) j ++ [92, 117] ++ [((mtx 6) m0 &&& 255)] ++ [((mtx 6) m1 &&& 255)])).2.1))), (qo, .inl (cB, 16392, .inl (penL s0 (upL q (fun i9 => T.un (st + i9)) j ++ [92, 117] ++ [((mtx 6) m0 &&& 255)] ++ [((mtx 6) m1 &&& 255)])).2.2)), (t, .inr (12, MF 13 (tw T))), (T.au, .inl (cC, T.U, .inl T.un))]) (w1 := []) hP hD [] [0, 1, 2, 3] rfl rfl (by decide) (by decide) hk1 hFc hP1 hD1
                      generalize H1 = H at hP hS ⊢
                      have hP : va_P (dC, dI) classes [(mo, .inr (13, MF 30 (nf v (penL s0 (upL q (fun i9 => T.un (st + i9)) j ++ [92, 117] ++ [((mtx 6) m0 &&& 255)] ++ [((mtx 6) m1 &&& 255)])).1 (penL s0 (upL q (fun i9 => T.un (st + i9)) j ++ [92, 117] ++ [((mtx 6) m0 &&& 255)] ++ [((mtx 6) m1 &&& 255)])).2.1))), (qo, .inl (cB, 16392, .inl (penL s0 (upL q (fun i9 => T.un (st + i9)) j ++ [92, 117] ++ [((mtx 6) m0 &&& 255)] ++ [((mtx 6) m1 &&& 255)])).2.2)), (t, .inr (12, MF 13 (tw T))), (T.au, .inl (cC, T.U, .inl T.un))] H := hP
                      have hD : va_D A [(mo, .inr (13, MF 30 (nf v (penL s0 (upL q (fun i9 => T.un (st + i9)) j ++ [92, 117] ++ [((mtx 6) m0 &&& 255)] ++ [((mtx 6) m1 &&& 255)])).1 (penL s0 (upL q (fun i9 => T.un (st + i9)) j ++ [92, 117] ++ [((mtx 6) m0 &&& 255)] ++ [((mtx 6) m1 &&& 255)])).2.1))), (qo, .inl (cB, 16392, .inl (penL s0 (upL q (fun i9 => T.un (st + i9)) j ++ [92, 117] ++ [((mtx 6) m0 &&& 255)] ++ [((mtx 6) m1 &&& 255)])).2.2)), (t, .inr (12, MF 13 (tw T))), (T.au, .inl (cC, T.U, .inl T.un))] := hD
                      have hw : r0 = (mtx 6) m2 &&& 255 := hw
                      subst hw
                      have hPc := hP.sub (ws' := [(mo, .inr (13, MF 30 (nf v (penL s0 (upL q (fun i9 => T.un (st + i9)) j ++ [92, 117] ++ [((mtx 6) m0 &&& 255)] ++ [((mtx 6) m1 &&& 255)])).1 (penL s0 (upL q (fun i9 => T.un (st + i9)) j ++ [92, 117] ++ [((mtx 6) m0 &&& 255)] ++ [((mtx 6) m1 &&& 255)])).2.1))), (qo, .inl (cB, 16392, .inl (penL s0 (upL q (fun i9 => T.un (st + i9)) j ++ [92, 117] ++ [((mtx 6) m0 &&& 255)] ++ [((mtx 6) m1 &&& 255)])).2.2))]) [0, 1] rfl
                      have hDc := hD.sub (ws' := [(mo, .inr (13, MF 30 (nf v (penL s0 (upL q (fun i9 => T.un (st + i9)) j ++ [92, 117] ++ [((mtx 6) m0 &&& 255)] ++ [((mtx 6) m1 &&& 255)])).1 (penL s0 (upL q (fun i9 => T.un (st + i9)) j ++ [92, 117] ++ [((mtx 6) m0 &&& 255)] ++ [((mtx 6) m1 &&& 255)])).2.1))), (qo, .inl (cB, 16392, .inl (penL s0 (upL q (fun i9 => T.un (st + i9)) j ++ [92, 117] ++ [((mtx 6) m0 &&& 255)] ++ [((mtx 6) m1 &&& 255)])).2.2))]) [0, 1] (by decide) rfl
                      have hKc := hK.sub (tys' := [(cB, .byte)]) [0] rfl
                      have hFc := va_free (wc := [(mo, .inr (13, MF 30 (nf v (penL s0 (upL q (fun i9 => T.un (st + i9)) j ++ [92, 117] ++ [((mtx 6) m0 &&& 255)] ++ [((mtx 6) m1 &&& 255)])).1 (penL s0 (upL q (fun i9 => T.un (st + i9)) j ++ [92, 117] ++ [((mtx 6) m0 &&& 255)] ++ [((mtx 6) m1 &&& 255)])).2.1))), (qo, .inl (cB, 16392, .inl (penL s0 (upL q (fun i9 => T.un (st + i9)) j ++ [92, 117] ++ [((mtx 6) m0 &&& 255)] ++ [((mtx 6) m1 &&& 255)])).2.2))]) hD hS hA [0, 1] rfl
                      refine va_callv (va_runV (As := [.int ((mtx 6) m2 &&& 255)]) (rest := []) ⟨hx, hb, hml, hown, hts⟩ (c_Mo_pen l dC dI mo H v cB qo (penL s0 (upL q (fun i9 => T.un (st + i9)) j ++ [92, 117] ++ [((mtx 6) m0 &&& 255)] ++ [((mtx 6) m1 &&& 255)])) (((mtx 6) m2 &&& 255)) (penL_le hk0 _) h10) (cwV 1 hts (gt_V (own := R_Mo) (C := R_Mo) (i := 239) (y := y_Mo_write) i_Mo_write w_1374 w_1376 (gt_sel (y := y_Mo_write) (n := 30) (by decide +kernel)) w_7) rfl rfl rfl (by decide +kernel) ⟨Nat.le_of_ble_eq_true rfl, Nat.le_of_ble_eq_true rfl⟩) ⟨mp_blind, va_recv hKc hPc (ci := 13) (q0 := 0) rfl rfl, fun U hU hW => ⟨rfl, hU, by rw [hU]; exact hPc, va_K.moved hW.alike hKc, hDc.weaken (fun _ _ _ _ => trivial)⟩⟩ rfl rfl hl.1 rfl (lv_room (Nat.le_of_ble_eq_true rfl)) d_Mo_units_181 ⟨Nat.le_of_ble_eq_true rfl, Nat.le_of_ble_eq_true rfl⟩) hS (fun q _ h => hFc q h) hFc (fun u2 t9 H1 locs ht hvm hw hB hz1 hk1 hS => ?_)
                      obtain ⟨hP1, hK1, hD1⟩ := hB
                      rw [ht] at hP1
                      obtain ⟨hP, hD⟩ := va_join (wr := [(t, .inr (12, MF 13 (tw T))), (T.au, .inl (cC, T.U, .inl T.un))]) (w1 := [(mo, .inr (13, MF 30 (nf v u2.1 u2.2.1))), (qo, .inl (cB, 16392, .inl u2.2.2))]) hP hD [0, 1] [2, 3] rfl rfl (by decide) (by decide) hk1 hFc hP1 hD1
                      generalize H1 = H at hP hS ⊢
                      have hP : va_P (dC, dI) classes [(t, .inr (12, MF 13 (tw T))), (T.au, .inl (cC, T.U, .inl T.un)), (mo, .inr (13, MF 30 (nf v u2.1 u2.2.1))), (qo, .inl (cB, 16392, .inl u2.2.2))] H := hP
                      have hD : va_D A [(t, .inr (12, MF 13 (tw T))), (T.au, .inl (cC, T.U, .inl T.un)), (mo, .inr (13, MF 30 (nf v u2.1 u2.2.1))), (qo, .inl (cB, 16392, .inl u2.2.2))] := hD
                      have hP := hP.sub (ws' := [(mo, .inr (13, MF 30 (nf v u2.1 u2.2.1))), (qo, .inl (cB, 16392, .inl u2.2.2)), (t, .inr (12, MF 13 (tw T))), (T.au, .inl (cC, T.U, .inl T.un))]) [2, 3, 0, 1] rfl
                      have hD := hD.sub (ws' := [(mo, .inr (13, MF 30 (nf v u2.1 u2.2.1))), (qo, .inl (cB, 16392, .inl u2.2.2)), (t, .inr (12, MF 13 (tw T))), (T.au, .inl (cC, T.U, .inl T.un))]) [2, 3, 0, 1] (by decide) rfl
                      have hw : u2 = pen1 (penL s0 (upL q (fun i9 => T.un (st + i9)) j ++ [92, 117] ++ [((mtx 6) m0 &&& 255)] ++ [((mtx 6) m1 &&& 255)])) (((mtx 6) m2 &&& 255)) := hw
                      rw [penL_snoc] at hw
                      subst hw
                      have hP : va_P (dC, dI) classes [(mo, .inr (13, MF 30 (nf v (penL s0 (upL q (fun i9 => T.un (st + i9)) j ++ [92, 117] ++ [((mtx 6) m0 &&& 255)] ++ [((mtx 6) m1 &&& 255)] ++ [((mtx 6) m2 &&& 255)])).1 (penL s0 (upL q (fun i9 => T.un (st + i9)) j ++ [92, 117] ++ [((mtx 6) m0 &&& 255)] ++ [((mtx 6) m1 &&& 255)] ++ [((mtx 6) m2 &&& 255)])).2.1))), (qo, .inl (cB, 16392, .inl (penL s0 (upL q (fun i9 => T.un (st + i9)) j ++ [92, 117] ++ [((mtx 6) m0 &&& 255)] ++ [((mtx 6) m1 &&& 255)] ++ [((mtx 6) m2 &&& 255)])).2.2)), (t, .inr (12, MF 13 (tw T))), (T.au, .inl (cC, T.U, .inl T.un))] H := hP
                      have hD : va_D A [(mo, .inr (13, MF 30 (nf v (penL s0 (upL q (fun i9 => T.un (st + i9)) j ++ [92, 117] ++ [((mtx 6) m0 &&& 255)] ++ [((mtx 6) m1 &&& 255)] ++ [((mtx 6) m2 &&& 255)])).1 (penL s0 (upL q (fun i9 => T.un (st + i9)) j ++ [92, 117] ++ [((mtx 6) m0 &&& 255)] ++ [((mtx 6) m1 &&& 255)] ++ [((mtx 6) m2 &&& 255)])).2.1))), (qo, .inl (cB, 16392, .inl (penL s0 (upL q (fun i9 => T.un (st + i9)) j ++ [92, 117] ++ [((mtx 6) m0 &&& 255)] ++ [((mtx 6) m1 &&& 255)] ++ [((mtx 6) m2 &&& 255)])).2.2)), (t, .inr (12, MF 13 (tw T))), (T.au, .inl (cC, T.U, .inl T.un))] := hD
                      refine lv_iinc (v := 0) (lv' := [(8, .int 0), (7, .int (-1)), (6, .int u9), (0, .ref mo), (1, .ref t), (2, .int (nI st)), (3, .int (nI ln)), (4, .int q), (5, .int (nI (st + j)))]) hx hb d_Mo_units_184 hl (k := 0) rfl (by decide) (by decide) rfl (fun ls hl => ?_)
                      refine lv_goto (tgt := 162) hx hb d_Mo_units_187 (by decide) ?_
                      refine lv_iload hx hb d_Mo_units_162 (lv_at hl 0 rfl) ?_
                      refine lv_if_lt (tgt := 190) hx hb d_Mo_units_164 (by decide) (fun h => absurd h (by decide)) (fun _ => ?_)
                      refine lv_aload_n hx hb d_Mo_units_167 rfl (lv_at hl 3 rfl) ?_
                      refine va_ldcS hx hb hown (hM 6 _ rfl).2 d_Mo_units_168 ?_
                      refine lv_iload hx hb d_Mo_units_170 (lv_at hl 2 rfl) ?_
                      refine lv_iload hx hb d_Mo_units_172 (lv_at hl 0 rfl) ?_
                      refine lv_ishr hx hb d_Mo_units_174 ?_
                      refine lv_bipush (v := 15) hx hb d_Mo_units_175 (by decide) ?_
                      refine lv_iand hx hb d_Mo_units_177 ?_
                      obtain ⟨m3, hm3⟩ := and15 ((u9 >>> (0 &&& 31)))
                      refine W.eq (g2 := F0 m 178 ls [.int (nI m3), .ref (K 6).1, .ref mo]) (by rw [show ((u9 >>> (0 &&& 31)) &&& 15) = (nI m3) from hm3.2]) ?_
                      have hE := (hM 6 _ rfl).1
                      have hPc := hP.sub (ws' := []) [] rfl
                      have hDc := hD.sub (ws' := []) [] (by decide) rfl
                      have hKc := hK.sub (tys' := []) [] rfl
                      have hFc := va_free (wc := []) hD hS hA [] rfl
                      refine va_calli (va_runV (As := [.int (nI m3)]) (rest := [.ref mo]) ⟨hx, hb, hml, hown, hts⟩ (c_Str_charAt l dC dI H (K 6).1 (K 6).2 16 (mtx 6) m3 hm3.1 (by decide)) (cwV 1 hts (gt_V (own := R_Mo) (C := R_Str) (i := 159) (y := y_Str_charAt) i_Str_charAt w_1245 w_466 w_467 w_18) rfl rfl rfl (by decide +kernel) ⟨Nat.le_of_ble_eq_true rfl, Nat.le_of_ble_eq_true rfl⟩) ⟨mstr_blind, (by obtain ⟨cell, h1, h2, h3, -⟩ := va_O.kept hE.1 hS.2.1; exact ⟨cell, h1, h2, h3⟩), fun U hU hW => ⟨rfl, ⟨hU, by rw [hU]; exact hPc, va_K.moved hW.alike hKc, hDc.weaken (fun _ _ _ _ => trivial)⟩, by rw [hU]; exact SX.moved' hW.alike (SX.narrow' (SX.kept' hE hS.2.1) hFc)⟩⟩ rfl rfl hl.1 rfl (lv_room (Nat.le_of_ble_eq_true rfl)) d_Mo_units_178 ⟨Nat.le_of_ble_eq_true rfl, Nat.le_of_ble_eq_true rfl⟩) hS (fun q _ h => hFc q h) hFc (fun r0 _u t9 H1 locs ht hvm hw hB hz1 hk1 hS => ?_)
                      obtain ⟨hP1, hK1, hD1⟩ := hB
                      rw [ht] at hP1
                      obtain ⟨hP, hD⟩ := va_join (wr := [(mo, .inr (13, MF 30 (nf v (penL s0 (upL q (fun i9 => T.un (st + i9)) j ++ [92, 117] ++ [((mtx 6) m0 &&& 255)] ++ [((mtx 6) m1 &&& 255)] ++ [((mtx 6) m2 &&& 255)])).1 (penL s0 (upL q (fun i9 => T.un (st + i9)) j ++ [92, 117] ++ [((mtx 6) m0 &&& 255)] ++ [((mtx 6) m1 &&& 255)] ++ [((mtx 6) m2 &&& 255)])).2.1))), (qo, .inl (cB, 16392, .inl (penL s0 (upL q (fun i9 => T.un (st + i9)) j ++ [92, 117] ++ [((mtx 6) m0 &&& 255)] ++ [((mtx 6) m1 &&& 255)] ++ [((mtx 6) m2 &&& 255)])).2.2)), (t, .inr (12, MF 13 (tw T))), (T.au, .inl (cC, T.U, .inl T.un))]) (w1 := []) hP hD [] [0, 1, 2, 3] rfl rfl (by decide) (by decide) hk1 hFc hP1 hD1
                      generalize H1 = H at hP hS ⊢
                      have hP : va_P (dC, dI) classes [(mo, .inr (13, MF 30 (nf v (penL s0 (upL q (fun i9 => T.un (st + i9)) j ++ [92, 117] ++ [((mtx 6) m0 &&& 255)] ++ [((mtx 6) m1 &&& 255)] ++ [((mtx 6) m2 &&& 255)])).1 (penL s0 (upL q (fun i9 => T.un (st + i9)) j ++ [92, 117] ++ [((mtx 6) m0 &&& 255)] ++ [((mtx 6) m1 &&& 255)] ++ [((mtx 6) m2 &&& 255)])).2.1))), (qo, .inl (cB, 16392, .inl (penL s0 (upL q (fun i9 => T.un (st + i9)) j ++ [92, 117] ++ [((mtx 6) m0 &&& 255)] ++ [((mtx 6) m1 &&& 255)] ++ [((mtx 6) m2 &&& 255)])).2.2)), (t, .inr (12, MF 13 (tw T))), (T.au, .inl (cC, T.U, .inl T.un))] H := hP
                      have hD : va_D A [(mo, .inr (13, MF 30 (nf v (penL s0 (upL q (fun i9 => T.un (st + i9)) j ++ [92, 117] ++ [((mtx 6) m0 &&& 255)] ++ [((mtx 6) m1 &&& 255)] ++ [((mtx 6) m2 &&& 255)])).1 (penL s0 (upL q (fun i9 => T.un (st + i9)) j ++ [92, 117] ++ [((mtx 6) m0 &&& 255)] ++ [((mtx 6) m1 &&& 255)] ++ [((mtx 6) m2 &&& 255)])).2.1))), (qo, .inl (cB, 16392, .inl (penL s0 (upL q (fun i9 => T.un (st + i9)) j ++ [92, 117] ++ [((mtx 6) m0 &&& 255)] ++ [((mtx 6) m1 &&& 255)] ++ [((mtx 6) m2 &&& 255)])).2.2)), (t, .inr (12, MF 13 (tw T))), (T.au, .inl (cC, T.U, .inl T.un))] := hD
                      have hw : r0 = (mtx 6) m3 &&& 255 := hw
                      subst hw
                      have hPc := hP.sub (ws' := [(mo, .inr (13, MF 30 (nf v (penL s0 (upL q (fun i9 => T.un (st + i9)) j ++ [92, 117] ++ [((mtx 6) m0 &&& 255)] ++ [((mtx 6) m1 &&& 255)] ++ [((mtx 6) m2 &&& 255)])).1 (penL s0 (upL q (fun i9 => T.un (st + i9)) j ++ [92, 117] ++ [((mtx 6) m0 &&& 255)] ++ [((mtx 6) m1 &&& 255)] ++ [((mtx 6) m2 &&& 255)])).2.1))), (qo, .inl (cB, 16392, .inl (penL s0 (upL q (fun i9 => T.un (st + i9)) j ++ [92, 117] ++ [((mtx 6) m0 &&& 255)] ++ [((mtx 6) m1 &&& 255)] ++ [((mtx 6) m2 &&& 255)])).2.2))]) [0, 1] rfl
                      have hDc := hD.sub (ws' := [(mo, .inr (13, MF 30 (nf v (penL s0 (upL q (fun i9 => T.un (st + i9)) j ++ [92, 117] ++ [((mtx 6) m0 &&& 255)] ++ [((mtx 6) m1 &&& 255)] ++ [((mtx 6) m2 &&& 255)])).1 (penL s0 (upL q (fun i9 => T.un (st + i9)) j ++ [92, 117] ++ [((mtx 6) m0 &&& 255)] ++ [((mtx 6) m1 &&& 255)] ++ [((mtx 6) m2 &&& 255)])).2.1))), (qo, .inl (cB, 16392, .inl (penL s0 (upL q (fun i9 => T.un (st + i9)) j ++ [92, 117] ++ [((mtx 6) m0 &&& 255)] ++ [((mtx 6) m1 &&& 255)] ++ [((mtx 6) m2 &&& 255)])).2.2))]) [0, 1] (by decide) rfl
                      have hKc := hK.sub (tys' := [(cB, .byte)]) [0] rfl
                      have hFc := va_free (wc := [(mo, .inr (13, MF 30 (nf v (penL s0 (upL q (fun i9 => T.un (st + i9)) j ++ [92, 117] ++ [((mtx 6) m0 &&& 255)] ++ [((mtx 6) m1 &&& 255)] ++ [((mtx 6) m2 &&& 255)])).1 (penL s0 (upL q (fun i9 => T.un (st + i9)) j ++ [92, 117] ++ [((mtx 6) m0 &&& 255)] ++ [((mtx 6) m1 &&& 255)] ++ [((mtx 6) m2 &&& 255)])).2.1))), (qo, .inl (cB, 16392, .inl (penL s0 (upL q (fun i9 => T.un (st + i9)) j ++ [92, 117] ++ [((mtx 6) m0 &&& 255)] ++ [((mtx 6) m1 &&& 255)] ++ [((mtx 6) m2 &&& 255)])).2.2))]) hD hS hA [0, 1] rfl
                      refine va_callv (va_runV (As := [.int ((mtx 6) m3 &&& 255)]) (rest := []) ⟨hx, hb, hml, hown, hts⟩ (c_Mo_pen l dC dI mo H v cB qo (penL s0 (upL q (fun i9 => T.un (st + i9)) j ++ [92, 117] ++ [((mtx 6) m0 &&& 255)] ++ [((mtx 6) m1 &&& 255)] ++ [((mtx 6) m2 &&& 255)])) (((mtx 6) m3 &&& 255)) (penL_le hk0 _) h10) (cwV 1 hts (gt_V (own := R_Mo) (C := R_Mo) (i := 239) (y := y_Mo_write) i_Mo_write w_1374 w_1376 (gt_sel (y := y_Mo_write) (n := 30) (by decide +kernel)) w_7) rfl rfl rfl (by decide +kernel) ⟨Nat.le_of_ble_eq_true rfl, Nat.le_of_ble_eq_true rfl⟩) ⟨mp_blind, va_recv hKc hPc (ci := 13) (q0 := 0) rfl rfl, fun U hU hW => ⟨rfl, hU, by rw [hU]; exact hPc, va_K.moved hW.alike hKc, hDc.weaken (fun _ _ _ _ => trivial)⟩⟩ rfl rfl hl.1 rfl (lv_room (Nat.le_of_ble_eq_true rfl)) d_Mo_units_181 ⟨Nat.le_of_ble_eq_true rfl, Nat.le_of_ble_eq_true rfl⟩) hS (fun q _ h => hFc q h) hFc (fun u2 t9 H1 locs ht hvm hw hB hz1 hk1 hS => ?_)
                      obtain ⟨hP1, hK1, hD1⟩ := hB
                      rw [ht] at hP1
                      obtain ⟨hP, hD⟩ := va_join (wr := [(t, .inr (12, MF 13 (tw T))), (T.au, .inl (cC, T.U, .inl T.un))]) (w1 := [(mo, .inr (13, MF 30 (nf v u2.1 u2.2.1))), (qo, .inl (cB, 16392, .inl u2.2.2))]) hP hD [0, 1] [2, 3] rfl rfl (by decide) (by decide) hk1 hFc hP1 hD1
                      generalize H1 = H at hP hS ⊢
                      have hP : va_P (dC, dI) classes [(t, .inr (12, MF 13 (tw T))), (T.au, .inl (cC, T.U, .inl T.un)), (mo, .inr (13, MF 30 (nf v u2.1 u2.2.1))), (qo, .inl (cB, 16392, .inl u2.2.2))] H := hP
                      have hD : va_D A [(t, .inr (12, MF 13 (tw T))), (T.au, .inl (cC, T.U, .inl T.un)), (mo, .inr (13, MF 30 (nf v u2.1 u2.2.1))), (qo, .inl (cB, 16392, .inl u2.2.2))] := hD
                      have hP := hP.sub (ws' := [(mo, .inr (13, MF 30 (nf v u2.1 u2.2.1))), (qo, .inl (cB, 16392, .inl u2.2.2)), (t, .inr (12, MF 13 (tw T))), (T.au, .inl (cC, T.U, .inl T.un))]) [2, 3, 0, 1] rfl
                      have hD := hD.sub (ws' := [(mo, .inr (13, MF 30 (nf v u2.1 u2.2.1))), (qo, .inl (cB, 16392, .inl u2.2.2)), (t, .inr (12, MF 13 (tw T))), (T.au, .inl (cC, T.U, .inl T.un))]) [2, 3, 0, 1] (by decide) rfl
                      have hw : u2 = pen1 (penL s0 (upL q (fun i9 => T.un (st + i9)) j ++ [92, 117] ++ [((mtx 6) m0 &&& 255)] ++ [((mtx 6) m1 &&& 255)] ++ [((mtx 6) m2 &&& 255)])) (((mtx 6) m3 &&& 255)) := hw
                      rw [penL_snoc] at hw
                      subst hw
                      have hP : va_P (dC, dI) classes [(mo, .inr (13, MF 30 (nf v (penL s0 (upL q (fun i9 => T.un (st + i9)) j ++ [92, 117] ++ [((mtx 6) m0 &&& 255)] ++ [((mtx 6) m1 &&& 255)] ++ [((mtx 6) m2 &&& 255)] ++ [((mtx 6) m3 &&& 255)])).1 (penL s0 (upL q (fun i9 => T.un (st + i9)) j ++ [92, 117] ++ [((mtx 6) m0 &&& 255)] ++ [((mtx 6) m1 &&& 255)] ++ [((mtx 6) m2 &&& 255)] ++ [((mtx 6) m3 &&& 255)])).2.1))), (qo, .inl (cB, 16392, .inl (penL s0 (upL q (fun i9 => T.un (st + i9)) j ++ [92, 117] ++ [((mtx 6) m0 &&& 255)] ++ [((mtx 6) m1 &&& 255)] ++ [((mtx 6) m2 &&& 255)] ++ [((mtx 6) m3 &&& 255)])).2.2)), (t, .inr (12, MF 13 (tw T))), (T.au, .inl (cC, T.U, .inl T.un))] H := hP
                      have hD : va_D A [(mo, .inr (13, MF 30 (nf v (penL s0 (upL q (fun i9 => T.un (st + i9)) j ++ [92, 117] ++ [((mtx 6) m0 &&& 255)] ++ [((mtx 6) m1 &&& 255)] ++ [((mtx 6) m2 &&& 255)] ++ [((mtx 6) m3 &&& 255)])).1 (penL s0 (upL q (fun i9 => T.un (st + i9)) j ++ [92, 117] ++ [((mtx 6) m0 &&& 255)] ++ [((mtx 6) m1 &&& 255)] ++ [((mtx 6) m2 &&& 255)] ++ [((mtx 6) m3 &&& 255)])).2.1))), (qo, .inl (cB, 16392, .inl (penL s0 (upL q (fun i9 => T.un (st + i9)) j ++ [92, 117] ++ [((mtx 6) m0 &&& 255)] ++ [((mtx 6) m1 &&& 255)] ++ [((mtx 6) m2 &&& 255)] ++ [((mtx 6) m3 &&& 255)])).2.2)), (t, .inr (12, MF 13 (tw T))), (T.au, .inl (cC, T.U, .inl T.un))] := hD
                      refine lv_iinc (v := (-4)) (lv' := [(8, .int (-4)), (7, .int (-1)), (6, .int u9), (0, .ref mo), (1, .ref t), (2, .int (nI st)), (3, .int (nI ln)), (4, .int q), (5, .int (nI (st + j)))]) hx hb d_Mo_units_184 hl (k := 0) rfl (by decide) (by decide) rfl (fun ls hl => ?_)
                      refine lv_goto (tgt := 162) hx hb d_Mo_units_187 (by decide) ?_
                      refine lv_iload hx hb d_Mo_units_162 (lv_at hl 0 rfl) ?_
                      refine lv_if_lt (tgt := 190) hx hb d_Mo_units_164 (by decide) (fun _ => ?_) (fun h => absurd (by decide) h)
                      refine lv_goto (tgt := 199) hx hb d_Mo_units_190 (by decide) ?_
                      refine lv_iinc (v := nI (st + (j + 1))) (lv' := [(5, .int (nI (st + (j + 1)))), (8, .int (-4)), (7, .int (-1)), (6, .int u9), (0, .ref mo), (1, .ref t), (2, .int (nI st)), (3, .int (nI ln)), (4, .int q)]) hx hb d_Mo_units_199 hl (k := 8) rfl (nI_1 (st + j)) (by decide) rfl (fun ls hl => ?_)
                      refine lv_goto (tgt := 9) hx hb d_Mo_units_202 (by decide) ?_
                      have hek : escK u9 = (-1) := by unfold escK; rw [if_neg c30, if_neg c41, if_neg c52, if_neg c63, if_neg c74]
                      have hun : upL q (fun i9 => T.un (st + i9)) (j + 1) = upL q (fun i9 => T.un (st + i9)) j ++ [92, 117] ++ [((mtx 6) m0 &&& 255)] ++ [((mtx 6) m1 &&& 255)] ++ [((mtx 6) m2 &&& 255)] ++ [((mtx 6) m3 &&& 255)] := by
                        show upL q (fun i9 => T.un (st + i9)) j ++ unB q (T.un (st + j)) = _
                        rw [← hu9]
                        unfold unB
                        rw [if_neg (fun h => h.elim c88 c95), hek, if_neg (fun h => h (by decide)), if_pos (Or.inr c149)]
                        rw [hxD_eq hm0.1 hm0.2, hxD_eq hm1.1 hm1.2, hxD_eq hm2.1 hm2.2, hxD_eq hm3.1 hm3.2]
                        simp only [List.append_assoc, List.cons_append, List.nil_append]; first | done | rfl
                      rw [← hun] at hP hD
                      exact ih (j + 1) _ _ _ (by omega) (by show ln - (j + 1) < ln - j; omega) hP hD hS (lv_sub hl [4, 5, 6, 7, 8, 0] rfl)
                · refine lv_aload_n hx hb d_Mo_units_98 rfl (lv_at hl 2 rfl) ?_
                  refine lv_bipush (v := 92) hx hb d_Mo_units_99 (by decide) ?_
                  have hPc := hP.sub (ws' := [(mo, .inr (13, MF 30 (nf v (penL s0 (upL q (fun i9 => T.un (st + i9)) j)).1 (penL s0 (upL q (fun i9 => T.un (st + i9)) j)).2.1))), (qo, .inl (cB, 16392, .inl (penL s0 (upL q (fun i9 => T.un (st + i9)) j)).2.2))]) [0, 1] rfl
                  have hDc := hD.sub (ws' := [(mo, .inr (13, MF 30 (nf v (penL s0 (upL q (fun i9 => T.un (st + i9)) j)).1 (penL s0 (upL q (fun i9 => T.un (st + i9)) j)).2.1))), (qo, .inl (cB, 16392, .inl (penL s0 (upL q (fun i9 => T.un (st + i9)) j)).2.2))]) [0, 1] (by decide) rfl
                  have hKc := hK.sub (tys' := [(cB, .byte)]) [0] rfl
                  have hFc := va_free (wc := [(mo, .inr (13, MF 30 (nf v (penL s0 (upL q (fun i9 => T.un (st + i9)) j)).1 (penL s0 (upL q (fun i9 => T.un (st + i9)) j)).2.1))), (qo, .inl (cB, 16392, .inl (penL s0 (upL q (fun i9 => T.un (st + i9)) j)).2.2))]) hD hS hA [0, 1] rfl
                  refine va_callv (va_runV (As := [.int 92]) (rest := []) ⟨hx, hb, hml, hown, hts⟩ (c_Mo_pen l dC dI mo H v cB qo (penL s0 (upL q (fun i9 => T.un (st + i9)) j)) 92 (penL_le hk0 _) h10) (cwV 1 hts (gt_V (own := R_Mo) (C := R_Mo) (i := 239) (y := y_Mo_write) i_Mo_write w_1374 w_1376 (gt_sel (y := y_Mo_write) (n := 30) (by decide +kernel)) w_7) rfl rfl rfl (by decide +kernel) ⟨Nat.le_of_ble_eq_true rfl, Nat.le_of_ble_eq_true rfl⟩) ⟨mp_blind, va_recv hKc hPc (ci := 13) (q0 := 0) rfl rfl, fun U hU hW => ⟨rfl, hU, by rw [hU]; exact hPc, va_K.moved hW.alike hKc, hDc.weaken (fun _ _ _ _ => trivial)⟩⟩ rfl rfl hl.1 rfl (lv_room (Nat.le_of_ble_eq_true rfl)) d_Mo_units_101 ⟨Nat.le_of_ble_eq_true rfl, Nat.le_of_ble_eq_true rfl⟩) hS (fun q _ h => hFc q h) hFc (fun u2 t9 H1 locs ht hvm hw hB hz1 hk1 hS => ?_)
                  obtain ⟨hP1, hK1, hD1⟩ := hB
                  rw [ht] at hP1
                  obtain ⟨hP, hD⟩ := va_join (wr := [(t, .inr (12, MF 13 (tw T))), (T.au, .inl (cC, T.U, .inl T.un))]) (w1 := [(mo, .inr (13, MF 30 (nf v u2.1 u2.2.1))), (qo, .inl (cB, 16392, .inl u2.2.2))]) hP hD [0, 1] [2, 3] rfl rfl (by decide) (by decide) hk1 hFc hP1 hD1
                  generalize H1 = H at hP hS ⊢
                  have hP : va_P (dC, dI) classes [(t, .inr (12, MF 13 (tw T))), (T.au, .inl (cC, T.U, .inl T.un)), (mo, .inr (13, MF 30 (nf v u2.1 u2.2.1))), (qo, .inl (cB, 16392, .inl u2.2.2))] H := hP
                  have hD : va_D A [(t, .inr (12, MF 13 (tw T))), (T.au, .inl (cC, T.U, .inl T.un)), (mo, .inr (13, MF 30 (nf v u2.1 u2.2.1))), (qo, .inl (cB, 16392, .inl u2.2.2))] := hD
                  have hP := hP.sub (ws' := [(mo, .inr (13, MF 30 (nf v u2.1 u2.2.1))), (qo, .inl (cB, 16392, .inl u2.2.2)), (t, .inr (12, MF 13 (tw T))), (T.au, .inl (cC, T.U, .inl T.un))]) [2, 3, 0, 1] rfl
                  have hD := hD.sub (ws' := [(mo, .inr (13, MF 30 (nf v u2.1 u2.2.1))), (qo, .inl (cB, 16392, .inl u2.2.2)), (t, .inr (12, MF 13 (tw T))), (T.au, .inl (cC, T.U, .inl T.un))]) [2, 3, 0, 1] (by decide) rfl
                  have hw : u2 = pen1 (penL s0 (upL q (fun i9 => T.un (st + i9)) j)) 92 := hw
                  rw [penL_snoc] at hw
                  subst hw
                  have hP : va_P (dC, dI) classes [(mo, .inr (13, MF 30 (nf v (penL s0 (upL q (fun i9 => T.un (st + i9)) j ++ [92])).1 (penL s0 (upL q (fun i9 => T.un (st + i9)) j ++ [92])).2.1))), (qo, .inl (cB, 16392, .inl (penL s0 (upL q (fun i9 => T.un (st + i9)) j ++ [92])).2.2)), (t, .inr (12, MF 13 (tw T))), (T.au, .inl (cC, T.U, .inl T.un))] H := hP
                  have hD : va_D A [(mo, .inr (13, MF 30 (nf v (penL s0 (upL q (fun i9 => T.un (st + i9)) j ++ [92])).1 (penL s0 (upL q (fun i9 => T.un (st + i9)) j ++ [92])).2.1))), (qo, .inl (cB, 16392, .inl (penL s0 (upL q (fun i9 => T.un (st + i9)) j ++ [92])).2.2)), (t, .inr (12, MF 13 (tw T))), (T.au, .inl (cC, T.U, .inl T.un))] := hD
                  refine lv_aload_n hx hb d_Mo_units_104 rfl (lv_at hl 2 rfl) ?_
                  refine lv_iload hx hb d_Mo_units_105 (lv_at hl 1 rfl) ?_
                  have hPc := hP.sub (ws' := [(mo, .inr (13, MF 30 (nf v (penL s0 (upL q (fun i9 => T.un (st + i9)) j ++ [92])).1 (penL s0 (upL q (fun i9 => T.un (st + i9)) j ++ [92])).2.1))), (qo, .inl (cB, 16392, .inl (penL s0 (upL q (fun i9 => T.un (st + i9)) j ++ [92])).2.2))]) [0, 1] rfl
                  have hDc := hD.sub (ws' := [(mo, .inr (13, MF 30 (nf v (penL s0 (upL q (fun i9 => T.un (st + i9)) j ++ [92])).1 (penL s0 (upL q (fun i9 => T.un (st + i9)) j ++ [92])).2.1))), (qo, .inl (cB, 16392, .inl (penL s0 (upL q (fun i9 => T.un (st + i9)) j ++ [92])).2.2))]) [0, 1] (by decide) rfl
                  have hKc := hK.sub (tys' := [(cB, .byte)]) [0] rfl
                  have hFc := va_free (wc := [(mo, .inr (13, MF 30 (nf v (penL s0 (upL q (fun i9 => T.un (st + i9)) j ++ [92])).1 (penL s0 (upL q (fun i9 => T.un (st + i9)) j ++ [92])).2.1))), (qo, .inl (cB, 16392, .inl (penL s0 (upL q (fun i9 => T.un (st + i9)) j ++ [92])).2.2))]) hD hS hA [0, 1] rfl
                  refine va_callv (va_runV (As := [.int u9]) (rest := []) ⟨hx, hb, hml, hown, hts⟩ (c_Mo_pen l dC dI mo H v cB qo (penL s0 (upL q (fun i9 => T.un (st + i9)) j ++ [92])) u9 (penL_le hk0 _) h10) (cwV 1 hts (gt_V (own := R_Mo) (C := R_Mo) (i := 239) (y := y_Mo_write) i_Mo_write w_1374 w_1376 (gt_sel (y := y_Mo_write) (n := 30) (by decide +kernel)) w_7) rfl rfl rfl (by decide +kernel) ⟨Nat.le_of_ble_eq_true rfl, Nat.le_of_ble_eq_true rfl⟩) ⟨mp_blind, va_recv hKc hPc (ci := 13) (q0 := 0) rfl rfl, fun U hU hW => ⟨rfl, hU, by rw [hU]; exact hPc, va_K.moved hW.alike hKc, hDc.weaken (fun _ _ _ _ => trivial)⟩⟩ rfl rfl hl.1 rfl (lv_room (Nat.le_of_ble_eq_true rfl)) d_Mo_units_107 ⟨Nat.le_of_ble_eq_true rfl, Nat.le_of_ble_eq_true rfl⟩) hS (fun q _ h => hFc q h) hFc (fun u2 t9 H1 locs ht hvm hw hB hz1 hk1 hS => ?_)
                  obtain ⟨hP1, hK1, hD1⟩ := hB
                  rw [ht] at hP1
                  obtain ⟨hP, hD⟩ := va_join (wr := [(t, .inr (12, MF 13 (tw T))), (T.au, .inl (cC, T.U, .inl T.un))]) (w1 := [(mo, .inr (13, MF 30 (nf v u2.1 u2.2.1))), (qo, .inl (cB, 16392, .inl u2.2.2))]) hP hD [0, 1] [2, 3] rfl rfl (by decide) (by decide) hk1 hFc hP1 hD1
                  generalize H1 = H at hP hS ⊢
                  have hP : va_P (dC, dI) classes [(t, .inr (12, MF 13 (tw T))), (T.au, .inl (cC, T.U, .inl T.un)), (mo, .inr (13, MF 30 (nf v u2.1 u2.2.1))), (qo, .inl (cB, 16392, .inl u2.2.2))] H := hP
                  have hD : va_D A [(t, .inr (12, MF 13 (tw T))), (T.au, .inl (cC, T.U, .inl T.un)), (mo, .inr (13, MF 30 (nf v u2.1 u2.2.1))), (qo, .inl (cB, 16392, .inl u2.2.2))] := hD
                  have hP := hP.sub (ws' := [(mo, .inr (13, MF 30 (nf v u2.1 u2.2.1))), (qo, .inl (cB, 16392, .inl u2.2.2)), (t, .inr (12, MF 13 (tw T))), (T.au, .inl (cC, T.U, .inl T.un))]) [2, 3, 0, 1] rfl
                  have hD := hD.sub (ws' := [(mo, .inr (13, MF 30 (nf v u2.1 u2.2.1))), (qo, .inl (cB, 16392, .inl u2.2.2)), (t, .inr (12, MF 13 (tw T))), (T.au, .inl (cC, T.U, .inl T.un))]) [2, 3, 0, 1] (by decide) rfl
                  have hw : u2 = pen1 (penL s0 (upL q (fun i9 => T.un (st + i9)) j ++ [92])) u9 := hw
                  rw [penL_snoc] at hw
                  subst hw
                  have hP : va_P (dC, dI) classes [(mo, .inr (13, MF 30 (nf v (penL s0 (upL q (fun i9 => T.un (st + i9)) j ++ [92] ++ [u9])).1 (penL s0 (upL q (fun i9 => T.un (st + i9)) j ++ [92] ++ [u9])).2.1))), (qo, .inl (cB, 16392, .inl (penL s0 (upL q (fun i9 => T.un (st + i9)) j ++ [92] ++ [u9])).2.2)), (t, .inr (12, MF 13 (tw T))), (T.au, .inl (cC, T.U, .inl T.un))] H := hP
                  have hD : va_D A [(mo, .inr (13, MF 30 (nf v (penL s0 (upL q (fun i9 => T.un (st + i9)) j ++ [92] ++ [u9])).1 (penL s0 (upL q (fun i9 => T.un (st + i9)) j ++ [92] ++ [u9])).2.1))), (qo, .inl (cB, 16392, .inl (penL s0 (upL q (fun i9 => T.un (st + i9)) j ++ [92] ++ [u9])).2.2)), (t, .inr (12, MF 13 (tw T))), (T.au, .inl (cC, T.U, .inl T.un))] := hD
                  refine lv_goto (tgt := 199) hx hb d_Mo_units_110 (by decide) ?_
                  refine lv_iinc (v := nI (st + (j + 1))) (lv' := [(5, .int (nI (st + (j + 1)))), (7, .int (-1)), (6, .int u9), (0, .ref mo), (1, .ref t), (2, .int (nI st)), (3, .int (nI ln)), (4, .int q)]) hx hb d_Mo_units_199 hl (k := 7) rfl (nI_1 (st + j)) (by decide) rfl (fun ls hl => ?_)
                  refine lv_goto (tgt := 9) hx hb d_Mo_units_202 (by decide) ?_
                  have hek : escK u9 = (-1) := by unfold escK; rw [if_neg c30, if_neg c41, if_neg c52, if_neg c63, if_neg c74]
                  have hun : upL q (fun i9 => T.un (st + i9)) (j + 1) = upL q (fun i9 => T.un (st + i9)) j ++ [92] ++ [u9] := by
                    show upL q (fun i9 => T.un (st + i9)) j ++ unB q (T.un (st + j)) = _
                    rw [← hu9]
                    unfold unB
                    rw [if_pos (Or.inr c95)]
                    simp only [List.append_assoc, List.cons_append, List.nil_append]; first | done | rfl
                  rw [← hun] at hP hD
                  exact ih (j + 1) _ _ _ (by omega) (by show ln - (j + 1) < ln - j; omega) hP hD hS (lv_sub hl [3, 4, 5, 6, 7, 0] rfl)
            · refine lv_iconst (v := 4) hx hb d_Mo_units_77 (by decide) ?_
              refine lv_goto (tgt := 82) hx hb d_Mo_units_78 (by decide) ?_
              refine lv_istore (lv' := [(7, .int 4), (6, .int u9), (0, .ref mo), (1, .ref t), (2, .int (nI st)), (3, .int (nI ln)), (4, .int q), (5, .int (nI (st + j)))]) hx hb d_Mo_units_82 hl (by decide) rfl (fun ls hl => ?_)
              refine lv_iload hx hb d_Mo_units_84 (lv_at hl 1 rfl) ?_
              refine lv_iload hx hb d_Mo_units_86 (lv_at hl 6 rfl) ?_
              refine lv_icmp_eq (tgt := 98) hx hb d_Mo_units_88 (by decide) (fun c88 => ?_) (fun c88 => ?_)
              · refine lv_aload_n hx hb d_Mo_units_98 rfl (lv_at hl 2 rfl) ?_
                refine lv_bipush (v := 92) hx hb d_Mo_units_99 (by decide) ?_
                have hPc := hP.sub (ws' := [(mo, .inr (13, MF 30 (nf v (penL s0 (upL q (fun i9 => T.un (st + i9)) j)).1 (penL s0 (upL q (fun i9 => T.un (st + i9)) j)).2.1))), (qo, .inl (cB, 16392, .inl (penL s0 (upL q (fun i9 => T.un (st + i9)) j)).2.2))]) [0, 1] rfl
                have hDc := hD.sub (ws' := [(mo, .inr (13, MF 30 (nf v (penL s0 (upL q (fun i9 => T.un (st + i9)) j)).1 (penL s0 (upL q (fun i9 => T.un (st + i9)) j)).2.1))), (qo, .inl (cB, 16392, .inl (penL s0 (upL q (fun i9 => T.un (st + i9)) j)).2.2))]) [0, 1] (by decide) rfl
                have hKc := hK.sub (tys' := [(cB, .byte)]) [0] rfl
                have hFc := va_free (wc := [(mo, .inr (13, MF 30 (nf v (penL s0 (upL q (fun i9 => T.un (st + i9)) j)).1 (penL s0 (upL q (fun i9 => T.un (st + i9)) j)).2.1))), (qo, .inl (cB, 16392, .inl (penL s0 (upL q (fun i9 => T.un (st + i9)) j)).2.2))]) hD hS hA [0, 1] rfl
                refine va_callv (va_runV (As := [.int 92]) (rest := []) ⟨hx, hb, hml, hown, hts⟩ (c_Mo_pen l dC dI mo H v cB qo (penL s0 (upL q (fun i9 => T.un (st + i9)) j)) 92 (penL_le hk0 _) h10) (cwV 1 hts (gt_V (own := R_Mo) (C := R_Mo) (i := 239) (y := y_Mo_write) i_Mo_write w_1374 w_1376 (gt_sel (y := y_Mo_write) (n := 30) (by decide +kernel)) w_7) rfl rfl rfl (by decide +kernel) ⟨Nat.le_of_ble_eq_true rfl, Nat.le_of_ble_eq_true rfl⟩) ⟨mp_blind, va_recv hKc hPc (ci := 13) (q0 := 0) rfl rfl, fun U hU hW => ⟨rfl, hU, by rw [hU]; exact hPc, va_K.moved hW.alike hKc, hDc.weaken (fun _ _ _ _ => trivial)⟩⟩ rfl rfl hl.1 rfl (lv_room (Nat.le_of_ble_eq_true rfl)) d_Mo_units_101 ⟨Nat.le_of_ble_eq_true rfl, Nat.le_of_ble_eq_true rfl⟩) hS (fun q _ h => hFc q h) hFc (fun u2 t9 H1 locs ht hvm hw hB hz1 hk1 hS => ?_)
                obtain ⟨hP1, hK1, hD1⟩ := hB
                rw [ht] at hP1
                obtain ⟨hP, hD⟩ := va_join (wr := [(t, .inr (12, MF 13 (tw T))), (T.au, .inl (cC, T.U, .inl T.un))]) (w1 := [(mo, .inr (13, MF 30 (nf v u2.1 u2.2.1))), (qo, .inl (cB, 16392, .inl u2.2.2))]) hP hD [0, 1] [2, 3] rfl rfl (by decide) (by decide) hk1 hFc hP1 hD1
                generalize H1 = H at hP hS ⊢
                have hP : va_P (dC, dI) classes [(t, .inr (12, MF 13 (tw T))), (T.au, .inl (cC, T.U, .inl T.un)), (mo, .inr (13, MF 30 (nf v u2.1 u2.2.1))), (qo, .inl (cB, 16392, .inl u2.2.2))] H := hP
                have hD : va_D A [(t, .inr (12, MF 13 (tw T))), (T.au, .inl (cC, T.U, .inl T.un)), (mo, .inr (13, MF 30 (nf v u2.1 u2.2.1))), (qo, .inl (cB, 16392, .inl u2.2.2))] := hD
                have hP := hP.sub (ws' := [(mo, .inr (13, MF 30 (nf v u2.1 u2.2.1))), (qo, .inl (cB, 16392, .inl u2.2.2)), (t, .inr (12, MF 13 (tw T))), (T.au, .inl (cC, T.U, .inl T.un))]) [2, 3, 0, 1] rfl
                have hD := hD.sub (ws' := [(mo, .inr (13, MF 30 (nf v u2.1 u2.2.1))), (qo, .inl (cB, 16392, .inl u2.2.2)), (t, .inr (12, MF 13 (tw T))), (T.au, .inl (cC, T.U, .inl T.un))]) [2, 3, 0, 1] (by decide) rfl
                have hw : u2 = pen1 (penL s0 (upL q (fun i9 => T.un (st + i9)) j)) 92 := hw
                rw [penL_snoc] at hw
                subst hw
                have hP : va_P (dC, dI) classes [(mo, .inr (13, MF 30 (nf v (penL s0 (upL q (fun i9 => T.un (st + i9)) j ++ [92])).1 (penL s0 (upL q (fun i9 => T.un (st + i9)) j ++ [92])).2.1))), (qo, .inl (cB, 16392, .inl (penL s0 (upL q (fun i9 => T.un (st + i9)) j ++ [92])).2.2)), (t, .inr (12, MF 13 (tw T))), (T.au, .inl (cC, T.U, .inl T.un))] H := hP
                have hD : va_D A [(mo, .inr (13, MF 30 (nf v (penL s0 (upL q (fun i9 => T.un (st + i9)) j ++ [92])).1 (penL s0 (upL q (fun i9 => T.un (st + i9)) j ++ [92])).2.1))), (qo, .inl (cB, 16392, .inl (penL s0 (upL q (fun i9 => T.un (st + i9)) j ++ [92])).2.2)), (t, .inr (12, MF 13 (tw T))), (T.au, .inl (cC, T.U, .inl T.un))] := hD
                refine lv_aload_n hx hb d_Mo_units_104 rfl (lv_at hl 2 rfl) ?_
                refine lv_iload hx hb d_Mo_units_105 (lv_at hl 1 rfl) ?_
                have hPc := hP.sub (ws' := [(mo, .inr (13, MF 30 (nf v (penL s0 (upL q (fun i9 => T.un (st + i9)) j ++ [92])).1 (penL s0 (upL q (fun i9 => T.un (st + i9)) j ++ [92])).2.1))), (qo, .inl (cB, 16392, .inl (penL s0 (upL q (fun i9 => T.un (st + i9)) j ++ [92])).2.2))]) [0, 1] rfl
                have hDc := hD.sub (ws' := [(mo, .inr (13, MF 30 (nf v (penL s0 (upL q (fun i9 => T.un (st + i9)) j ++ [92])).1 (penL s0 (upL q (fun i9 => T.un (st + i9)) j ++ [92])).2.1))), (qo, .inl (cB, 16392, .inl (penL s0 (upL q (fun i9 => T.un (st + i9)) j ++ [92])).2.2))]) [0, 1] (by decide) rfl
                have hKc := hK.sub (tys' := [(cB, .byte)]) [0] rfl
                have hFc := va_free (wc := [(mo, .inr (13, MF 30 (nf v (penL s0 (upL q (fun i9 => T.un (st + i9)) j ++ [92])).1 (penL s0 (upL q (fun i9 => T.un (st + i9)) j ++ [92])).2.1))), (qo, .inl (cB, 16392, .inl (penL s0 (upL q (fun i9 => T.un (st + i9)) j ++ [92])).2.2))]) hD hS hA [0, 1] rfl
                refine va_callv (va_runV (As := [.int u9]) (rest := []) ⟨hx, hb, hml, hown, hts⟩ (c_Mo_pen l dC dI mo H v cB qo (penL s0 (upL q (fun i9 => T.un (st + i9)) j ++ [92])) u9 (penL_le hk0 _) h10) (cwV 1 hts (gt_V (own := R_Mo) (C := R_Mo) (i := 239) (y := y_Mo_write) i_Mo_write w_1374 w_1376 (gt_sel (y := y_Mo_write) (n := 30) (by decide +kernel)) w_7) rfl rfl rfl (by decide +kernel) ⟨Nat.le_of_ble_eq_true rfl, Nat.le_of_ble_eq_true rfl⟩) ⟨mp_blind, va_recv hKc hPc (ci := 13) (q0 := 0) rfl rfl, fun U hU hW => ⟨rfl, hU, by rw [hU]; exact hPc, va_K.moved hW.alike hKc, hDc.weaken (fun _ _ _ _ => trivial)⟩⟩ rfl rfl hl.1 rfl (lv_room (Nat.le_of_ble_eq_true rfl)) d_Mo_units_107 ⟨Nat.le_of_ble_eq_true rfl, Nat.le_of_ble_eq_true rfl⟩) hS (fun q _ h => hFc q h) hFc (fun u2 t9 H1 locs ht hvm hw hB hz1 hk1 hS => ?_)
                obtain ⟨hP1, hK1, hD1⟩ := hB
                rw [ht] at hP1
                obtain ⟨hP, hD⟩ := va_join (wr := [(t, .inr (12, MF 13 (tw T))), (T.au, .inl (cC, T.U, .inl T.un))]) (w1 := [(mo, .inr (13, MF 30 (nf v u2.1 u2.2.1))), (qo, .inl (cB, 16392, .inl u2.2.2))]) hP hD [0, 1] [2, 3] rfl rfl (by decide) (by decide) hk1 hFc hP1 hD1
                generalize H1 = H at hP hS ⊢
                have hP : va_P (dC, dI) classes [(t, .inr (12, MF 13 (tw T))), (T.au, .inl (cC, T.U, .inl T.un)), (mo, .inr (13, MF 30 (nf v u2.1 u2.2.1))), (qo, .inl (cB, 16392, .inl u2.2.2))] H := hP
                have hD : va_D A [(t, .inr (12, MF 13 (tw T))), (T.au, .inl (cC, T.U, .inl T.un)), (mo, .inr (13, MF 30 (nf v u2.1 u2.2.1))), (qo, .inl (cB, 16392, .inl u2.2.2))] := hD
                have hP := hP.sub (ws' := [(mo, .inr (13, MF 30 (nf v u2.1 u2.2.1))), (qo, .inl (cB, 16392, .inl u2.2.2)), (t, .inr (12, MF 13 (tw T))), (T.au, .inl (cC, T.U, .inl T.un))]) [2, 3, 0, 1] rfl
                have hD := hD.sub (ws' := [(mo, .inr (13, MF 30 (nf v u2.1 u2.2.1))), (qo, .inl (cB, 16392, .inl u2.2.2)), (t, .inr (12, MF 13 (tw T))), (T.au, .inl (cC, T.U, .inl T.un))]) [2, 3, 0, 1] (by decide) rfl
                have hw : u2 = pen1 (penL s0 (upL q (fun i9 => T.un (st + i9)) j ++ [92])) u9 := hw
                rw [penL_snoc] at hw
                subst hw
                have hP : va_P (dC, dI) classes [(mo, .inr (13, MF 30 (nf v (penL s0 (upL q (fun i9 => T.un (st + i9)) j ++ [92] ++ [u9])).1 (penL s0 (upL q (fun i9 => T.un (st + i9)) j ++ [92] ++ [u9])).2.1))), (qo, .inl (cB, 16392, .inl (penL s0 (upL q (fun i9 => T.un (st + i9)) j ++ [92] ++ [u9])).2.2)), (t, .inr (12, MF 13 (tw T))), (T.au, .inl (cC, T.U, .inl T.un))] H := hP
                have hD : va_D A [(mo, .inr (13, MF 30 (nf v (penL s0 (upL q (fun i9 => T.un (st + i9)) j ++ [92] ++ [u9])).1 (penL s0 (upL q (fun i9 => T.un (st + i9)) j ++ [92] ++ [u9])).2.1))), (qo, .inl (cB, 16392, .inl (penL s0 (upL q (fun i9 => T.un (st + i9)) j ++ [92] ++ [u9])).2.2)), (t, .inr (12, MF 13 (tw T))), (T.au, .inl (cC, T.U, .inl T.un))] := hD
                refine lv_goto (tgt := 199) hx hb d_Mo_units_110 (by decide) ?_
                refine lv_iinc (v := nI (st + (j + 1))) (lv' := [(5, .int (nI (st + (j + 1)))), (7, .int 4), (6, .int u9), (0, .ref mo), (1, .ref t), (2, .int (nI st)), (3, .int (nI ln)), (4, .int q)]) hx hb d_Mo_units_199 hl (k := 7) rfl (nI_1 (st + j)) (by decide) rfl (fun ls hl => ?_)
                refine lv_goto (tgt := 9) hx hb d_Mo_units_202 (by decide) ?_
                have hek : escK u9 = 4 := by unfold escK; rw [if_neg c30, if_neg c41, if_neg c52, if_neg c63, if_pos c74]
                have hun : upL q (fun i9 => T.un (st + i9)) (j + 1) = upL q (fun i9 => T.un (st + i9)) j ++ [92] ++ [u9] := by
                  show upL q (fun i9 => T.un (st + i9)) j ++ unB q (T.un (st + j)) = _
                  rw [← hu9]
                  unfold unB
                  rw [if_pos (Or.inl c88)]
                  simp only [List.append_assoc, List.cons_append, List.nil_append]; first | done | rfl
                rw [← hun] at hP hD
                exact ih (j + 1) _ _ _ (by omega) (by show ln - (j + 1) < ln - j; omega) hP hD hS (lv_sub hl [3, 4, 5, 6, 7, 0] rfl)
              · refine lv_iload hx hb d_Mo_units_91 (lv_at hl 1 rfl) ?_
                refine lv_bipush (v := 92) hx hb d_Mo_units_93 (by decide) ?_
                refine lv_icmp_ne (tgt := 113) hx hb d_Mo_units_95 (by decide) (fun c95 => ?_) (fun c95 => ?_)
                · refine lv_iload hx hb d_Mo_units_113 (lv_at hl 0 rfl) ?_
                  refine lv_if_lt (tgt := 138) hx hb d_Mo_units_115 (by decide) (fun h => absurd h (by decide)) (fun _ => ?_)
                  refine lv_aload_n hx hb d_Mo_units_118 rfl (lv_at hl 2 rfl) ?_
                  refine lv_bipush (v := 92) hx hb d_Mo_units_119 (by decide) ?_
                  have hPc := hP.sub (ws' := [(mo, .inr (13, MF 30 (nf v (penL s0 (upL q (fun i9 => T.un (st + i9)) j)).1 (penL s0 (upL q (fun i9 => T.un (st + i9)) j)).2.1))), (qo, .inl (cB, 16392, .inl (penL s0 (upL q (fun i9 => T.un (st + i9)) j)).2.2))]) [0, 1] rfl
                  have hDc := hD.sub (ws' := [(mo, .inr (13, MF 30 (nf v (penL s0 (upL q (fun i9 => T.un (st + i9)) j)).1 (penL s0 (upL q (fun i9 => T.un (st + i9)) j)).2.1))), (qo, .inl (cB, 16392, .inl (penL s0 (upL q (fun i9 => T.un (st + i9)) j)).2.2))]) [0, 1] (by decide) rfl
                  have hKc := hK.sub (tys' := [(cB, .byte)]) [0] rfl
                  have hFc := va_free (wc := [(mo, .inr (13, MF 30 (nf v (penL s0 (upL q (fun i9 => T.un (st + i9)) j)).1 (penL s0 (upL q (fun i9 => T.un (st + i9)) j)).2.1))), (qo, .inl (cB, 16392, .inl (penL s0 (upL q (fun i9 => T.un (st + i9)) j)).2.2))]) hD hS hA [0, 1] rfl
                  refine va_callv (va_runV (As := [.int 92]) (rest := []) ⟨hx, hb, hml, hown, hts⟩ (c_Mo_pen l dC dI mo H v cB qo (penL s0 (upL q (fun i9 => T.un (st + i9)) j)) 92 (penL_le hk0 _) h10) (cwV 1 hts (gt_V (own := R_Mo) (C := R_Mo) (i := 239) (y := y_Mo_write) i_Mo_write w_1374 w_1376 (gt_sel (y := y_Mo_write) (n := 30) (by decide +kernel)) w_7) rfl rfl rfl (by decide +kernel) ⟨Nat.le_of_ble_eq_true rfl, Nat.le_of_ble_eq_true rfl⟩) ⟨mp_blind, va_recv hKc hPc (ci := 13) (q0 := 0) rfl rfl, fun U hU hW => ⟨rfl, hU, by rw [hU]; exact hPc, va_K.moved hW.alike hKc, hDc.weaken (fun _ _ _ _ => trivial)⟩⟩ rfl rfl hl.1 rfl (lv_room (Nat.le_of_ble_eq_true rfl)) d_Mo_units_121 ⟨Nat.le_of_ble_eq_true rfl, Nat.le_of_ble_eq_true rfl⟩) hS (fun q _ h => hFc q h) hFc (fun u2 t9 H1 locs ht hvm hw hB hz1 hk1 hS => ?_)
                  obtain ⟨hP1, hK1, hD1⟩ := hB
                  rw [ht] at hP1
                  obtain ⟨hP, hD⟩ := va_join (wr := [(t, .inr (12, MF 13 (tw T))), (T.au, .inl (cC, T.U, .inl T.un))]) (w1 := [(mo, .inr (13, MF 30 (nf v u2.1 u2.2.1))), (qo, .inl (cB, 16392, .inl u2.2.2))]) hP hD [0, 1] [2, 3] rfl rfl (by decide) (by decide) hk1 hFc hP1 hD1
                  generalize H1 = H at hP hS ⊢
                  have hP : va_P (dC, dI) classes [(t, .inr (12, MF 13 (tw T))), (T.au, .inl (cC, T.U, .inl T.un)), (mo, .inr (13, MF 30 (nf v u2.1 u2.2.1))), (qo, .inl (cB, 16392, .inl u2.2.2))] H := hP
                  have hD : va_D A [(t, .inr (12, MF 13 (tw T))), (T.au, .inl (cC, T.U, .inl T.un)), (mo, .inr (13, MF 30 (nf v u2.1 u2.2.1))), (qo, .inl (cB, 16392, .inl u2.2.2))] := hD
                  have hP := hP.sub (ws' := [(mo, .inr (13, MF 30 (nf v u2.1 u2.2.1))), (qo, .inl (cB, 16392, .inl u2.2.2)), (t, .inr (12, MF 13 (tw T))), (T.au, .inl (cC, T.U, .inl T.un))]) [2, 3, 0, 1] rfl
                  have hD := hD.sub (ws' := [(mo, .inr (13, MF 30 (nf v u2.1 u2.2.1))), (qo, .inl (cB, 16392, .inl u2.2.2)), (t, .inr (12, MF 13 (tw T))), (T.au, .inl (cC, T.U, .inl T.un))]) [2, 3, 0, 1] (by decide) rfl
                  have hw : u2 = pen1 (penL s0 (upL q (fun i9 => T.un (st + i9)) j)) 92 := hw
                  rw [penL_snoc] at hw
                  subst hw
                  have hP : va_P (dC, dI) classes [(mo, .inr (13, MF 30 (nf v (penL s0 (upL q (fun i9 => T.un (st + i9)) j ++ [92])).1 (penL s0 (upL q (fun i9 => T.un (st + i9)) j ++ [92])).2.1))), (qo, .inl (cB, 16392, .inl (penL s0 (upL q (fun i9 => T.un (st + i9)) j ++ [92])).2.2)), (t, .inr (12, MF 13 (tw T))), (T.au, .inl (cC, T.U, .inl T.un))] H := hP
                  have hD : va_D A [(mo, .inr (13, MF 30 (nf v (penL s0 (upL q (fun i9 => T.un (st + i9)) j ++ [92])).1 (penL s0 (upL q (fun i9 => T.un (st + i9)) j ++ [92])).2.1))), (qo, .inl (cB, 16392, .inl (penL s0 (upL q (fun i9 => T.un (st + i9)) j ++ [92])).2.2)), (t, .inr (12, MF 13 (tw T))), (T.au, .inl (cC, T.U, .inl T.un))] := hD
                  refine lv_aload_n hx hb d_Mo_units_124 rfl (lv_at hl 2 rfl) ?_
                  refine va_ldcS hx hb hown (hM 4 _ rfl).2 d_Mo_units_125 ?_
                  refine lv_iload hx hb d_Mo_units_127 (lv_at hl 0 rfl) ?_
                  refine W.eq (g2 := F0 m 129 ls [.int (nI 4), .ref (K 4).1, .ref mo]) (by rw [show 4 = (nI 4) from (by decide)]) ?_
                  have hE := (hM 4 _ rfl).1
                  have hPc := hP.sub (ws' := []) [] rfl
                  have hDc := hD.sub (ws' := []) [] (by decide) rfl
                  have hKc := hK.sub (tys' := []) [] rfl
                  have hFc := va_free (wc := []) hD hS hA [] rfl
                  refine va_calli (va_runV (As := [.int (nI 4)]) (rest := [.ref mo]) ⟨hx, hb, hml, hown, hts⟩ (c_Str_charAt l dC dI H (K 4).1 (K 4).2 5 (mtx 4) 4 (by decide) (by decide)) (cwV 1 hts (gt_V (own := R_Mo) (C := R_Str) (i := 159) (y := y_Str_charAt) i_Str_charAt w_1245 w_466 w_467 w_18) rfl rfl rfl (by decide +kernel) ⟨Nat.le_of_ble_eq_true rfl, Nat.le_of_ble_eq_true rfl⟩) ⟨mstr_blind, (by obtain ⟨cell, h1, h2, h3, -⟩ := va_O.kept hE.1 hS.2.1; exact ⟨cell, h1, h2, h3⟩), fun U hU hW => ⟨rfl, ⟨hU, by rw [hU]; exact hPc, va_K.moved hW.alike hKc, hDc.weaken (fun _ _ _ _ => trivial)⟩, by rw [hU]; exact SX.moved' hW.alike (SX.narrow' (SX.kept' hE hS.2.1) hFc)⟩⟩ rfl rfl hl.1 rfl (lv_room (Nat.le_of_ble_eq_true rfl)) d_Mo_units_129 ⟨Nat.le_of_ble_eq_true rfl, Nat.le_of_ble_eq_true rfl⟩) hS (fun q _ h => hFc q h) hFc (fun r0 _u t9 H1 locs ht hvm hw hB hz1 hk1 hS => ?_)
                  obtain ⟨hP1, hK1, hD1⟩ := hB
                  rw [ht] at hP1
                  obtain ⟨hP, hD⟩ := va_join (wr := [(mo, .inr (13, MF 30 (nf v (penL s0 (upL q (fun i9 => T.un (st + i9)) j ++ [92])).1 (penL s0 (upL q (fun i9 => T.un (st + i9)) j ++ [92])).2.1))), (qo, .inl (cB, 16392, .inl (penL s0 (upL q (fun i9 => T.un (st + i9)) j ++ [92])).2.2)), (t, .inr (12, MF 13 (tw T))), (T.au, .inl (cC, T.U, .inl T.un))]) (w1 := []) hP hD [] [0, 1, 2, 3] rfl rfl (by decide) (by decide) hk1 hFc hP1 hD1
                  generalize H1 = H at hP hS ⊢
                  have hP : va_P (dC, dI) classes [(mo, .inr (13, MF 30 (nf v (penL s0 (upL q (fun i9 => T.un (st + i9)) j ++ [92])).1 (penL s0 (upL q (fun i9 => T.un (st + i9)) j ++ [92])).2.1))), (qo, .inl (cB, 16392, .inl (penL s0 (upL q (fun i9 => T.un (st + i9)) j ++ [92])).2.2)), (t, .inr (12, MF 13 (tw T))), (T.au, .inl (cC, T.U, .inl T.un))] H := hP
                  have hD : va_D A [(mo, .inr (13, MF 30 (nf v (penL s0 (upL q (fun i9 => T.un (st + i9)) j ++ [92])).1 (penL s0 (upL q (fun i9 => T.un (st + i9)) j ++ [92])).2.1))), (qo, .inl (cB, 16392, .inl (penL s0 (upL q (fun i9 => T.un (st + i9)) j ++ [92])).2.2)), (t, .inr (12, MF 13 (tw T))), (T.au, .inl (cC, T.U, .inl T.un))] := hD
                  have hw : r0 = (mtx 4) 4 &&& 255 := hw
                  subst hw
                  have hPc := hP.sub (ws' := [(mo, .inr (13, MF 30 (nf v (penL s0 (upL q (fun i9 => T.un (st + i9)) j ++ [92])).1 (penL s0 (upL q (fun i9 => T.un (st + i9)) j ++ [92])).2.1))), (qo, .inl (cB, 16392, .inl (penL s0 (upL q (fun i9 => T.un (st + i9)) j ++ [92])).2.2))]) [0, 1] rfl
                  have hDc := hD.sub (ws' := [(mo, .inr (13, MF 30 (nf v (penL s0 (upL q (fun i9 => T.un (st + i9)) j ++ [92])).1 (penL s0 (upL q (fun i9 => T.un (st + i9)) j ++ [92])).2.1))), (qo, .inl (cB, 16392, .inl (penL s0 (upL q (fun i9 => T.un (st + i9)) j ++ [92])).2.2))]) [0, 1] (by decide) rfl
                  have hKc := hK.sub (tys' := [(cB, .byte)]) [0] rfl
                  have hFc := va_free (wc := [(mo, .inr (13, MF 30 (nf v (penL s0 (upL q (fun i9 => T.un (st + i9)) j ++ [92])).1 (penL s0 (upL q (fun i9 => T.un (st + i9)) j ++ [92])).2.1))), (qo, .inl (cB, 16392, .inl (penL s0 (upL q (fun i9 => T.un (st + i9)) j ++ [92])).2.2))]) hD hS hA [0, 1] rfl
                  refine va_callv (va_runV (As := [.int ((mtx 4) 4 &&& 255)]) (rest := []) ⟨hx, hb, hml, hown, hts⟩ (c_Mo_pen l dC dI mo H v cB qo (penL s0 (upL q (fun i9 => T.un (st + i9)) j ++ [92])) (((mtx 4) 4 &&& 255)) (penL_le hk0 _) h10) (cwV 1 hts (gt_V (own := R_Mo) (C := R_Mo) (i := 239) (y := y_Mo_write) i_Mo_write w_1374 w_1376 (gt_sel (y := y_Mo_write) (n := 30) (by decide +kernel)) w_7) rfl rfl rfl (by decide +kernel) ⟨Nat.le_of_ble_eq_true rfl, Nat.le_of_ble_eq_true rfl⟩) ⟨mp_blind, va_recv hKc hPc (ci := 13) (q0 := 0) rfl rfl, fun U hU hW => ⟨rfl, hU, by rw [hU]; exact hPc, va_K.moved hW.alike hKc, hDc.weaken (fun _ _ _ _ => trivial)⟩⟩ rfl rfl hl.1 rfl (lv_room (Nat.le_of_ble_eq_true rfl)) d_Mo_units_132 ⟨Nat.le_of_ble_eq_true rfl, Nat.le_of_ble_eq_true rfl⟩) hS (fun q _ h => hFc q h) hFc (fun u2 t9 H1 locs ht hvm hw hB hz1 hk1 hS => ?_)
                  obtain ⟨hP1, hK1, hD1⟩ := hB
                  rw [ht] at hP1
                  obtain ⟨hP, hD⟩ := va_join (wr := [(t, .inr (12, MF 13 (tw T))), (T.au, .inl (cC, T.U, .inl T.un))]) (w1 := [(mo, .inr (13, MF 30 (nf v u2.1 u2.2.1))), (qo, .inl (cB, 16392, .inl u2.2.2))]) hP hD [0, 1] [2, 3] rfl rfl (by decide) (by decide) hk1 hFc hP1 hD1
                  generalize H1 = H at hP hS ⊢
                  have hP : va_P (dC, dI) classes [(t, .inr (12, MF 13 (tw T))), (T.au, .inl (cC, T.U, .inl T.un)), (mo, .inr (13, MF 30 (nf v u2.1 u2.2.1))), (qo, .inl (cB, 16392, .inl u2.2.2))] H := hP
                  have hD : va_D A [(t, .inr (12, MF 13 (tw T))), (T.au, .inl (cC, T.U, .inl T.un)), (mo, .inr (13, MF 30 (nf v u2.1 u2.2.1))), (qo, .inl (cB, 16392, .inl u2.2.2))] := hD
                  have hP := hP.sub (ws' := [(mo, .inr (13, MF 30 (nf v u2.1 u2.2.1))), (qo, .inl (cB, 16392, .inl u2.2.2)), (t, .inr (12, MF 13 (tw T))), (T.au, .inl (cC, T.U, .inl T.un))]) [2, 3, 0, 1] rfl
                  have hD := hD.sub (ws' := [(mo, .inr (13, MF 30 (nf v u2.1 u2.2.1))), (qo, .inl (cB, 16392, .inl u2.2.2)), (t, .inr (12, MF 13 (tw T))), (T.au, .inl (cC, T.U, .inl T.un))]) [2, 3, 0, 1] (by decide) rfl
                  have hw : u2 = pen1 (penL s0 (upL q (fun i9 => T.un (st + i9)) j ++ [92])) (((mtx 4) 4 &&& 255)) := hw
                  rw [penL_snoc] at hw
                  subst hw
                  have hP : va_P (dC, dI) classes [(mo, .inr (13, MF 30 (nf v (penL s0 (upL q (fun i9 => T.un (st + i9)) j ++ [92] ++ [((mtx 4) 4 &&& 255)])).1 (penL s0 (upL q (fun i9 => T.un (st + i9)) j ++ [92] ++ [((mtx 4) 4 &&& 255)])).2.1))), (qo, .inl (cB, 16392, .inl (penL s0 (upL q (fun i9 => T.un (st + i9)) j ++ [92] ++ [((mtx 4) 4 &&& 255)])).2.2)), (t, .inr (12, MF 13 (tw T))), (T.au, .inl (cC, T.U, .inl T.un))] H := hP
                  have hD : va_D A [(mo, .inr (13, MF 30 (nf v (penL s0 (upL q (fun i9 => T.un (st + i9)) j ++ [92] ++ [((mtx 4) 4 &&& 255)])).1 (penL s0 (upL q (fun i9 => T.un (st + i9)) j ++ [92] ++ [((mtx 4) 4 &&& 255)])).2.1))), (qo, .inl (cB, 16392, .inl (penL s0 (upL q (fun i9 => T.un (st + i9)) j ++ [92] ++ [((mtx 4) 4 &&& 255)])).2.2)), (t, .inr (12, MF 13 (tw T))), (T.au, .inl (cC, T.U, .inl T.un))] := hD
                  refine lv_goto (tgt := 199) hx hb d_Mo_units_135 (by decide) ?_
                  refine lv_iinc (v := nI (st + (j + 1))) (lv' := [(5, .int (nI (st + (j + 1)))), (7, .int 4), (6, .int u9), (0, .ref mo), (1, .ref t), (2, .int (nI st)), (3, .int (nI ln)), (4, .int q)]) hx hb d_Mo_units_199 hl (k := 7) rfl (nI_1 (st + j)) (by decide) rfl (fun ls hl => ?_)
                  refine lv_goto (tgt := 9) hx hb d_Mo_units_202 (by decide) ?_
                  have hek : escK u9 = 4 := by unfold escK; rw [if_neg c30, if_neg c41, if_neg c52, if_neg c63, if_pos c74]
                  have hun : upL q (fun i9 => T.un (st + i9)) (j + 1) = upL q (fun i9 => T.un (st + i9)) j ++ [92] ++ [((mtx 4) 4 &&& 255)] := by
                    show upL q (fun i9 => T.un (st + i9)) j ++ unB q (T.un (st + j)) = _
                    rw [← hu9]
                    unfold unB
                    rw [if_neg (fun h => h.elim c88 c95), hek, if_pos (by decide)]
                    simp only [List.append_assoc, List.cons_append, List.nil_append]; first | done | rfl
                  rw [← hun] at hP hD
                  exact ih (j + 1) _ _ _ (by omega) (by show ln - (j + 1) < ln - j; omega) hP hD hS (lv_sub hl [3, 4, 5, 6, 7, 0] rfl)
                · refine lv_aload_n hx hb d_Mo_units_98 rfl (lv_at hl 2 rfl) ?_
                  refine lv_bipush (v := 92) hx hb d_Mo_units_99 (by decide) ?_
                  have hPc := hP.sub (ws' := [(mo, .inr (13, MF 30 (nf v (penL s0 (upL q (fun i9 => T.un (st + i9)) j)).1 (penL s0 (upL q (fun i9 => T.un (st + i9)) j)).2.1))), (qo, .inl (cB, 16392, .inl (penL s0 (upL q (fun i9 => T.un (st + i9)) j)).2.2))]) [0, 1] rfl
                  have hDc := hD.sub (ws' := [(mo, .inr (13, MF 30 (nf v (penL s0 (upL q (fun i9 => T.un (st + i9)) j)).1 (penL s0 (upL q (fun i9 => T.un (st + i9)) j)).2.1))), (qo, .inl (cB, 16392, .inl (penL s0 (upL q (fun i9 => T.un (st + i9)) j)).2.2))]) [0, 1] (by decide) rfl
                  have hKc := hK.sub (tys' := [(cB, .byte)]) [0] rfl
                  have hFc := va_free (wc := [(mo, .inr (13, MF 30 (nf v (penL s0 (upL q (fun i9 => T.un (st + i9)) j)).1 (penL s0 (upL q (fun i9 => T.un (st + i9)) j)).2.1))), (qo, .inl (cB, 16392, .inl (penL s0 (upL q (fun i9 => T.un (st + i9)) j)).2.2))]) hD hS hA [0, 1] rfl
                  refine va_callv (va_runV (As := [.int 92]) (rest := []) ⟨hx, hb, hml, hown, hts⟩ (c_Mo_pen l dC dI mo H v cB qo (penL s0 (upL q (fun i9 => T.un (st + i9)) j)) 92 (penL_le hk0 _) h10) (cwV 1 hts (gt_V (own := R_Mo) (C := R_Mo) (i := 239) (y := y_Mo_write) i_Mo_write w_1374 w_1376 (gt_sel (y := y_Mo_write) (n := 30) (by decide +kernel)) w_7) rfl rfl rfl (by decide +kernel) ⟨Nat.le_of_ble_eq_true rfl, Nat.le_of_ble_eq_true rfl⟩) ⟨mp_blind, va_recv hKc hPc (ci := 13) (q0 := 0) rfl rfl, fun U hU hW => ⟨rfl, hU, by rw [hU]; exact hPc, va_K.moved hW.alike hKc, hDc.weaken (fun _ _ _ _ => trivial)⟩⟩ rfl rfl hl.1 rfl (lv_room (Nat.le_of_ble_eq_true rfl)) d_Mo_units_101 ⟨Nat.le_of_ble_eq_true rfl, Nat.le_of_ble_eq_true rfl⟩) hS (fun q _ h => hFc q h) hFc (fun u2 t9 H1 locs ht hvm hw hB hz1 hk1 hS => ?_)
                  obtain ⟨hP1, hK1, hD1⟩ := hB
                  rw [ht] at hP1
                  obtain ⟨hP, hD⟩ := va_join (wr := [(t, .inr (12, MF 13 (tw T))), (T.au, .inl (cC, T.U, .inl T.un))]) (w1 := [(mo, .inr (13, MF 30 (nf v u2.1 u2.2.1))), (qo, .inl (cB, 16392, .inl u2.2.2))]) hP hD [0, 1] [2, 3] rfl rfl (by decide) (by decide) hk1 hFc hP1 hD1
                  generalize H1 = H at hP hS ⊢
                  have hP : va_P (dC, dI) classes [(t, .inr (12, MF 13 (tw T))), (T.au, .inl (cC, T.U, .inl T.un)), (mo, .inr (13, MF 30 (nf v u2.1 u2.2.1))), (qo, .inl (cB, 16392, .inl u2.2.2))] H := hP
                  have hD : va_D A [(t, .inr (12, MF 13 (tw T))), (T.au, .inl (cC, T.U, .inl T.un)), (mo, .inr (13, MF 30 (nf v u2.1 u2.2.1))), (qo, .inl (cB, 16392, .inl u2.2.2))] := hD
                  have hP := hP.sub (ws' := [(mo, .inr (13, MF 30 (nf v u2.1 u2.2.1))), (qo, .inl (cB, 16392, .inl u2.2.2)), (t, .inr (12, MF 13 (tw T))), (T.au, .inl (cC, T.U, .inl T.un))]) [2, 3, 0, 1] rfl
                  have hD := hD.sub (ws' := [(mo, .inr (13, MF 30 (nf v u2.1 u2.2.1))), (qo, .inl (cB, 16392, .inl u2.2.2)), (t, .inr (12, MF 13 (tw T))), (T.au, .inl (cC, T.U, .inl T.un))]) [2, 3, 0, 1] (by decide) rfl
                  have hw : u2 = pen1 (penL s0 (upL q (fun i9 => T.un (st + i9)) j)) 92 := hw
                  rw [penL_snoc] at hw
                  subst hw
                  have hP : va_P (dC, dI) classes [(mo, .inr (13, MF 30 (nf v (penL s0 (upL q (fun i9 => T.un (st + i9)) j ++ [92])).1 (penL s0 (upL q (fun i9 => T.un (st + i9)) j ++ [92])).2.1))), (qo, .inl (cB, 16392, .inl (penL s0 (upL q (fun i9 => T.un (st + i9)) j ++ [92])).2.2)), (t, .inr (12, MF 13 (tw T))), (T.au, .inl (cC, T.U, .inl T.un))] H := hP
                  have hD : va_D A [(mo, .inr (13, MF 30 (nf v (penL s0 (upL q (fun i9 => T.un (st + i9)) j ++ [92])).1 (penL s0 (upL q (fun i9 => T.un (st + i9)) j ++ [92])).2.1))), (qo, .inl (cB, 16392, .inl (penL s0 (upL q (fun i9 => T.un (st + i9)) j ++ [92])).2.2)), (t, .inr (12, MF 13 (tw T))), (T.au, .inl (cC, T.U, .inl T.un))] := hD
                  refine lv_aload_n hx hb d_Mo_units_104 rfl (lv_at hl 2 rfl) ?_
                  refine lv_iload hx hb d_Mo_units_105 (lv_at hl 1 rfl) ?_
                  have hPc := hP.sub (ws' := [(mo, .inr (13, MF 30 (nf v (penL s0 (upL q (fun i9 => T.un (st + i9)) j ++ [92])).1 (penL s0 (upL q (fun i9 => T.un (st + i9)) j ++ [92])).2.1))), (qo, .inl (cB, 16392, .inl (penL s0 (upL q (fun i9 => T.un (st + i9)) j ++ [92])).2.2))]) [0, 1] rfl
                  have hDc := hD.sub (ws' := [(mo, .inr (13, MF 30 (nf v (penL s0 (upL q (fun i9 => T.un (st + i9)) j ++ [92])).1 (penL s0 (upL q (fun i9 => T.un (st + i9)) j ++ [92])).2.1))), (qo, .inl (cB, 16392, .inl (penL s0 (upL q (fun i9 => T.un (st + i9)) j ++ [92])).2.2))]) [0, 1] (by decide) rfl
                  have hKc := hK.sub (tys' := [(cB, .byte)]) [0] rfl
                  have hFc := va_free (wc := [(mo, .inr (13, MF 30 (nf v (penL s0 (upL q (fun i9 => T.un (st + i9)) j ++ [92])).1 (penL s0 (upL q (fun i9 => T.un (st + i9)) j ++ [92])).2.1))), (qo, .inl (cB, 16392, .inl (penL s0 (upL q (fun i9 => T.un (st + i9)) j ++ [92])).2.2))]) hD hS hA [0, 1] rfl
                  refine va_callv (va_runV (As := [.int u9]) (rest := []) ⟨hx, hb, hml, hown, hts⟩ (c_Mo_pen l dC dI mo H v cB qo (penL s0 (upL q (fun i9 => T.un (st + i9)) j ++ [92])) u9 (penL_le hk0 _) h10) (cwV 1 hts (gt_V (own := R_Mo) (C := R_Mo) (i := 239) (y := y_Mo_write) i_Mo_write w_1374 w_1376 (gt_sel (y := y_Mo_write) (n := 30) (by decide +kernel)) w_7) rfl rfl rfl (by decide +kernel) ⟨Nat.le_of_ble_eq_true rfl, Nat.le_of_ble_eq_true rfl⟩) ⟨mp_blind, va_recv hKc hPc (ci := 13) (q0 := 0) rfl rfl, fun U hU hW => ⟨rfl, hU, by rw [hU]; exact hPc, va_K.moved hW.alike hKc, hDc.weaken (fun _ _ _ _ => trivial)⟩⟩ rfl rfl hl.1 rfl (lv_room (Nat.le_of_ble_eq_true rfl)) d_Mo_units_107 ⟨Nat.le_of_ble_eq_true rfl, Nat.le_of_ble_eq_true rfl⟩) hS (fun q _ h => hFc q h) hFc (fun u2 t9 H1 locs ht hvm hw hB hz1 hk1 hS => ?_)
                  obtain ⟨hP1, hK1, hD1⟩ := hB
                  rw [ht] at hP1
                  obtain ⟨hP, hD⟩ := va_join (wr := [(t, .inr (12, MF 13 (tw T))), (T.au, .inl (cC, T.U, .inl T.un))]) (w1 := [(mo, .inr (13, MF 30 (nf v u2.1 u2.2.1))), (qo, .inl (cB, 16392, .inl u2.2.2))]) hP hD [0, 1] [2, 3] rfl rfl (by decide) (by decide) hk1 hFc hP1 hD1
                  generalize H1 = H at hP hS ⊢
                  have hP : va_P (dC, dI) classes [(t, .inr (12, MF 13 (tw T))), (T.au, .inl (cC, T.U, .inl T.un)), (mo, .inr (13, MF 30 (nf v u2.1 u2.2.1))), (qo, .inl (cB, 16392, .inl u2.2.2))] H := hP
                  have hD : va_D A [(t, .inr (12, MF 13 (tw T))), (T.au, .inl (cC, T.U, .inl T.un)), (mo, .inr (13, MF 30 (nf v u2.1 u2.2.1))), (qo, .inl (cB, 16392, .inl u2.2.2))] := hD
                  have hP := hP.sub (ws' := [(mo, .inr (13, MF 30 (nf v u2.1 u2.2.1))), (qo, .inl (cB, 16392, .inl u2.2.2)), (t, .inr (12, MF 13 (tw T))), (T.au, .inl (cC, T.U, .inl T.un))]) [2, 3, 0, 1] rfl
                  have hD := hD.sub (ws' := [(mo, .inr (13, MF 30 (nf v u2.1 u2.2.1))), (qo, .inl (cB, 16392, .inl u2.2.2)), (t, .inr (12, MF 13 (tw T))), (T.au, .inl (cC, T.U, .inl T.un))]) [2, 3, 0, 1] (by decide) rfl
                  have hw : u2 = pen1 (penL s0 (upL q (fun i9 => T.un (st + i9)) j ++ [92])) u9 := hw
                  rw [penL_snoc] at hw
                  subst hw
                  have hP : va_P (dC, dI) classes [(mo, .inr (13, MF 30 (nf v (penL s0 (upL q (fun i9 => T.un (st + i9)) j ++ [92] ++ [u9])).1 (penL s0 (upL q (fun i9 => T.un (st + i9)) j ++ [92] ++ [u9])).2.1))), (qo, .inl (cB, 16392, .inl (penL s0 (upL q (fun i9 => T.un (st + i9)) j ++ [92] ++ [u9])).2.2)), (t, .inr (12, MF 13 (tw T))), (T.au, .inl (cC, T.U, .inl T.un))] H := hP
                  have hD : va_D A [(mo, .inr (13, MF 30 (nf v (penL s0 (upL q (fun i9 => T.un (st + i9)) j ++ [92] ++ [u9])).1 (penL s0 (upL q (fun i9 => T.un (st + i9)) j ++ [92] ++ [u9])).2.1))), (qo, .inl (cB, 16392, .inl (penL s0 (upL q (fun i9 => T.un (st + i9)) j ++ [92] ++ [u9])).2.2)), (t, .inr (12, MF 13 (tw T))), (T.au, .inl (cC, T.U, .inl T.un))] := hD
                  refine lv_goto (tgt := 199) hx hb d_Mo_units_110 (by decide) ?_
                  refine lv_iinc (v := nI (st + (j + 1))) (lv' := [(5, .int (nI (st + (j + 1)))), (7, .int 4), (6, .int u9), (0, .ref mo), (1, .ref t), (2, .int (nI st)), (3, .int (nI ln)), (4, .int q)]) hx hb d_Mo_units_199 hl (k := 7) rfl (nI_1 (st + j)) (by decide) rfl (fun ls hl => ?_)
                  refine lv_goto (tgt := 9) hx hb d_Mo_units_202 (by decide) ?_
                  have hek : escK u9 = 4 := by unfold escK; rw [if_neg c30, if_neg c41, if_neg c52, if_neg c63, if_pos c74]
                  have hun : upL q (fun i9 => T.un (st + i9)) (j + 1) = upL q (fun i9 => T.un (st + i9)) j ++ [92] ++ [u9] := by
                    show upL q (fun i9 => T.un (st + i9)) j ++ unB q (T.un (st + j)) = _
                    rw [← hu9]
                    unfold unB
                    rw [if_pos (Or.inr c95)]
                    simp only [List.append_assoc, List.cons_append, List.nil_append]; first | done | rfl
                  rw [← hun] at hP hD
                  exact ih (j + 1) _ _ _ (by omega) (by show ln - (j + 1) < ln - j; omega) hP hD hS (lv_sub hl [3, 4, 5, 6, 7, 0] rfl)
          · refine lv_iconst (v := 3) hx hb d_Mo_units_66 (by decide) ?_
            refine lv_goto (tgt := 82) hx hb d_Mo_units_67 (by decide) ?_
            refine lv_istore (lv' := [(7, .int 3), (6, .int u9), (0, .ref mo), (1, .ref t), (2, .int (nI st)), (3, .int (nI ln)), (4, .int q), (5, .int (nI (st + j)))]) hx hb d_Mo_units_82 hl (by decide) rfl (fun ls hl => ?_)
            refine lv_iload hx hb d_Mo_units_84 (lv_at hl 1 rfl) ?_
            refine lv_iload hx hb d_Mo_units_86 (lv_at hl 6 rfl) ?_
            refine lv_icmp_eq (tgt := 98) hx hb d_Mo_units_88 (by decide) (fun c88 => ?_) (fun c88 => ?_)
            · refine lv_aload_n hx hb d_Mo_units_98 rfl (lv_at hl 2 rfl) ?_
              refine lv_bipush (v := 92) hx hb d_Mo_units_99 (by decide) ?_
              have hPc := hP.sub (ws' := [(mo, .inr (13, MF 30 (nf v (penL s0 (upL q (fun i9 => T.un (st + i9)) j)).1 (penL s0 (upL q (fun i9 => T.un (st + i9)) j)).2.1))), (qo, .inl (cB, 16392, .inl (penL s0 (upL q (fun i9 => T.un (st + i9)) j)).2.2))]) [0, 1] rfl
              have hDc := hD.sub (ws' := [(mo, .inr (13, MF 30 (nf v (penL s0 (upL q (fun i9 => T.un (st + i9)) j)).1 (penL s0 (upL q (fun i9 => T.un (st + i9)) j)).2.1))), (qo, .inl (cB, 16392, .inl (penL s0 (upL q (fun i9 => T.un (st + i9)) j)).2.2))]) [0, 1] (by decide) rfl
              have hKc := hK.sub (tys' := [(cB, .byte)]) [0] rfl
              have hFc := va_free (wc := [(mo, .inr (13, MF 30 (nf v (penL s0 (upL q (fun i9 => T.un (st + i9)) j)).1 (penL s0 (upL q (fun i9 => T.un (st + i9)) j)).2.1))), (qo, .inl (cB, 16392, .inl (penL s0 (upL q (fun i9 => T.un (st + i9)) j)).2.2))]) hD hS hA [0, 1] rfl
              refine va_callv (va_runV (As := [.int 92]) (rest := []) ⟨hx, hb, hml, hown, hts⟩ (c_Mo_pen l dC dI mo H v cB qo (penL s0 (upL q (fun i9 => T.un (st + i9)) j)) 92 (penL_le hk0 _) h10) (cwV 1 hts (gt_V (own := R_Mo) (C := R_Mo) (i := 239) (y := y_Mo_write) i_Mo_write w_1374 w_1376 (gt_sel (y := y_Mo_write) (n := 30) (by decide +kernel)) w_7) rfl rfl rfl (by decide +kernel) ⟨Nat.le_of_ble_eq_true rfl, Nat.le_of_ble_eq_true rfl⟩) ⟨mp_blind, va_recv hKc hPc (ci := 13) (q0 := 0) rfl rfl, fun U hU hW => ⟨rfl, hU, by rw [hU]; exact hPc, va_K.moved hW.alike hKc, hDc.weaken (fun _ _ _ _ => trivial)⟩⟩ rfl rfl hl.1 rfl (lv_room (Nat.le_of_ble_eq_true rfl)) d_Mo_units_101 ⟨Nat.le_of_ble_eq_true rfl, Nat.le_of_ble_eq_true rfl⟩) hS (fun q _ h => hFc q h) hFc (fun u2 t9 H1 locs ht hvm hw hB hz1 hk1 hS => ?_)
              obtain ⟨hP1, hK1, hD1⟩ := hB
              rw [ht] at hP1
              obtain ⟨hP, hD⟩ := va_join (wr := [(t, .inr (12, MF 13 (tw T))), (T.au, .inl (cC, T.U, .inl T.un))]) (w1 := [(mo, .inr (13, MF 30 (nf v u2.1 u2.2.1))), (qo, .inl (cB, 16392, .inl u2.2.2))]) hP hD [0, 1] [2, 3] rfl rfl (by decide) (by decide) hk1 hFc hP1 hD1
              generalize H1 = H at hP hS ⊢
              have hP : va_P (dC, dI) classes [(t, .inr (12, MF 13 (tw T))), (T.au, .inl (cC, T.U, .inl T.un)), (mo, .inr (13, MF 30 (nf v u2.1 u2.2.1))), (qo, .inl (cB, 16392, .inl u2.2.2))] H := hP
              have hD : va_D A [(t, .inr (12, MF 13 (tw T))), (T.au, .inl (cC, T.U, .inl T.un)), (mo, .inr (13, MF 30 (nf v u2.1 u2.2.1))), (qo, .inl (cB, 16392, .inl u2.2.2))] := hD
              have hP := hP.sub (ws' := [(mo, .inr (13, MF 30 (nf v u2.1 u2.2.1))), (qo, .inl (cB, 16392, .inl u2.2.2)), (t, .inr (12, MF 13 (tw T))), (T.au, .inl (cC, T.U, .inl T.un))]) [2, 3, 0, 1] rfl
              have hD := hD.sub (ws' := [(mo, .inr (13, MF 30 (nf v u2.1 u2.2.1))), (qo, .inl (cB, 16392, .inl u2.2.2)), (t, .inr (12, MF 13 (tw T))), (T.au, .inl (cC, T.U, .inl T.un))]) [2, 3, 0, 1] (by decide) rfl
              have hw : u2 = pen1 (penL s0 (upL q (fun i9 => T.un (st + i9)) j)) 92 := hw
              rw [penL_snoc] at hw
              subst hw
              have hP : va_P (dC, dI) classes [(mo, .inr (13, MF 30 (nf v (penL s0 (upL q (fun i9 => T.un (st + i9)) j ++ [92])).1 (penL s0 (upL q (fun i9 => T.un (st + i9)) j ++ [92])).2.1))), (qo, .inl (cB, 16392, .inl (penL s0 (upL q (fun i9 => T.un (st + i9)) j ++ [92])).2.2)), (t, .inr (12, MF 13 (tw T))), (T.au, .inl (cC, T.U, .inl T.un))] H := hP
              have hD : va_D A [(mo, .inr (13, MF 30 (nf v (penL s0 (upL q (fun i9 => T.un (st + i9)) j ++ [92])).1 (penL s0 (upL q (fun i9 => T.un (st + i9)) j ++ [92])).2.1))), (qo, .inl (cB, 16392, .inl (penL s0 (upL q (fun i9 => T.un (st + i9)) j ++ [92])).2.2)), (t, .inr (12, MF 13 (tw T))), (T.au, .inl (cC, T.U, .inl T.un))] := hD
              refine lv_aload_n hx hb d_Mo_units_104 rfl (lv_at hl 2 rfl) ?_
              refine lv_iload hx hb d_Mo_units_105 (lv_at hl 1 rfl) ?_
              have hPc := hP.sub (ws' := [(mo, .inr (13, MF 30 (nf v (penL s0 (upL q (fun i9 => T.un (st + i9)) j ++ [92])).1 (penL s0 (upL q (fun i9 => T.un (st + i9)) j ++ [92])).2.1))), (qo, .inl (cB, 16392, .inl (penL s0 (upL q (fun i9 => T.un (st + i9)) j ++ [92])).2.2))]) [0, 1] rfl
              have hDc := hD.sub (ws' := [(mo, .inr (13, MF 30 (nf v (penL s0 (upL q (fun i9 => T.un (st + i9)) j ++ [92])).1 (penL s0 (upL q (fun i9 => T.un (st + i9)) j ++ [92])).2.1))), (qo, .inl (cB, 16392, .inl (penL s0 (upL q (fun i9 => T.un (st + i9)) j ++ [92])).2.2))]) [0, 1] (by decide) rfl
              have hKc := hK.sub (tys' := [(cB, .byte)]) [0] rfl
              have hFc := va_free (wc := [(mo, .inr (13, MF 30 (nf v (penL s0 (upL q (fun i9 => T.un (st + i9)) j ++ [92])).1 (penL s0 (upL q (fun i9 => T.un (st + i9)) j ++ [92])).2.1))), (qo, .inl (cB, 16392, .inl (penL s0 (upL q (fun i9 => T.un (st + i9)) j ++ [92])).2.2))]) hD hS hA [0, 1] rfl
              refine va_callv (va_runV (As := [.int u9]) (rest := []) ⟨hx, hb, hml, hown, hts⟩ (c_Mo_pen l dC dI mo H v cB qo (penL s0 (upL q (fun i9 => T.un (st + i9)) j ++ [92])) u9 (penL_le hk0 _) h10) (cwV 1 hts (gt_V (own := R_Mo) (C := R_Mo) (i := 239) (y := y_Mo_write) i_Mo_write w_1374 w_1376 (gt_sel (y := y_Mo_write) (n := 30) (by decide +kernel)) w_7) rfl rfl rfl (by decide +kernel) ⟨Nat.le_of_ble_eq_true rfl, Nat.le_of_ble_eq_true rfl⟩) ⟨mp_blind, va_recv hKc hPc (ci := 13) (q0 := 0) rfl rfl, fun U hU hW => ⟨rfl, hU, by rw [hU]; exact hPc, va_K.moved hW.alike hKc, hDc.weaken (fun _ _ _ _ => trivial)⟩⟩ rfl rfl hl.1 rfl (lv_room (Nat.le_of_ble_eq_true rfl)) d_Mo_units_107 ⟨Nat.le_of_ble_eq_true rfl, Nat.le_of_ble_eq_true rfl⟩) hS (fun q _ h => hFc q h) hFc (fun u2 t9 H1 locs ht hvm hw hB hz1 hk1 hS => ?_)
              obtain ⟨hP1, hK1, hD1⟩ := hB
              rw [ht] at hP1
              obtain ⟨hP, hD⟩ := va_join (wr := [(t, .inr (12, MF 13 (tw T))), (T.au, .inl (cC, T.U, .inl T.un))]) (w1 := [(mo, .inr (13, MF 30 (nf v u2.1 u2.2.1))), (qo, .inl (cB, 16392, .inl u2.2.2))]) hP hD [0, 1] [2, 3] rfl rfl (by decide) (by decide) hk1 hFc hP1 hD1
              generalize H1 = H at hP hS ⊢
              have hP : va_P (dC, dI) classes [(t, .inr (12, MF 13 (tw T))), (T.au, .inl (cC, T.U, .inl T.un)), (mo, .inr (13, MF 30 (nf v u2.1 u2.2.1))), (qo, .inl (cB, 16392, .inl u2.2.2))] H := hP
              have hD : va_D A [(t, .inr (12, MF 13 (tw T))), (T.au, .inl (cC, T.U, .inl T.un)), (mo, .inr (13, MF 30 (nf v u2.1 u2.2.1))), (qo, .inl (cB, 16392, .inl u2.2.2))] := hD
              have hP := hP.sub (ws' := [(mo, .inr (13, MF 30 (nf v u2.1 u2.2.1))), (qo, .inl (cB, 16392, .inl u2.2.2)), (t, .inr (12, MF 13 (tw T))), (T.au, .inl (cC, T.U, .inl T.un))]) [2, 3, 0, 1] rfl
              have hD := hD.sub (ws' := [(mo, .inr (13, MF 30 (nf v u2.1 u2.2.1))), (qo, .inl (cB, 16392, .inl u2.2.2)), (t, .inr (12, MF 13 (tw T))), (T.au, .inl (cC, T.U, .inl T.un))]) [2, 3, 0, 1] (by decide) rfl
              have hw : u2 = pen1 (penL s0 (upL q (fun i9 => T.un (st + i9)) j ++ [92])) u9 := hw
              rw [penL_snoc] at hw
              subst hw
              have hP : va_P (dC, dI) classes [(mo, .inr (13, MF 30 (nf v (penL s0 (upL q (fun i9 => T.un (st + i9)) j ++ [92] ++ [u9])).1 (penL s0 (upL q (fun i9 => T.un (st + i9)) j ++ [92] ++ [u9])).2.1))), (qo, .inl (cB, 16392, .inl (penL s0 (upL q (fun i9 => T.un (st + i9)) j ++ [92] ++ [u9])).2.2)), (t, .inr (12, MF 13 (tw T))), (T.au, .inl (cC, T.U, .inl T.un))] H := hP
              have hD : va_D A [(mo, .inr (13, MF 30 (nf v (penL s0 (upL q (fun i9 => T.un (st + i9)) j ++ [92] ++ [u9])).1 (penL s0 (upL q (fun i9 => T.un (st + i9)) j ++ [92] ++ [u9])).2.1))), (qo, .inl (cB, 16392, .inl (penL s0 (upL q (fun i9 => T.un (st + i9)) j ++ [92] ++ [u9])).2.2)), (t, .inr (12, MF 13 (tw T))), (T.au, .inl (cC, T.U, .inl T.un))] := hD
              refine lv_goto (tgt := 199) hx hb d_Mo_units_110 (by decide) ?_
              refine lv_iinc (v := nI (st + (j + 1))) (lv' := [(5, .int (nI (st + (j + 1)))), (7, .int 3), (6, .int u9), (0, .ref mo), (1, .ref t), (2, .int (nI st)), (3, .int (nI ln)), (4, .int q)]) hx hb d_Mo_units_199 hl (k := 7) rfl (nI_1 (st + j)) (by decide) rfl (fun ls hl => ?_)
              refine lv_goto (tgt := 9) hx hb d_Mo_units_202 (by decide) ?_
              have hek : escK u9 = 3 := by unfold escK; rw [if_neg c30, if_neg c41, if_neg c52, if_pos c63]
              have hun : upL q (fun i9 => T.un (st + i9)) (j + 1) = upL q (fun i9 => T.un (st + i9)) j ++ [92] ++ [u9] := by
                show upL q (fun i9 => T.un (st + i9)) j ++ unB q (T.un (st + j)) = _
                rw [← hu9]
                unfold unB
                rw [if_pos (Or.inl c88)]
                simp only [List.append_assoc, List.cons_append, List.nil_append]; first | done | rfl
              rw [← hun] at hP hD
              exact ih (j + 1) _ _ _ (by omega) (by show ln - (j + 1) < ln - j; omega) hP hD hS (lv_sub hl [3, 4, 5, 6, 7, 0] rfl)
            · refine lv_iload hx hb d_Mo_units_91 (lv_at hl 1 rfl) ?_
              refine lv_bipush (v := 92) hx hb d_Mo_units_93 (by decide) ?_
              refine lv_icmp_ne (tgt := 113) hx hb d_Mo_units_95 (by decide) (fun c95 => ?_) (fun c95 => ?_)
              · refine lv_iload hx hb d_Mo_units_113 (lv_at hl 0 rfl) ?_
                refine lv_if_lt (tgt := 138) hx hb d_Mo_units_115 (by decide) (fun h => absurd h (by decide)) (fun _ => ?_)
                refine lv_aload_n hx hb d_Mo_units_118 rfl (lv_at hl 2 rfl) ?_
                refine lv_bipush (v := 92) hx hb d_Mo_units_119 (by decide) ?_
                have hPc := hP.sub (ws' := [(mo, .inr (13, MF 30 (nf v (penL s0 (upL q (fun i9 => T.un (st + i9)) j)).1 (penL s0 (upL q (fun i9 => T.un (st + i9)) j)).2.1))), (qo, .inl (cB, 16392, .inl (penL s0 (upL q (fun i9 => T.un (st + i9)) j)).2.2))]) [0, 1] rfl
                have hDc := hD.sub (ws' := [(mo, .inr (13, MF 30 (nf v (penL s0 (upL q (fun i9 => T.un (st + i9)) j)).1 (penL s0 (upL q (fun i9 => T.un (st + i9)) j)).2.1))), (qo, .inl (cB, 16392, .inl (penL s0 (upL q (fun i9 => T.un (st + i9)) j)).2.2))]) [0, 1] (by decide) rfl
                have hKc := hK.sub (tys' := [(cB, .byte)]) [0] rfl
                have hFc := va_free (wc := [(mo, .inr (13, MF 30 (nf v (penL s0 (upL q (fun i9 => T.un (st + i9)) j)).1 (penL s0 (upL q (fun i9 => T.un (st + i9)) j)).2.1))), (qo, .inl (cB, 16392, .inl (penL s0 (upL q (fun i9 => T.un (st + i9)) j)).2.2))]) hD hS hA [0, 1] rfl
                refine va_callv (va_runV (As := [.int 92]) (rest := []) ⟨hx, hb, hml, hown, hts⟩ (c_Mo_pen l dC dI mo H v cB qo (penL s0 (upL q (fun i9 => T.un (st + i9)) j)) 92 (penL_le hk0 _) h10) (cwV 1 hts (gt_V (own := R_Mo) (C := R_Mo) (i := 239) (y := y_Mo_write) i_Mo_write w_1374 w_1376 (gt_sel (y := y_Mo_write) (n := 30) (by decide +kernel)) w_7) rfl rfl rfl (by decide +kernel) ⟨Nat.le_of_ble_eq_true rfl, Nat.le_of_ble_eq_true rfl⟩) ⟨mp_blind, va_recv hKc hPc (ci := 13) (q0 := 0) rfl rfl, fun U hU hW => ⟨rfl, hU, by rw [hU]; exact hPc, va_K.moved hW.alike hKc, hDc.weaken (fun _ _ _ _ => trivial)⟩⟩ rfl rfl hl.1 rfl (lv_room (Nat.le_of_ble_eq_true rfl)) d_Mo_units_121 ⟨Nat.le_of_ble_eq_true rfl, Nat.le_of_ble_eq_true rfl⟩) hS (fun q _ h => hFc q h) hFc (fun u2 t9 H1 locs ht hvm hw hB hz1 hk1 hS => ?_)
                obtain ⟨hP1, hK1, hD1⟩ := hB
                rw [ht] at hP1
                obtain ⟨hP, hD⟩ := va_join (wr := [(t, .inr (12, MF 13 (tw T))), (T.au, .inl (cC, T.U, .inl T.un))]) (w1 := [(mo, .inr (13, MF 30 (nf v u2.1 u2.2.1))), (qo, .inl (cB, 16392, .inl u2.2.2))]) hP hD [0, 1] [2, 3] rfl rfl (by decide) (by decide) hk1 hFc hP1 hD1
                generalize H1 = H at hP hS ⊢
                have hP : va_P (dC, dI) classes [(t, .inr (12, MF 13 (tw T))), (T.au, .inl (cC, T.U, .inl T.un)), (mo, .inr (13, MF 30 (nf v u2.1 u2.2.1))), (qo, .inl (cB, 16392, .inl u2.2.2))] H := hP
                have hD : va_D A [(t, .inr (12, MF 13 (tw T))), (T.au, .inl (cC, T.U, .inl T.un)), (mo, .inr (13, MF 30 (nf v u2.1 u2.2.1))), (qo, .inl (cB, 16392, .inl u2.2.2))] := hD
                have hP := hP.sub (ws' := [(mo, .inr (13, MF 30 (nf v u2.1 u2.2.1))), (qo, .inl (cB, 16392, .inl u2.2.2)), (t, .inr (12, MF 13 (tw T))), (T.au, .inl (cC, T.U, .inl T.un))]) [2, 3, 0, 1] rfl
                have hD := hD.sub (ws' := [(mo, .inr (13, MF 30 (nf v u2.1 u2.2.1))), (qo, .inl (cB, 16392, .inl u2.2.2)), (t, .inr (12, MF 13 (tw T))), (T.au, .inl (cC, T.U, .inl T.un))]) [2, 3, 0, 1] (by decide) rfl
                have hw : u2 = pen1 (penL s0 (upL q (fun i9 => T.un (st + i9)) j)) 92 := hw
                rw [penL_snoc] at hw
                subst hw
                have hP : va_P (dC, dI) classes [(mo, .inr (13, MF 30 (nf v (penL s0 (upL q (fun i9 => T.un (st + i9)) j ++ [92])).1 (penL s0 (upL q (fun i9 => T.un (st + i9)) j ++ [92])).2.1))), (qo, .inl (cB, 16392, .inl (penL s0 (upL q (fun i9 => T.un (st + i9)) j ++ [92])).2.2)), (t, .inr (12, MF 13 (tw T))), (T.au, .inl (cC, T.U, .inl T.un))] H := hP
                have hD : va_D A [(mo, .inr (13, MF 30 (nf v (penL s0 (upL q (fun i9 => T.un (st + i9)) j ++ [92])).1 (penL s0 (upL q (fun i9 => T.un (st + i9)) j ++ [92])).2.1))), (qo, .inl (cB, 16392, .inl (penL s0 (upL q (fun i9 => T.un (st + i9)) j ++ [92])).2.2)), (t, .inr (12, MF 13 (tw T))), (T.au, .inl (cC, T.U, .inl T.un))] := hD
                refine lv_aload_n hx hb d_Mo_units_124 rfl (lv_at hl 2 rfl) ?_
                refine va_ldcS hx hb hown (hM 4 _ rfl).2 d_Mo_units_125 ?_
                refine lv_iload hx hb d_Mo_units_127 (lv_at hl 0 rfl) ?_
                refine W.eq (g2 := F0 m 129 ls [.int (nI 3), .ref (K 4).1, .ref mo]) (by rw [show 3 = (nI 3) from (by decide)]) ?_
                have hE := (hM 4 _ rfl).1
                have hPc := hP.sub (ws' := []) [] rfl
                have hDc := hD.sub (ws' := []) [] (by decide) rfl
                have hKc := hK.sub (tys' := []) [] rfl
                have hFc := va_free (wc := []) hD hS hA [] rfl
                refine va_calli (va_runV (As := [.int (nI 3)]) (rest := [.ref mo]) ⟨hx, hb, hml, hown, hts⟩ (c_Str_charAt l dC dI H (K 4).1 (K 4).2 5 (mtx 4) 3 (by decide) (by decide)) (cwV 1 hts (gt_V (own := R_Mo) (C := R_Str) (i := 159) (y := y_Str_charAt) i_Str_charAt w_1245 w_466 w_467 w_18) rfl rfl rfl (by decide +kernel) ⟨Nat.le_of_ble_eq_true rfl, Nat.le_of_ble_eq_true rfl⟩) ⟨mstr_blind, (by obtain ⟨cell, h1, h2, h3, -⟩ := va_O.kept hE.1 hS.2.1; exact ⟨cell, h1, h2, h3⟩), fun U hU hW => ⟨rfl, ⟨hU, by rw [hU]; exact hPc, va_K.moved hW.alike hKc, hDc.weaken (fun _ _ _ _ => trivial)⟩, by rw [hU]; exact SX.moved' hW.alike (SX.narrow' (SX.kept' hE hS.2.1) hFc)⟩⟩ rfl rfl hl.1 rfl (lv_room (Nat.le_of_ble_eq_true rfl)) d_Mo_units_129 ⟨Nat.le_of_ble_eq_true rfl, Nat.le_of_ble_eq_true rfl⟩) hS (fun q _ h => hFc q h) hFc (fun r0 _u t9 H1 locs ht hvm hw hB hz1 hk1 hS => ?_)
                obtain ⟨hP1, hK1, hD1⟩ := hB
                rw [ht] at hP1
                obtain ⟨hP, hD⟩ := va_join (wr := [(mo, .inr (13, MF 30 (nf v (penL s0 (upL q (fun i9 => T.un (st + i9)) j ++ [92])).1 (penL s0 (upL q (fun i9 => T.un (st + i9)) j ++ [92])).2.1))), (qo, .inl (cB, 16392, .inl (penL s0 (upL q (fun i9 => T.un (st + i9)) j ++ [92])).2.2)), (t, .inr (12, MF 13 (tw T))), (T.au, .inl (cC, T.U, .inl T.un))]) (w1 := []) hP hD [] [0, 1, 2, 3] rfl rfl (by decide) (by decide) hk1 hFc hP1 hD1
                generalize H1 = H at hP hS ⊢
                have hP : va_P (dC, dI) classes [(mo, .inr (13, MF 30 (nf v (penL s0 (upL q (fun i9 => T.un (st + i9)) j ++ [92])).1 (penL s0 (upL q (fun i9 => T.un (st + i9)) j ++ [92])).2.1))), (qo, .inl (cB, 16392, .inl (penL s0 (upL q (fun i9 => T.un (st + i9)) j ++ [92])).2.2)), (t, .inr (12, MF 13 (tw T))), (T.au, .inl (cC, T.U, .inl T.un))] H := hP
                have hD : va_D A [(mo, .inr (13, MF 30 (nf v (penL s0 (upL q (fun i9 => T.un (st + i9)) j ++ [92])).1 (penL s0 (upL q (fun i9 => T.un (st + i9)) j ++ [92])).2.1))), (qo, .inl (cB, 16392, .inl (penL s0 (upL q (fun i9 => T.un (st + i9)) j ++ [92])).2.2)), (t, .inr (12, MF 13 (tw T))), (T.au, .inl (cC, T.U, .inl T.un))] := hD
                have hw : r0 = (mtx 4) 3 &&& 255 := hw
                subst hw
                have hPc := hP.sub (ws' := [(mo, .inr (13, MF 30 (nf v (penL s0 (upL q (fun i9 => T.un (st + i9)) j ++ [92])).1 (penL s0 (upL q (fun i9 => T.un (st + i9)) j ++ [92])).2.1))), (qo, .inl (cB, 16392, .inl (penL s0 (upL q (fun i9 => T.un (st + i9)) j ++ [92])).2.2))]) [0, 1] rfl
                have hDc := hD.sub (ws' := [(mo, .inr (13, MF 30 (nf v (penL s0 (upL q (fun i9 => T.un (st + i9)) j ++ [92])).1 (penL s0 (upL q (fun i9 => T.un (st + i9)) j ++ [92])).2.1))), (qo, .inl (cB, 16392, .inl (penL s0 (upL q (fun i9 => T.un (st + i9)) j ++ [92])).2.2))]) [0, 1] (by decide) rfl
                have hKc := hK.sub (tys' := [(cB, .byte)]) [0] rfl
                have hFc := va_free (wc := [(mo, .inr (13, MF 30 (nf v (penL s0 (upL q (fun i9 => T.un (st + i9)) j ++ [92])).1 (penL s0 (upL q (fun i9 => T.un (st + i9)) j ++ [92])).2.1))), (qo, .inl (cB, 16392, .inl (penL s0 (upL q (fun i9 => T.un (st + i9)) j ++ [92])).2.2))]) hD hS hA [0, 1] rfl
                refine va_callv (va_runV (As := [.int ((mtx 4) 3 &&& 255)]) (rest := []) ⟨hx, hb, hml, hown, hts⟩ (c_Mo_pen l dC dI mo H v cB qo (penL s0 (upL q (fun i9 => T.un (st + i9)) j ++ [92])) (((mtx 4) 3 &&& 255)) (penL_le hk0 _) h10) (cwV 1 hts (gt_V (own := R_Mo) (C := R_Mo) (i := 239) (y := y_Mo_write) i_Mo_write w_1374 w_1376 (gt_sel (y := y_Mo_write) (n := 30) (by decide +kernel)) w_7) rfl rfl rfl (by decide +kernel) ⟨Nat.le_of_ble_eq_true rfl, Nat.le_of_ble_eq_true rfl⟩) ⟨mp_blind, va_recv hKc hPc (ci := 13) (q0 := 0) rfl rfl, fun U hU hW => ⟨rfl, hU, by rw [hU]; exact hPc, va_K.moved hW.alike hKc, hDc.weaken (fun _ _ _ _ => trivial)⟩⟩ rfl rfl hl.1 rfl (lv_room (Nat.le_of_ble_eq_true rfl)) d_Mo_units_132 ⟨Nat.le_of_ble_eq_true rfl, Nat.le_of_ble_eq_true rfl⟩) hS (fun q _ h => hFc q h) hFc (fun u2 t9 H1 locs ht hvm hw hB hz1 hk1 hS => ?_)
                obtain ⟨hP1, hK1, hD1⟩ := hB
                rw [ht] at hP1
                obtain ⟨hP, hD⟩ := va_join (wr := [(t, .inr (12, MF 13 (tw T))), (T.au, .inl (cC, T.U, .inl T.un))]) (w1 := [(mo, .inr (13, MF 30 (nf v u2.1 u2.2.1))), (qo, .inl (cB, 16392, .inl u2.2.2))]) hP hD [0, 1] [2, 3] rfl rfl (by decide) (by decide) hk1 hFc hP1 hD1
                generalize H1 = H at hP hS ⊢
                have hP : va_P (dC, dI) classes [(t, .inr (12, MF 13 (tw T))), (T.au, .inl (cC, T.U, .inl T.un)), (mo, .inr (13, MF 30 (nf v u2.1 u2.2.1))), (qo, .inl (cB, 16392, .inl u2.2.2))] H := hP
                have hD : va_D A [(t, .inr (12, MF 13 (tw T))), (T.au, .inl (cC, T.U, .inl T.un)), (mo, .inr (13, MF 30 (nf v u2.1 u2.2.1))), (qo, .inl (cB, 16392, .inl u2.2.2))] := hD
                have hP := hP.sub (ws' := [(mo, .inr (13, MF 30 (nf v u2.1 u2.2.1))), (qo, .inl (cB, 16392, .inl u2.2.2)), (t, .inr (12, MF 13 (tw T))), (T.au, .inl (cC, T.U, .inl T.un))]) [2, 3, 0, 1] rfl
                have hD := hD.sub (ws' := [(mo, .inr (13, MF 30 (nf v u2.1 u2.2.1))), (qo, .inl (cB, 16392, .inl u2.2.2)), (t, .inr (12, MF 13 (tw T))), (T.au, .inl (cC, T.U, .inl T.un))]) [2, 3, 0, 1] (by decide) rfl
                have hw : u2 = pen1 (penL s0 (upL q (fun i9 => T.un (st + i9)) j ++ [92])) (((mtx 4) 3 &&& 255)) := hw
                rw [penL_snoc] at hw
                subst hw
                have hP : va_P (dC, dI) classes [(mo, .inr (13, MF 30 (nf v (penL s0 (upL q (fun i9 => T.un (st + i9)) j ++ [92] ++ [((mtx 4) 3 &&& 255)])).1 (penL s0 (upL q (fun i9 => T.un (st + i9)) j ++ [92] ++ [((mtx 4) 3 &&& 255)])).2.1))), (qo, .inl (cB, 16392, .inl (penL s0 (upL q (fun i9 => T.un (st + i9)) j ++ [92] ++ [((mtx 4) 3 &&& 255)])).2.2)), (t, .inr (12, MF 13 (tw T))), (T.au, .inl (cC, T.U, .inl T.un))] H := hP
                have hD : va_D A [(mo, .inr (13, MF 30 (nf v (penL s0 (upL q (fun i9 => T.un (st + i9)) j ++ [92] ++ [((mtx 4) 3 &&& 255)])).1 (penL s0 (upL q (fun i9 => T.un (st + i9)) j ++ [92] ++ [((mtx 4) 3 &&& 255)])).2.1))), (qo, .inl (cB, 16392, .inl (penL s0 (upL q (fun i9 => T.un (st + i9)) j ++ [92] ++ [((mtx 4) 3 &&& 255)])).2.2)), (t, .inr (12, MF 13 (tw T))), (T.au, .inl (cC, T.U, .inl T.un))] := hD
                refine lv_goto (tgt := 199) hx hb d_Mo_units_135 (by decide) ?_
                refine lv_iinc (v := nI (st + (j + 1))) (lv' := [(5, .int (nI (st + (j + 1)))), (7, .int 3), (6, .int u9), (0, .ref mo), (1, .ref t), (2, .int (nI st)), (3, .int (nI ln)), (4, .int q)]) hx hb d_Mo_units_199 hl (k := 7) rfl (nI_1 (st + j)) (by decide) rfl (fun ls hl => ?_)
                refine lv_goto (tgt := 9) hx hb d_Mo_units_202 (by decide) ?_
                have hek : escK u9 = 3 := by unfold escK; rw [if_neg c30, if_neg c41, if_neg c52, if_pos c63]
                have hun : upL q (fun i9 => T.un (st + i9)) (j + 1) = upL q (fun i9 => T.un (st + i9)) j ++ [92] ++ [((mtx 4) 3 &&& 255)] := by
                  show upL q (fun i9 => T.un (st + i9)) j ++ unB q (T.un (st + j)) = _
                  rw [← hu9]
                  unfold unB
                  rw [if_neg (fun h => h.elim c88 c95), hek, if_pos (by decide)]
                  simp only [List.append_assoc, List.cons_append, List.nil_append]; first | done | rfl
                rw [← hun] at hP hD
                exact ih (j + 1) _ _ _ (by omega) (by show ln - (j + 1) < ln - j; omega) hP hD hS (lv_sub hl [3, 4, 5, 6, 7, 0] rfl)
              · refine lv_aload_n hx hb d_Mo_units_98 rfl (lv_at hl 2 rfl) ?_
                refine lv_bipush (v := 92) hx hb d_Mo_units_99 (by decide) ?_
                have hPc := hP.sub (ws' := [(mo, .inr (13, MF 30 (nf v (penL s0 (upL q (fun i9 => T.un (st + i9)) j)).1 (penL s0 (upL q (fun i9 => T.un (st + i9)) j)).2.1))), (qo, .inl (cB, 16392, .inl (penL s0 (upL q (fun i9 => T.un (st + i9)) j)).2.2))]) [0, 1] rfl
                have hDc := hD.sub (ws' := [(mo, .inr (13, MF 30 (nf v (penL s0 (upL q (fun i9 => T.un (st + i9)) j)).1 (penL s0 (upL q (fun i9 => T.un (st + i9)) j)).2.1))), (qo, .inl (cB, 16392, .inl (penL s0 (upL q (fun i9 => T.un (st + i9)) j)).2.2))]) [0, 1] (by decide) rfl
                have hKc := hK.sub (tys' := [(cB, .byte)]) [0] rfl
                have hFc := va_free (wc := [(mo, .inr (13, MF 30 (nf v (penL s0 (upL q (fun i9 => T.un (st + i9)) j)).1 (penL s0 (upL q (fun i9 => T.un (st + i9)) j)).2.1))), (qo, .inl (cB, 16392, .inl (penL s0 (upL q (fun i9 => T.un (st + i9)) j)).2.2))]) hD hS hA [0, 1] rfl
                refine va_callv (va_runV (As := [.int 92]) (rest := []) ⟨hx, hb, hml, hown, hts⟩ (c_Mo_pen l dC dI mo H v cB qo (penL s0 (upL q (fun i9 => T.un (st + i9)) j)) 92 (penL_le hk0 _) h10) (cwV 1 hts (gt_V (own := R_Mo) (C := R_Mo) (i := 239) (y := y_Mo_write) i_Mo_write w_1374 w_1376 (gt_sel (y := y_Mo_write) (n := 30) (by decide +kernel)) w_7) rfl rfl rfl (by decide +kernel) ⟨Nat.le_of_ble_eq_true rfl, Nat.le_of_ble_eq_true rfl⟩) ⟨mp_blind, va_recv hKc hPc (ci := 13) (q0 := 0) rfl rfl, fun U hU hW => ⟨rfl, hU, by rw [hU]; exact hPc, va_K.moved hW.alike hKc, hDc.weaken (fun _ _ _ _ => trivial)⟩⟩ rfl rfl hl.1 rfl (lv_room (Nat.le_of_ble_eq_true rfl)) d_Mo_units_101 ⟨Nat.le_of_ble_eq_true rfl, Nat.le_of_ble_eq_true rfl⟩) hS (fun q _ h => hFc q h) hFc (fun u2 t9 H1 locs ht hvm hw hB hz1 hk1 hS => ?_)
                obtain ⟨hP1, hK1, hD1⟩ := hB
                rw [ht] at hP1
                obtain ⟨hP, hD⟩ := va_join (wr := [(t, .inr (12, MF 13 (tw T))), (T.au, .inl (cC, T.U, .inl T.un))]) (w1 := [(mo, .inr (13, MF 30 (nf v u2.1 u2.2.1))), (qo, .inl (cB, 16392, .inl u2.2.2))]) hP hD [0, 1] [2, 3] rfl rfl (by decide) (by decide) hk1 hFc hP1 hD1
                generalize H1 = H at hP hS ⊢
                have hP : va_P (dC, dI) classes [(t, .inr (12, MF 13 (tw T))), (T.au, .inl (cC, T.U, .inl T.un)), (mo, .inr (13, MF 30 (nf v u2.1 u2.2.1))), (qo, .inl (cB, 16392, .inl u2.2.2))] H := hP
                have hD : va_D A [(t, .inr (12, MF 13 (tw T))), (T.au, .inl (cC, T.U, .inl T.un)), (mo, .inr (13, MF 30 (nf v u2.1 u2.2.1))), (qo, .inl (cB, 16392, .inl u2.2.2))] := hD
                have hP := hP.sub (ws' := [(mo, .inr (13, MF 30 (nf v u2.1 u2.2.1))), (qo, .inl (cB, 16392, .inl u2.2.2)), (t, .inr (12, MF 13 (tw T))), (T.au, .inl (cC, T.U, .inl T.un))]) [2, 3, 0, 1] rfl
                have hD := hD.sub (ws' := [(mo, .inr (13, MF 30 (nf v u2.1 u2.2.1))), (qo, .inl (cB, 16392, .inl u2.2.2)), (t, .inr (12, MF 13 (tw T))), (T.au, .inl (cC, T.U, .inl T.un))]) [2, 3, 0, 1] (by decide) rfl
                have hw : u2 = pen1 (penL s0 (upL q (fun i9 => T.un (st + i9)) j)) 92 := hw
                rw [penL_snoc] at hw
                subst hw
                have hP : va_P (dC, dI) classes [(mo, .inr (13, MF 30 (nf v (penL s0 (upL q (fun i9 => T.un (st + i9)) j ++ [92])).1 (penL s0 (upL q (fun i9 => T.un (st + i9)) j ++ [92])).2.1))), (qo, .inl (cB, 16392, .inl (penL s0 (upL q (fun i9 => T.un (st + i9)) j ++ [92])).2.2)), (t, .inr (12, MF 13 (tw T))), (T.au, .inl (cC, T.U, .inl T.un))] H := hP
                have hD : va_D A [(mo, .inr (13, MF 30 (nf v (penL s0 (upL q (fun i9 => T.un (st + i9)) j ++ [92])).1 (penL s0 (upL q (fun i9 => T.un (st + i9)) j ++ [92])).2.1))), (qo, .inl (cB, 16392, .inl (penL s0 (upL q (fun i9 => T.un (st + i9)) j ++ [92])).2.2)), (t, .inr (12, MF 13 (tw T))), (T.au, .inl (cC, T.U, .inl T.un))] := hD
                refine lv_aload_n hx hb d_Mo_units_104 rfl (lv_at hl 2 rfl) ?_
                refine lv_iload hx hb d_Mo_units_105 (lv_at hl 1 rfl) ?_
                have hPc := hP.sub (ws' := [(mo, .inr (13, MF 30 (nf v (penL s0 (upL q (fun i9 => T.un (st + i9)) j ++ [92])).1 (penL s0 (upL q (fun i9 => T.un (st + i9)) j ++ [92])).2.1))), (qo, .inl (cB, 16392, .inl (penL s0 (upL q (fun i9 => T.un (st + i9)) j ++ [92])).2.2))]) [0, 1] rfl
                have hDc := hD.sub (ws' := [(mo, .inr (13, MF 30 (nf v (penL s0 (upL q (fun i9 => T.un (st + i9)) j ++ [92])).1 (penL s0 (upL q (fun i9 => T.un (st + i9)) j ++ [92])).2.1))), (qo, .inl (cB, 16392, .inl (penL s0 (upL q (fun i9 => T.un (st + i9)) j ++ [92])).2.2))]) [0, 1] (by decide) rfl
                have hKc := hK.sub (tys' := [(cB, .byte)]) [0] rfl
                have hFc := va_free (wc := [(mo, .inr (13, MF 30 (nf v (penL s0 (upL q (fun i9 => T.un (st + i9)) j ++ [92])).1 (penL s0 (upL q (fun i9 => T.un (st + i9)) j ++ [92])).2.1))), (qo, .inl (cB, 16392, .inl (penL s0 (upL q (fun i9 => T.un (st + i9)) j ++ [92])).2.2))]) hD hS hA [0, 1] rfl
                refine va_callv (va_runV (As := [.int u9]) (rest := []) ⟨hx, hb, hml, hown, hts⟩ (c_Mo_pen l dC dI mo H v cB qo (penL s0 (upL q (fun i9 => T.un (st + i9)) j ++ [92])) u9 (penL_le hk0 _) h10) (cwV 1 hts (gt_V (own := R_Mo) (C := R_Mo) (i := 239) (y := y_Mo_write) i_Mo_write w_1374 w_1376 (gt_sel (y := y_Mo_write) (n := 30) (by decide +kernel)) w_7) rfl rfl rfl (by decide +kernel) ⟨Nat.le_of_ble_eq_true rfl, Nat.le_of_ble_eq_true rfl⟩) ⟨mp_blind, va_recv hKc hPc (ci := 13) (q0 := 0) rfl rfl, fun U hU hW => ⟨rfl, hU, by rw [hU]; exact hPc, va_K.moved hW.alike hKc, hDc.weaken (fun _ _ _ _ => trivial)⟩⟩ rfl rfl hl.1 rfl (lv_room (Nat.le_of_ble_eq_true rfl)) d_Mo_units_107 ⟨Nat.le_of_ble_eq_true rfl, Nat.le_of_ble_eq_true rfl⟩) hS (fun q _ h => hFc q h) hFc (fun u2 t9 H1 locs ht hvm hw hB hz1 hk1 hS => ?_)
                obtain ⟨hP1, hK1, hD1⟩ := hB
                rw [ht] at hP1
                obtain ⟨hP, hD⟩ := va_join (wr := [(t, .inr (12, MF 13 (tw T))), (T.au, .inl (cC, T.U, .inl T.un))]) (w1 := [(mo, .inr (13, MF 30 (nf v u2.1 u2.2.1))), (qo, .inl (cB, 16392, .inl u2.2.2))]) hP hD [0, 1] [2, 3] rfl rfl (by decide) (by decide) hk1 hFc hP1 hD1
                generalize H1 = H at hP hS ⊢
                have hP : va_P (dC, dI) classes [(t, .inr (12, MF 13 (tw T))), (T.au, .inl (cC, T.U, .inl T.un)), (mo, .inr (13, MF 30 (nf v u2.1 u2.2.1))), (qo, .inl (cB, 16392, .inl u2.2.2))] H := hP
                have hD : va_D A [(t, .inr (12, MF 13 (tw T))), (T.au, .inl (cC, T.U, .inl T.un)), (mo, .inr (13, MF 30 (nf v u2.1 u2.2.1))), (qo, .inl (cB, 16392, .inl u2.2.2))] := hD
                have hP := hP.sub (ws' := [(mo, .inr (13, MF 30 (nf v u2.1 u2.2.1))), (qo, .inl (cB, 16392, .inl u2.2.2)), (t, .inr (12, MF 13 (tw T))), (T.au, .inl (cC, T.U, .inl T.un))]) [2, 3, 0, 1] rfl
                have hD := hD.sub (ws' := [(mo, .inr (13, MF 30 (nf v u2.1 u2.2.1))), (qo, .inl (cB, 16392, .inl u2.2.2)), (t, .inr (12, MF 13 (tw T))), (T.au, .inl (cC, T.U, .inl T.un))]) [2, 3, 0, 1] (by decide) rfl
                have hw : u2 = pen1 (penL s0 (upL q (fun i9 => T.un (st + i9)) j ++ [92])) u9 := hw
                rw [penL_snoc] at hw
                subst hw
                have hP : va_P (dC, dI) classes [(mo, .inr (13, MF 30 (nf v (penL s0 (upL q (fun i9 => T.un (st + i9)) j ++ [92] ++ [u9])).1 (penL s0 (upL q (fun i9 => T.un (st + i9)) j ++ [92] ++ [u9])).2.1))), (qo, .inl (cB, 16392, .inl (penL s0 (upL q (fun i9 => T.un (st + i9)) j ++ [92] ++ [u9])).2.2)), (t, .inr (12, MF 13 (tw T))), (T.au, .inl (cC, T.U, .inl T.un))] H := hP
                have hD : va_D A [(mo, .inr (13, MF 30 (nf v (penL s0 (upL q (fun i9 => T.un (st + i9)) j ++ [92] ++ [u9])).1 (penL s0 (upL q (fun i9 => T.un (st + i9)) j ++ [92] ++ [u9])).2.1))), (qo, .inl (cB, 16392, .inl (penL s0 (upL q (fun i9 => T.un (st + i9)) j ++ [92] ++ [u9])).2.2)), (t, .inr (12, MF 13 (tw T))), (T.au, .inl (cC, T.U, .inl T.un))] := hD
                refine lv_goto (tgt := 199) hx hb d_Mo_units_110 (by decide) ?_
                refine lv_iinc (v := nI (st + (j + 1))) (lv' := [(5, .int (nI (st + (j + 1)))), (7, .int 3), (6, .int u9), (0, .ref mo), (1, .ref t), (2, .int (nI st)), (3, .int (nI ln)), (4, .int q)]) hx hb d_Mo_units_199 hl (k := 7) rfl (nI_1 (st + j)) (by decide) rfl (fun ls hl => ?_)
                refine lv_goto (tgt := 9) hx hb d_Mo_units_202 (by decide) ?_
                have hek : escK u9 = 3 := by unfold escK; rw [if_neg c30, if_neg c41, if_neg c52, if_pos c63]
                have hun : upL q (fun i9 => T.un (st + i9)) (j + 1) = upL q (fun i9 => T.un (st + i9)) j ++ [92] ++ [u9] := by
                  show upL q (fun i9 => T.un (st + i9)) j ++ unB q (T.un (st + j)) = _
                  rw [← hu9]
                  unfold unB
                  rw [if_pos (Or.inr c95)]
                  simp only [List.append_assoc, List.cons_append, List.nil_append]; first | done | rfl
                rw [← hun] at hP hD
                exact ih (j + 1) _ _ _ (by omega) (by show ln - (j + 1) < ln - j; omega) hP hD hS (lv_sub hl [3, 4, 5, 6, 7, 0] rfl)
        · refine lv_iconst (v := 2) hx hb d_Mo_units_55 (by decide) ?_
          refine lv_goto (tgt := 82) hx hb d_Mo_units_56 (by decide) ?_
          refine lv_istore (lv' := [(7, .int 2), (6, .int u9), (0, .ref mo), (1, .ref t), (2, .int (nI st)), (3, .int (nI ln)), (4, .int q), (5, .int (nI (st + j)))]) hx hb d_Mo_units_82 hl (by decide) rfl (fun ls hl => ?_)
          refine lv_iload hx hb d_Mo_units_84 (lv_at hl 1 rfl) ?_
          refine lv_iload hx hb d_Mo_units_86 (lv_at hl 6 rfl) ?_
          refine lv_icmp_eq (tgt := 98) hx hb d_Mo_units_88 (by decide) (fun c88 => ?_) (fun c88 => ?_)
          · refine lv_aload_n hx hb d_Mo_units_98 rfl (lv_at hl 2 rfl) ?_
            refine lv_bipush (v := 92) hx hb d_Mo_units_99 (by decide) ?_
            have hPc := hP.sub (ws' := [(mo, .inr (13, MF 30 (nf v (penL s0 (upL q (fun i9 => T.un (st + i9)) j)).1 (penL s0 (upL q (fun i9 => T.un (st + i9)) j)).2.1))), (qo, .inl (cB, 16392, .inl (penL s0 (upL q (fun i9 => T.un (st + i9)) j)).2.2))]) [0, 1] rfl
            have hDc := hD.sub (ws' := [(mo, .inr (13, MF 30 (nf v (penL s0 (upL q (fun i9 => T.un (st + i9)) j)).1 (penL s0 (upL q (fun i9 => T.un (st + i9)) j)).2.1))), (qo, .inl (cB, 16392, .inl (penL s0 (upL q (fun i9 => T.un (st + i9)) j)).2.2))]) [0, 1] (by decide) rfl
            have hKc := hK.sub (tys' := [(cB, .byte)]) [0] rfl
            have hFc := va_free (wc := [(mo, .inr (13, MF 30 (nf v (penL s0 (upL q (fun i9 => T.un (st + i9)) j)).1 (penL s0 (upL q (fun i9 => T.un (st + i9)) j)).2.1))), (qo, .inl (cB, 16392, .inl (penL s0 (upL q (fun i9 => T.un (st + i9)) j)).2.2))]) hD hS hA [0, 1] rfl
            refine va_callv (va_runV (As := [.int 92]) (rest := []) ⟨hx, hb, hml, hown, hts⟩ (c_Mo_pen l dC dI mo H v cB qo (penL s0 (upL q (fun i9 => T.un (st + i9)) j)) 92 (penL_le hk0 _) h10) (cwV 1 hts (gt_V (own := R_Mo) (C := R_Mo) (i := 239) (y := y_Mo_write) i_Mo_write w_1374 w_1376 (gt_sel (y := y_Mo_write) (n := 30) (by decide +kernel)) w_7) rfl rfl rfl (by decide +kernel) ⟨Nat.le_of_ble_eq_true rfl, Nat.le_of_ble_eq_true rfl⟩) ⟨mp_blind, va_recv hKc hPc (ci := 13) (q0 := 0) rfl rfl, fun U hU hW => ⟨rfl, hU, by rw [hU]; exact hPc, va_K.moved hW.alike hKc, hDc.weaken (fun _ _ _ _ => trivial)⟩⟩ rfl rfl hl.1 rfl (lv_room (Nat.le_of_ble_eq_true rfl)) d_Mo_units_101 ⟨Nat.le_of_ble_eq_true rfl, Nat.le_of_ble_eq_true rfl⟩) hS (fun q _ h => hFc q h) hFc (fun u2 t9 H1 locs ht hvm hw hB hz1 hk1 hS => ?_)
            obtain ⟨hP1, hK1, hD1⟩ := hB
            rw [ht] at hP1
            obtain ⟨hP, hD⟩ := va_join (wr := [(t, .inr (12, MF 13 (tw T))), (T.au, .inl (cC, T.U, .inl T.un))]) (w1 := [(mo, .inr (13, MF 30 (nf v u2.1 u2.2.1))), (qo, .inl (cB, 16392, .inl u2.2.2))]) hP hD [0, 1] [2, 3] rfl rfl (by decide) (by decide) hk1 hFc hP1 hD1
            generalize H1 = H at hP hS ⊢
            have hP : va_P (dC, dI) classes [(t, .inr (12, MF 13 (tw T))), (T.au, .inl (cC, T.U, .inl T.un)), (mo, .inr (13, MF 30 (nf v u2.1 u2.2.1))), (qo, .inl (cB, 16392, .inl u2.2.2))] H := hP
            have hD : va_D A [(t, .inr (12, MF 13 (tw T))), (T.au, .inl (cC, T.U, .inl T.un)), (mo, .inr (13, MF 30 (nf v u2.1 u2.2.1))), (qo, .inl (cB, 16392, .inl u2.2.2))] := hD
            have hP := hP.sub (ws' := [(mo, .inr (13, MF 30 (nf v u2.1 u2.2.1))), (qo, .inl (cB, 16392, .inl u2.2.2)), (t, .inr (12, MF 13 (tw T))), (T.au, .inl (cC, T.U, .inl T.un))]) [2, 3, 0, 1] rfl
            have hD := hD.sub (ws' := [(mo, .inr (13, MF 30 (nf v u2.1 u2.2.1))), (qo, .inl (cB, 16392, .inl u2.2.2)), (t, .inr (12, MF 13 (tw T))), (T.au, .inl (cC, T.U, .inl T.un))]) [2, 3, 0, 1] (by decide) rfl
            have hw : u2 = pen1 (penL s0 (upL q (fun i9 => T.un (st + i9)) j)) 92 := hw
            rw [penL_snoc] at hw
            subst hw
            have hP : va_P (dC, dI) classes [(mo, .inr (13, MF 30 (nf v (penL s0 (upL q (fun i9 => T.un (st + i9)) j ++ [92])).1 (penL s0 (upL q (fun i9 => T.un (st + i9)) j ++ [92])).2.1))), (qo, .inl (cB, 16392, .inl (penL s0 (upL q (fun i9 => T.un (st + i9)) j ++ [92])).2.2)), (t, .inr (12, MF 13 (tw T))), (T.au, .inl (cC, T.U, .inl T.un))] H := hP
            have hD : va_D A [(mo, .inr (13, MF 30 (nf v (penL s0 (upL q (fun i9 => T.un (st + i9)) j ++ [92])).1 (penL s0 (upL q (fun i9 => T.un (st + i9)) j ++ [92])).2.1))), (qo, .inl (cB, 16392, .inl (penL s0 (upL q (fun i9 => T.un (st + i9)) j ++ [92])).2.2)), (t, .inr (12, MF 13 (tw T))), (T.au, .inl (cC, T.U, .inl T.un))] := hD
            refine lv_aload_n hx hb d_Mo_units_104 rfl (lv_at hl 2 rfl) ?_
            refine lv_iload hx hb d_Mo_units_105 (lv_at hl 1 rfl) ?_
            have hPc := hP.sub (ws' := [(mo, .inr (13, MF 30 (nf v (penL s0 (upL q (fun i9 => T.un (st + i9)) j ++ [92])).1 (penL s0 (upL q (fun i9 => T.un (st + i9)) j ++ [92])).2.1))), (qo, .inl (cB, 16392, .inl (penL s0 (upL q (fun i9 => T.un (st + i9)) j ++ [92])).2.2))]) [0, 1] rfl
            have hDc := hD.sub (ws' := [(mo, .inr (13, MF 30 (nf v (penL s0 (upL q (fun i9 => T.un (st + i9)) j ++ [92])).1 (penL s0 (upL q (fun i9 => T.un (st + i9)) j ++ [92])).2.1))), (qo, .inl (cB, 16392, .inl (penL s0 (upL q (fun i9 => T.un (st + i9)) j ++ [92])).2.2))]) [0, 1] (by decide) rfl
            have hKc := hK.sub (tys' := [(cB, .byte)]) [0] rfl
            have hFc := va_free (wc := [(mo, .inr (13, MF 30 (nf v (penL s0 (upL q (fun i9 => T.un (st + i9)) j ++ [92])).1 (penL s0 (upL q (fun i9 => T.un (st + i9)) j ++ [92])).2.1))), (qo, .inl (cB, 16392, .inl (penL s0 (upL q (fun i9 => T.un (st + i9)) j ++ [92])).2.2))]) hD hS hA [0, 1] rfl
            refine va_callv (va_runV (As := [.int u9]) (rest := []) ⟨hx, hb, hml, hown, hts⟩ (c_Mo_pen l dC dI mo H v cB qo (penL s0 (upL q (fun i9 => T.un (st + i9)) j ++ [92])) u9 (penL_le hk0 _) h10) (cwV 1 hts (gt_V (own := R_Mo) (C := R_Mo) (i := 239) (y := y_Mo_write) i_Mo_write w_1374 w_1376 (gt_sel (y := y_Mo_write) (n := 30) (by decide +kernel)) w_7) rfl rfl rfl (by decide +kernel) ⟨Nat.le_of_ble_eq_true rfl, Nat.le_of_ble_eq_true rfl⟩) ⟨mp_blind, va_recv hKc hPc (ci := 13) (q0 := 0) rfl rfl, fun U hU hW => ⟨rfl, hU, by rw [hU]; exact hPc, va_K.moved hW.alike hKc, hDc.weaken (fun _ _ _ _ => trivial)⟩⟩ rfl rfl hl.1 rfl (lv_room (Nat.le_of_ble_eq_true rfl)) d_Mo_units_107 ⟨Nat.le_of_ble_eq_true rfl, Nat.le_of_ble_eq_true rfl⟩) hS (fun q _ h => hFc q h) hFc (fun u2 t9 H1 locs ht hvm hw hB hz1 hk1 hS => ?_)
            obtain ⟨hP1, hK1, hD1⟩ := hB
            rw [ht] at hP1
            obtain ⟨hP, hD⟩ := va_join (wr := [(t, .inr (12, MF 13 (tw T))), (T.au, .inl (cC, T.U, .inl T.un))]) (w1 := [(mo, .inr (13, MF 30 (nf v u2.1 u2.2.1))), (qo, .inl (cB, 16392, .inl u2.2.2))]) hP hD [0, 1] [2, 3] rfl rfl (by decide) (by decide) hk1 hFc hP1 hD1
            generalize H1 = H at hP hS ⊢
            have hP : va_P (dC, dI) classes [(t, .inr (12, MF 13 (tw T))), (T.au, .inl (cC, T.U, .inl T.un)), (mo, .inr (13, MF 30 (nf v u2.1 u2.2.1))), (qo, .inl (cB, 16392, .inl u2.2.2))] H := hP
            have hD : va_D A [(t, .inr (12, MF 13 (tw T))), (T.au, .inl (cC, T.U, .inl T.un)), (mo, .inr (13, MF 30 (nf v u2.1 u2.2.1))), (qo, .inl (cB, 16392, .inl u2.2.2))] := hD
            have hP := hP.sub (ws' := [(mo, .inr (13, MF 30 (nf v u2.1 u2.2.1))), (qo, .inl (cB, 16392, .inl u2.2.2)), (t, .inr (12, MF 13 (tw T))), (T.au, .inl (cC, T.U, .inl T.un))]) [2, 3, 0, 1] rfl
            have hD := hD.sub (ws' := [(mo, .inr (13, MF 30 (nf v u2.1 u2.2.1))), (qo, .inl (cB, 16392, .inl u2.2.2)), (t, .inr (12, MF 13 (tw T))), (T.au, .inl (cC, T.U, .inl T.un))]) [2, 3, 0, 1] (by decide) rfl
            have hw : u2 = pen1 (penL s0 (upL q (fun i9 => T.un (st + i9)) j ++ [92])) u9 := hw
            rw [penL_snoc] at hw
            subst hw
            have hP : va_P (dC, dI) classes [(mo, .inr (13, MF 30 (nf v (penL s0 (upL q (fun i9 => T.un (st + i9)) j ++ [92] ++ [u9])).1 (penL s0 (upL q (fun i9 => T.un (st + i9)) j ++ [92] ++ [u9])).2.1))), (qo, .inl (cB, 16392, .inl (penL s0 (upL q (fun i9 => T.un (st + i9)) j ++ [92] ++ [u9])).2.2)), (t, .inr (12, MF 13 (tw T))), (T.au, .inl (cC, T.U, .inl T.un))] H := hP
            have hD : va_D A [(mo, .inr (13, MF 30 (nf v (penL s0 (upL q (fun i9 => T.un (st + i9)) j ++ [92] ++ [u9])).1 (penL s0 (upL q (fun i9 => T.un (st + i9)) j ++ [92] ++ [u9])).2.1))), (qo, .inl (cB, 16392, .inl (penL s0 (upL q (fun i9 => T.un (st + i9)) j ++ [92] ++ [u9])).2.2)), (t, .inr (12, MF 13 (tw T))), (T.au, .inl (cC, T.U, .inl T.un))] := hD
            refine lv_goto (tgt := 199) hx hb d_Mo_units_110 (by decide) ?_
            refine lv_iinc (v := nI (st + (j + 1))) (lv' := [(5, .int (nI (st + (j + 1)))), (7, .int 2), (6, .int u9), (0, .ref mo), (1, .ref t), (2, .int (nI st)), (3, .int (nI ln)), (4, .int q)]) hx hb d_Mo_units_199 hl (k := 7) rfl (nI_1 (st + j)) (by decide) rfl (fun ls hl => ?_)
            refine lv_goto (tgt := 9) hx hb d_Mo_units_202 (by decide) ?_
            have hek : escK u9 = 2 := by unfold escK; rw [if_neg c30, if_neg c41, if_pos c52]
            have hun : upL q (fun i9 => T.un (st + i9)) (j + 1) = upL q (fun i9 => T.un (st + i9)) j ++ [92] ++ [u9] := by
              show upL q (fun i9 => T.un (st + i9)) j ++ unB q (T.un (st + j)) = _
              rw [← hu9]
              unfold unB
              rw [if_pos (Or.inl c88)]
              simp only [List.append_assoc, List.cons_append, List.nil_append]; first | done | rfl
            rw [← hun] at hP hD
            exact ih (j + 1) _ _ _ (by omega) (by show ln - (j + 1) < ln - j; omega) hP hD hS (lv_sub hl [3, 4, 5, 6, 7, 0] rfl)
          · refine lv_iload hx hb d_Mo_units_91 (lv_at hl 1 rfl) ?_
            refine lv_bipush (v := 92) hx hb d_Mo_units_93 (by decide) ?_
            refine lv_icmp_ne (tgt := 113) hx hb d_Mo_units_95 (by decide) (fun c95 => ?_) (fun c95 => ?_)
            · refine lv_iload hx hb d_Mo_units_113 (lv_at hl 0 rfl) ?_
              refine lv_if_lt (tgt := 138) hx hb d_Mo_units_115 (by decide) (fun h => absurd h (by decide)) (fun _ => ?_)
              refine lv_aload_n hx hb d_Mo_units_118 rfl (lv_at hl 2 rfl) ?_
              refine lv_bipush (v := 92) hx hb d_Mo_units_119 (by decide) ?_
              have hPc := hP.sub (ws' := [(mo, .inr (13, MF 30 (nf v (penL s0 (upL q (fun i9 => T.un (st + i9)) j)).1 (penL s0 (upL q (fun i9 => T.un (st + i9)) j)).2.1))), (qo, .inl (cB, 16392, .inl (penL s0 (upL q (fun i9 => T.un (st + i9)) j)).2.2))]) [0, 1] rfl
              have hDc := hD.sub (ws' := [(mo, .inr (13, MF 30 (nf v (penL s0 (upL q (fun i9 => T.un (st + i9)) j)).1 (penL s0 (upL q (fun i9 => T.un (st + i9)) j)).2.1))), (qo, .inl (cB, 16392, .inl (penL s0 (upL q (fun i9 => T.un (st + i9)) j)).2.2))]) [0, 1] (by decide) rfl
              have hKc := hK.sub (tys' := [(cB, .byte)]) [0] rfl
              have hFc := va_free (wc := [(mo, .inr (13, MF 30 (nf v (penL s0 (upL q (fun i9 => T.un (st + i9)) j)).1 (penL s0 (upL q (fun i9 => T.un (st + i9)) j)).2.1))), (qo, .inl (cB, 16392, .inl (penL s0 (upL q (fun i9 => T.un (st + i9)) j)).2.2))]) hD hS hA [0, 1] rfl
              refine va_callv (va_runV (As := [.int 92]) (rest := []) ⟨hx, hb, hml, hown, hts⟩ (c_Mo_pen l dC dI mo H v cB qo (penL s0 (upL q (fun i9 => T.un (st + i9)) j)) 92 (penL_le hk0 _) h10) (cwV 1 hts (gt_V (own := R_Mo) (C := R_Mo) (i := 239) (y := y_Mo_write) i_Mo_write w_1374 w_1376 (gt_sel (y := y_Mo_write) (n := 30) (by decide +kernel)) w_7) rfl rfl rfl (by decide +kernel) ⟨Nat.le_of_ble_eq_true rfl, Nat.le_of_ble_eq_true rfl⟩) ⟨mp_blind, va_recv hKc hPc (ci := 13) (q0 := 0) rfl rfl, fun U hU hW => ⟨rfl, hU, by rw [hU]; exact hPc, va_K.moved hW.alike hKc, hDc.weaken (fun _ _ _ _ => trivial)⟩⟩ rfl rfl hl.1 rfl (lv_room (Nat.le_of_ble_eq_true rfl)) d_Mo_units_121 ⟨Nat.le_of_ble_eq_true rfl, Nat.le_of_ble_eq_true rfl⟩) hS (fun q _ h => hFc q h) hFc (fun u2 t9 H1 locs ht hvm hw hB hz1 hk1 hS => ?_)
              obtain ⟨hP1, hK1, hD1⟩ := hB
              rw [ht] at hP1
              obtain ⟨hP, hD⟩ := va_join (wr := [(t, .inr (12, MF 13 (tw T))), (T.au, .inl (cC, T.U, .inl T.un))]) (w1 := [(mo, .inr (13, MF 30 (nf v u2.1 u2.2.1))), (qo, .inl (cB, 16392, .inl u2.2.2))]) hP hD [0, 1] [2, 3] rfl rfl (by decide) (by decide) hk1 hFc hP1 hD1
              generalize H1 = H at hP hS ⊢
              have hP : va_P (dC, dI) classes [(t, .inr (12, MF 13 (tw T))), (T.au, .inl (cC, T.U, .inl T.un)), (mo, .inr (13, MF 30 (nf v u2.1 u2.2.1))), (qo, .inl (cB, 16392, .inl u2.2.2))] H := hP
              have hD : va_D A [(t, .inr (12, MF 13 (tw T))), (T.au, .inl (cC, T.U, .inl T.un)), (mo, .inr (13, MF 30 (nf v u2.1 u2.2.1))), (qo, .inl (cB, 16392, .inl u2.2.2))] := hD
              have hP := hP.sub (ws' := [(mo, .inr (13, MF 30 (nf v u2.1 u2.2.1))), (qo, .inl (cB, 16392, .inl u2.2.2)), (t, .inr (12, MF 13 (tw T))), (T.au, .inl (cC, T.U, .inl T.un))]) [2, 3, 0, 1] rfl
              have hD := hD.sub (ws' := [(mo, .inr (13, MF 30 (nf v u2.1 u2.2.1))), (qo, .inl (cB, 16392, .inl u2.2.2)), (t, .inr (12, MF 13 (tw T))), (T.au, .inl (cC, T.U, .inl T.un))]) [2, 3, 0, 1] (by decide) rfl
              have hw : u2 = pen1 (penL s0 (upL q (fun i9 => T.un (st + i9)) j)) 92 := hw
              rw [penL_snoc] at hw
              subst hw
              have hP : va_P (dC, dI) classes [(mo, .inr (13, MF 30 (nf v (penL s0 (upL q (fun i9 => T.un (st + i9)) j ++ [92])).1 (penL s0 (upL q (fun i9 => T.un (st + i9)) j ++ [92])).2.1))), (qo, .inl (cB, 16392, .inl (penL s0 (upL q (fun i9 => T.un (st + i9)) j ++ [92])).2.2)), (t, .inr (12, MF 13 (tw T))), (T.au, .inl (cC, T.U, .inl T.un))] H := hP
              have hD : va_D A [(mo, .inr (13, MF 30 (nf v (penL s0 (upL q (fun i9 => T.un (st + i9)) j ++ [92])).1 (penL s0 (upL q (fun i9 => T.un (st + i9)) j ++ [92])).2.1))), (qo, .inl (cB, 16392, .inl (penL s0 (upL q (fun i9 => T.un (st + i9)) j ++ [92])).2.2)), (t, .inr (12, MF 13 (tw T))), (T.au, .inl (cC, T.U, .inl T.un))] := hD
              refine lv_aload_n hx hb d_Mo_units_124 rfl (lv_at hl 2 rfl) ?_
              refine va_ldcS hx hb hown (hM 4 _ rfl).2 d_Mo_units_125 ?_
              refine lv_iload hx hb d_Mo_units_127 (lv_at hl 0 rfl) ?_
              refine W.eq (g2 := F0 m 129 ls [.int (nI 2), .ref (K 4).1, .ref mo]) (by rw [show 2 = (nI 2) from (by decide)]) ?_
              have hE := (hM 4 _ rfl).1
              have hPc := hP.sub (ws' := []) [] rfl
              have hDc := hD.sub (ws' := []) [] (by decide) rfl
              have hKc := hK.sub (tys' := []) [] rfl
              have hFc := va_free (wc := []) hD hS hA [] rfl
              refine va_calli (va_runV (As := [.int (nI 2)]) (rest := [.ref mo]) ⟨hx, hb, hml, hown, hts⟩ (c_Str_charAt l dC dI H (K 4).1 (K 4).2 5 (mtx 4) 2 (by decide) (by decide)) (cwV 1 hts (gt_V (own := R_Mo) (C := R_Str) (i := 159) (y := y_Str_charAt) i_Str_charAt w_1245 w_466 w_467 w_18) rfl rfl rfl (by decide +kernel) ⟨Nat.le_of_ble_eq_true rfl, Nat.le_of_ble_eq_true rfl⟩) ⟨mstr_blind, (by obtain ⟨cell, h1, h2, h3, -⟩ := va_O.kept hE.1 hS.2.1; exact ⟨cell, h1, h2, h3⟩), fun U hU hW => ⟨rfl, ⟨hU, by rw [hU]; exact hPc, va_K.moved hW.alike hKc, hDc.weaken (fun _ _ _ _ => trivial)⟩, by rw [hU]; exact SX.moved' hW.alike (SX.narrow' (SX.kept' hE hS.2.1) hFc)⟩⟩ rfl rfl hl.1 rfl (lv_room (Nat.le_of_ble_eq_true rfl)) d_Mo_units_129 ⟨Nat.le_of_ble_eq_true rfl, Nat.le_of_ble_eq_true rfl⟩) hS (fun q _ h => hFc q h) hFc (fun r0 _u t9 H1 locs ht hvm hw hB hz1 hk1 hS => ?_)
              obtain ⟨hP1, hK1, hD1⟩ := hB
              rw [ht] at hP1
              obtain ⟨hP, hD⟩ := va_join (wr := [(mo, .inr (13, MF 30 (nf v (penL s0 (upL q (fun i9 => T.un (st + i9)) j ++ [92])).1 (penL s0 (upL q (fun i9 => T.un (st + i9)) j ++ [92])).2.1))), (qo, .inl (cB, 16392, .inl (penL s0 (upL q (fun i9 => T.un (st + i9)) j ++ [92])).2.2)), (t, .inr (12, MF 13 (tw T))), (T.au, .inl (cC, T.U, .inl T.un))]) (w1 := []) hP hD [] [0, 1, 2, 3] rfl rfl (by decide) (by decide) hk1 hFc hP1 hD1
              generalize H1 = H at hP hS ⊢
              have hP : va_P (dC, dI) classes [(mo, .inr (13, MF 30 (nf v (penL s0 (upL q (fun i9 => T.un (st + i9)) j ++ [92])).1 (penL s0 (upL q (fun i9 => T.un (st + i9)) j ++ [92])).2.1))), (qo, .inl (cB, 16392, .inl (penL s0 (upL q (fun i9 => T.un (st + i9)) j ++ [92])).2.2)), (t, .inr (12, MF 13 (tw T))), (T.au, .inl (cC, T.U, .inl T.un))] H := hP
              have hD : va_D A [(mo, .inr (13, MF 30 (nf v (penL s0 (upL q (fun i9 => T.un (st + i9)) j ++ [92])).1 (penL s0 (upL q (fun i9 => T.un (st + i9)) j ++ [92])).2.1))), (qo, .inl (cB, 16392, .inl (penL s0 (upL q (fun i9 => T.un (st + i9)) j ++ [92])).2.2)), (t, .inr (12, MF 13 (tw T))), (T.au, .inl (cC, T.U, .inl T.un))] := hD
              have hw : r0 = (mtx 4) 2 &&& 255 := hw
              subst hw
              have hPc := hP.sub (ws' := [(mo, .inr (13, MF 30 (nf v (penL s0 (upL q (fun i9 => T.un (st + i9)) j ++ [92])).1 (penL s0 (upL q (fun i9 => T.un (st + i9)) j ++ [92])).2.1))), (qo, .inl (cB, 16392, .inl (penL s0 (upL q (fun i9 => T.un (st + i9)) j ++ [92])).2.2))]) [0, 1] rfl
              have hDc := hD.sub (ws' := [(mo, .inr (13, MF 30 (nf v (penL s0 (upL q (fun i9 => T.un (st + i9)) j ++ [92])).1 (penL s0 (upL q (fun i9 => T.un (st + i9)) j ++ [92])).2.1))), (qo, .inl (cB, 16392, .inl (penL s0 (upL q (fun i9 => T.un (st + i9)) j ++ [92])).2.2))]) [0, 1] (by decide) rfl
              have hKc := hK.sub (tys' := [(cB, .byte)]) [0] rfl
              have hFc := va_free (wc := [(mo, .inr (13, MF 30 (nf v (penL s0 (upL q (fun i9 => T.un (st + i9)) j ++ [92])).1 (penL s0 (upL q (fun i9 => T.un (st + i9)) j ++ [92])).2.1))), (qo, .inl (cB, 16392, .inl (penL s0 (upL q (fun i9 => T.un (st + i9)) j ++ [92])).2.2))]) hD hS hA [0, 1] rfl
              refine va_callv (va_runV (As := [.int ((mtx 4) 2 &&& 255)]) (rest := []) ⟨hx, hb, hml, hown, hts⟩ (c_Mo_pen l dC dI mo H v cB qo (penL s0 (upL q (fun i9 => T.un (st + i9)) j ++ [92])) (((mtx 4) 2 &&& 255)) (penL_le hk0 _) h10) (cwV 1 hts (gt_V (own := R_Mo) (C := R_Mo) (i := 239) (y := y_Mo_write) i_Mo_write w_1374 w_1376 (gt_sel (y := y_Mo_write) (n := 30) (by decide +kernel)) w_7) rfl rfl rfl (by decide +kernel) ⟨Nat.le_of_ble_eq_true rfl, Nat.le_of_ble_eq_true rfl⟩) ⟨mp_blind, va_recv hKc hPc (ci := 13) (q0 := 0) rfl rfl, fun U hU hW => ⟨rfl, hU, by rw [hU]; exact hPc, va_K.moved hW.alike hKc, hDc.weaken (fun _ _ _ _ => trivial)⟩⟩ rfl rfl hl.1 rfl (lv_room (Nat.le_of_ble_eq_true rfl)) d_Mo_units_132 ⟨Nat.le_of_ble_eq_true rfl, Nat.le_of_ble_eq_true rfl⟩) hS (fun q _ h => hFc q h) hFc (fun u2 t9 H1 locs ht hvm hw hB hz1 hk1 hS => ?_)
              obtain ⟨hP1, hK1, hD1⟩ := hB
              rw [ht] at hP1
              obtain ⟨hP, hD⟩ := va_join (wr := [(t, .inr (12, MF 13 (tw T))), (T.au, .inl (cC, T.U, .inl T.un))]) (w1 := [(mo, .inr (13, MF 30 (nf v u2.1 u2.2.1))), (qo, .inl (cB, 16392, .inl u2.2.2))]) hP hD [0, 1] [2, 3] rfl rfl (by decide) (by decide) hk1 hFc hP1 hD1
              generalize H1 = H at hP hS ⊢
              have hP : va_P (dC, dI) classes [(t, .inr (12, MF 13 (tw T))), (T.au, .inl (cC, T.U, .inl T.un)), (mo, .inr (13, MF 30 (nf v u2.1 u2.2.1))), (qo, .inl (cB, 16392, .inl u2.2.2))] H := hP
              have hD : va_D A [(t, .inr (12, MF 13 (tw T))), (T.au, .inl (cC, T.U, .inl T.un)), (mo, .inr (13, MF 30 (nf v u2.1 u2.2.1))), (qo, .inl (cB, 16392, .inl u2.2.2))] := hD
              have hP := hP.sub (ws' := [(mo, .inr (13, MF 30 (nf v u2.1 u2.2.1))), (qo, .inl (cB, 16392, .inl u2.2.2)), (t, .inr (12, MF 13 (tw T))), (T.au, .inl (cC, T.U, .inl T.un))]) [2, 3, 0, 1] rfl
              have hD := hD.sub (ws' := [(mo, .inr (13, MF 30 (nf v u2.1 u2.2.1))), (qo, .inl (cB, 16392, .inl u2.2.2)), (t, .inr (12, MF 13 (tw T))), (T.au, .inl (cC, T.U, .inl T.un))]) [2, 3, 0, 1] (by decide) rfl
              have hw : u2 = pen1 (penL s0 (upL q (fun i9 => T.un (st + i9)) j ++ [92])) (((mtx 4) 2 &&& 255)) := hw
              rw [penL_snoc] at hw
              subst hw
              have hP : va_P (dC, dI) classes [(mo, .inr (13, MF 30 (nf v (penL s0 (upL q (fun i9 => T.un (st + i9)) j ++ [92] ++ [((mtx 4) 2 &&& 255)])).1 (penL s0 (upL q (fun i9 => T.un (st + i9)) j ++ [92] ++ [((mtx 4) 2 &&& 255)])).2.1))), (qo, .inl (cB, 16392, .inl (penL s0 (upL q (fun i9 => T.un (st + i9)) j ++ [92] ++ [((mtx 4) 2 &&& 255)])).2.2)), (t, .inr (12, MF 13 (tw T))), (T.au, .inl (cC, T.U, .inl T.un))] H := hP
              have hD : va_D A [(mo, .inr (13, MF 30 (nf v (penL s0 (upL q (fun i9 => T.un (st + i9)) j ++ [92] ++ [((mtx 4) 2 &&& 255)])).1 (penL s0 (upL q (fun i9 => T.un (st + i9)) j ++ [92] ++ [((mtx 4) 2 &&& 255)])).2.1))), (qo, .inl (cB, 16392, .inl (penL s0 (upL q (fun i9 => T.un (st + i9)) j ++ [92] ++ [((mtx 4) 2 &&& 255)])).2.2)), (t, .inr (12, MF 13 (tw T))), (T.au, .inl (cC, T.U, .inl T.un))] := hD
              refine lv_goto (tgt := 199) hx hb d_Mo_units_135 (by decide) ?_
              refine lv_iinc (v := nI (st + (j + 1))) (lv' := [(5, .int (nI (st + (j + 1)))), (7, .int 2), (6, .int u9), (0, .ref mo), (1, .ref t), (2, .int (nI st)), (3, .int (nI ln)), (4, .int q)]) hx hb d_Mo_units_199 hl (k := 7) rfl (nI_1 (st + j)) (by decide) rfl (fun ls hl => ?_)
              refine lv_goto (tgt := 9) hx hb d_Mo_units_202 (by decide) ?_
              have hek : escK u9 = 2 := by unfold escK; rw [if_neg c30, if_neg c41, if_pos c52]
              have hun : upL q (fun i9 => T.un (st + i9)) (j + 1) = upL q (fun i9 => T.un (st + i9)) j ++ [92] ++ [((mtx 4) 2 &&& 255)] := by
                show upL q (fun i9 => T.un (st + i9)) j ++ unB q (T.un (st + j)) = _
                rw [← hu9]
                unfold unB
                rw [if_neg (fun h => h.elim c88 c95), hek, if_pos (by decide)]
                simp only [List.append_assoc, List.cons_append, List.nil_append]; first | done | rfl
              rw [← hun] at hP hD
              exact ih (j + 1) _ _ _ (by omega) (by show ln - (j + 1) < ln - j; omega) hP hD hS (lv_sub hl [3, 4, 5, 6, 7, 0] rfl)
            · refine lv_aload_n hx hb d_Mo_units_98 rfl (lv_at hl 2 rfl) ?_
              refine lv_bipush (v := 92) hx hb d_Mo_units_99 (by decide) ?_
              have hPc := hP.sub (ws' := [(mo, .inr (13, MF 30 (nf v (penL s0 (upL q (fun i9 => T.un (st + i9)) j)).1 (penL s0 (upL q (fun i9 => T.un (st + i9)) j)).2.1))), (qo, .inl (cB, 16392, .inl (penL s0 (upL q (fun i9 => T.un (st + i9)) j)).2.2))]) [0, 1] rfl
              have hDc := hD.sub (ws' := [(mo, .inr (13, MF 30 (nf v (penL s0 (upL q (fun i9 => T.un (st + i9)) j)).1 (penL s0 (upL q (fun i9 => T.un (st + i9)) j)).2.1))), (qo, .inl (cB, 16392, .inl (penL s0 (upL q (fun i9 => T.un (st + i9)) j)).2.2))]) [0, 1] (by decide) rfl
              have hKc := hK.sub (tys' := [(cB, .byte)]) [0] rfl
              have hFc := va_free (wc := [(mo, .inr (13, MF 30 (nf v (penL s0 (upL q (fun i9 => T.un (st + i9)) j)).1 (penL s0 (upL q (fun i9 => T.un (st + i9)) j)).2.1))), (qo, .inl (cB, 16392, .inl (penL s0 (upL q (fun i9 => T.un (st + i9)) j)).2.2))]) hD hS hA [0, 1] rfl
              refine va_callv (va_runV (As := [.int 92]) (rest := []) ⟨hx, hb, hml, hown, hts⟩ (c_Mo_pen l dC dI mo H v cB qo (penL s0 (upL q (fun i9 => T.un (st + i9)) j)) 92 (penL_le hk0 _) h10) (cwV 1 hts (gt_V (own := R_Mo) (C := R_Mo) (i := 239) (y := y_Mo_write) i_Mo_write w_1374 w_1376 (gt_sel (y := y_Mo_write) (n := 30) (by decide +kernel)) w_7) rfl rfl rfl (by decide +kernel) ⟨Nat.le_of_ble_eq_true rfl, Nat.le_of_ble_eq_true rfl⟩) ⟨mp_blind, va_recv hKc hPc (ci := 13) (q0 := 0) rfl rfl, fun U hU hW => ⟨rfl, hU, by rw [hU]; exact hPc, va_K.moved hW.alike hKc, hDc.weaken (fun _ _ _ _ => trivial)⟩⟩ rfl rfl hl.1 rfl (lv_room (Nat.le_of_ble_eq_true rfl)) d_Mo_units_101 ⟨Nat.le_of_ble_eq_true rfl, Nat.le_of_ble_eq_true rfl⟩) hS (fun q _ h => hFc q h) hFc (fun u2 t9 H1 locs ht hvm hw hB hz1 hk1 hS => ?_)
              obtain ⟨hP1, hK1, hD1⟩ := hB
              rw [ht] at hP1
              obtain ⟨hP, hD⟩ := va_join (wr := [(t, .inr (12, MF 13 (tw T))), (T.au, .inl (cC, T.U, .inl T.un))]) (w1 := [(mo, .inr (13, MF 30 (nf v u2.1 u2.2.1))), (qo, .inl (cB, 16392, .inl u2.2.2))]) hP hD [0, 1] [2, 3] rfl rfl (by decide) (by decide) hk1 hFc hP1 hD1
              generalize H1 = H at hP hS ⊢
              have hP : va_P (dC, dI) classes [(t, .inr (12, MF 13 (tw T))), (T.au, .inl (cC, T.U, .inl T.un)), (mo, .inr (13, MF 30 (nf v u2.1 u2.2.1))), (qo, .inl (cB, 16392, .inl u2.2.2))] H := hP
              have hD : va_D A [(t, .inr (12, MF 13 (tw T))), (T.au, .inl (cC, T.U, .inl T.un)), (mo, .inr (13, MF 30 (nf v u2.1 u2.2.1))), (qo, .inl (cB, 16392, .inl u2.2.2))] := hD
              have hP := hP.sub (ws' := [(mo, .inr (13, MF 30 (nf v u2.1 u2.2.1))), (qo, .inl (cB, 16392, .inl u2.2.2)), (t, .inr (12, MF 13 (tw T))), (T.au, .inl (cC, T.U, .inl T.un))]) [2, 3, 0, 1] rfl
              have hD := hD.sub (ws' := [(mo, .inr (13, MF 30 (nf v u2.1 u2.2.1))), (qo, .inl (cB, 16392, .inl u2.2.2)), (t, .inr (12, MF 13 (tw T))), (T.au, .inl (cC, T.U, .inl T.un))]) [2, 3, 0, 1] (by decide) rfl
              have hw : u2 = pen1 (penL s0 (upL q (fun i9 => T.un (st + i9)) j)) 92 := hw
              rw [penL_snoc] at hw
              subst hw
              have hP : va_P (dC, dI) classes [(mo, .inr (13, MF 30 (nf v (penL s0 (upL q (fun i9 => T.un (st + i9)) j ++ [92])).1 (penL s0 (upL q (fun i9 => T.un (st + i9)) j ++ [92])).2.1))), (qo, .inl (cB, 16392, .inl (penL s0 (upL q (fun i9 => T.un (st + i9)) j ++ [92])).2.2)), (t, .inr (12, MF 13 (tw T))), (T.au, .inl (cC, T.U, .inl T.un))] H := hP
              have hD : va_D A [(mo, .inr (13, MF 30 (nf v (penL s0 (upL q (fun i9 => T.un (st + i9)) j ++ [92])).1 (penL s0 (upL q (fun i9 => T.un (st + i9)) j ++ [92])).2.1))), (qo, .inl (cB, 16392, .inl (penL s0 (upL q (fun i9 => T.un (st + i9)) j ++ [92])).2.2)), (t, .inr (12, MF 13 (tw T))), (T.au, .inl (cC, T.U, .inl T.un))] := hD
              refine lv_aload_n hx hb d_Mo_units_104 rfl (lv_at hl 2 rfl) ?_
              refine lv_iload hx hb d_Mo_units_105 (lv_at hl 1 rfl) ?_
              have hPc := hP.sub (ws' := [(mo, .inr (13, MF 30 (nf v (penL s0 (upL q (fun i9 => T.un (st + i9)) j ++ [92])).1 (penL s0 (upL q (fun i9 => T.un (st + i9)) j ++ [92])).2.1))), (qo, .inl (cB, 16392, .inl (penL s0 (upL q (fun i9 => T.un (st + i9)) j ++ [92])).2.2))]) [0, 1] rfl
              have hDc := hD.sub (ws' := [(mo, .inr (13, MF 30 (nf v (penL s0 (upL q (fun i9 => T.un (st + i9)) j ++ [92])).1 (penL s0 (upL q (fun i9 => T.un (st + i9)) j ++ [92])).2.1))), (qo, .inl (cB, 16392, .inl (penL s0 (upL q (fun i9 => T.un (st + i9)) j ++ [92])).2.2))]) [0, 1] (by decide) rfl
              have hKc := hK.sub (tys' := [(cB, .byte)]) [0] rfl
              have hFc := va_free (wc := [(mo, .inr (13, MF 30 (nf v (penL s0 (upL q (fun i9 => T.un (st + i9)) j ++ [92])).1 (penL s0 (upL q (fun i9 => T.un (st + i9)) j ++ [92])).2.1))), (qo, .inl (cB, 16392, .inl (penL s0 (upL q (fun i9 => T.un (st + i9)) j ++ [92])).2.2))]) hD hS hA [0, 1] rfl
              refine va_callv (va_runV (As := [.int u9]) (rest := []) ⟨hx, hb, hml, hown, hts⟩ (c_Mo_pen l dC dI mo H v cB qo (penL s0 (upL q (fun i9 => T.un (st + i9)) j ++ [92])) u9 (penL_le hk0 _) h10) (cwV 1 hts (gt_V (own := R_Mo) (C := R_Mo) (i := 239) (y := y_Mo_write) i_Mo_write w_1374 w_1376 (gt_sel (y := y_Mo_write) (n := 30) (by decide +kernel)) w_7) rfl rfl rfl (by decide +kernel) ⟨Nat.le_of_ble_eq_true rfl, Nat.le_of_ble_eq_true rfl⟩) ⟨mp_blind, va_recv hKc hPc (ci := 13) (q0 := 0) rfl rfl, fun U hU hW => ⟨rfl, hU, by rw [hU]; exact hPc, va_K.moved hW.alike hKc, hDc.weaken (fun _ _ _ _ => trivial)⟩⟩ rfl rfl hl.1 rfl (lv_room (Nat.le_of_ble_eq_true rfl)) d_Mo_units_107 ⟨Nat.le_of_ble_eq_true rfl, Nat.le_of_ble_eq_true rfl⟩) hS (fun q _ h => hFc q h) hFc (fun u2 t9 H1 locs ht hvm hw hB hz1 hk1 hS => ?_)
              obtain ⟨hP1, hK1, hD1⟩ := hB
              rw [ht] at hP1
              obtain ⟨hP, hD⟩ := va_join (wr := [(t, .inr (12, MF 13 (tw T))), (T.au, .inl (cC, T.U, .inl T.un))]) (w1 := [(mo, .inr (13, MF 30 (nf v u2.1 u2.2.1))), (qo, .inl (cB, 16392, .inl u2.2.2))]) hP hD [0, 1] [2, 3] rfl rfl (by decide) (by decide) hk1 hFc hP1 hD1
              generalize H1 = H at hP hS ⊢
              have hP : va_P (dC, dI) classes [(t, .inr (12, MF 13 (tw T))), (T.au, .inl (cC, T.U, .inl T.un)), (mo, .inr (13, MF 30 (nf v u2.1 u2.2.1))), (qo, .inl (cB, 16392, .inl u2.2.2))] H := hP
              have hD : va_D A [(t, .inr (12, MF 13 (tw T))), (T.au, .inl (cC, T.U, .inl T.un)), (mo, .inr (13, MF 30 (nf v u2.1 u2.2.1))), (qo, .inl (cB, 16392, .inl u2.2.2))] := hD
              have hP := hP.sub (ws' := [(mo, .inr (13, MF 30 (nf v u2.1 u2.2.1))), (qo, .inl (cB, 16392, .inl u2.2.2)), (t, .inr (12, MF 13 (tw T))), (T.au, .inl (cC, T.U, .inl T.un))]) [2, 3, 0, 1] rfl
              have hD := hD.sub (ws' := [(mo, .inr (13, MF 30 (nf v u2.1 u2.2.1))), (qo, .inl (cB, 16392, .inl u2.2.2)), (t, .inr (12, MF 13 (tw T))), (T.au, .inl (cC, T.U, .inl T.un))]) [2, 3, 0, 1] (by decide) rfl
              have hw : u2 = pen1 (penL s0 (upL q (fun i9 => T.un (st + i9)) j ++ [92])) u9 := hw
              rw [penL_snoc] at hw
              subst hw
              have hP : va_P (dC, dI) classes [(mo, .inr (13, MF 30 (nf v (penL s0 (upL q (fun i9 => T.un (st + i9)) j ++ [92] ++ [u9])).1 (penL s0 (upL q (fun i9 => T.un (st + i9)) j ++ [92] ++ [u9])).2.1))), (qo, .inl (cB, 16392, .inl (penL s0 (upL q (fun i9 => T.un (st + i9)) j ++ [92] ++ [u9])).2.2)), (t, .inr (12, MF 13 (tw T))), (T.au, .inl (cC, T.U, .inl T.un))] H := hP
              have hD : va_D A [(mo, .inr (13, MF 30 (nf v (penL s0 (upL q (fun i9 => T.un (st + i9)) j ++ [92] ++ [u9])).1 (penL s0 (upL q (fun i9 => T.un (st + i9)) j ++ [92] ++ [u9])).2.1))), (qo, .inl (cB, 16392, .inl (penL s0 (upL q (fun i9 => T.un (st + i9)) j ++ [92] ++ [u9])).2.2)), (t, .inr (12, MF 13 (tw T))), (T.au, .inl (cC, T.U, .inl T.un))] := hD
              refine lv_goto (tgt := 199) hx hb d_Mo_units_110 (by decide) ?_
              refine lv_iinc (v := nI (st + (j + 1))) (lv' := [(5, .int (nI (st + (j + 1)))), (7, .int 2), (6, .int u9), (0, .ref mo), (1, .ref t), (2, .int (nI st)), (3, .int (nI ln)), (4, .int q)]) hx hb d_Mo_units_199 hl (k := 7) rfl (nI_1 (st + j)) (by decide) rfl (fun ls hl => ?_)
              refine lv_goto (tgt := 9) hx hb d_Mo_units_202 (by decide) ?_
              have hek : escK u9 = 2 := by unfold escK; rw [if_neg c30, if_neg c41, if_pos c52]
              have hun : upL q (fun i9 => T.un (st + i9)) (j + 1) = upL q (fun i9 => T.un (st + i9)) j ++ [92] ++ [u9] := by
                show upL q (fun i9 => T.un (st + i9)) j ++ unB q (T.un (st + j)) = _
                rw [← hu9]
                unfold unB
                rw [if_pos (Or.inr c95)]
                simp only [List.append_assoc, List.cons_append, List.nil_append]; first | done | rfl
              rw [← hun] at hP hD
              exact ih (j + 1) _ _ _ (by omega) (by show ln - (j + 1) < ln - j; omega) hP hD hS (lv_sub hl [3, 4, 5, 6, 7, 0] rfl)
      · refine lv_iconst (v := 1) hx hb d_Mo_units_44 (by decide) ?_
        refine lv_goto (tgt := 82) hx hb d_Mo_units_45 (by decide) ?_
        refine lv_istore (lv' := [(7, .int 1), (6, .int u9), (0, .ref mo), (1, .ref t), (2, .int (nI st)), (3, .int (nI ln)), (4, .int q), (5, .int (nI (st + j)))]) hx hb d_Mo_units_82 hl (by decide) rfl (fun ls hl => ?_)
        refine lv_iload hx hb d_Mo_units_84 (lv_at hl 1 rfl) ?_
        refine lv_iload hx hb d_Mo_units_86 (lv_at hl 6 rfl) ?_
        refine lv_icmp_eq (tgt := 98) hx hb d_Mo_units_88 (by decide) (fun c88 => ?_) (fun c88 => ?_)
        · refine lv_aload_n hx hb d_Mo_units_98 rfl (lv_at hl 2 rfl) ?_
          refine lv_bipush (v := 92) hx hb d_Mo_units_99 (by decide) ?_
          have hPc := hP.sub (ws' := [(mo, .inr (13, MF 30 (nf v (penL s0 (upL q (fun i9 => T.un (st + i9)) j)).1 (penL s0 (upL q (fun i9 => T.un (st + i9)) j)).2.1))), (qo, .inl (cB, 16392, .inl (penL s0 (upL q (fun i9 => T.un (st + i9)) j)).2.2))]) [0, 1] rfl
          have hDc := hD.sub (ws' := [(mo, .inr (13, MF 30 (nf v (penL s0 (upL q (fun i9 => T.un (st + i9)) j)).1 (penL s0 (upL q (fun i9 => T.un (st + i9)) j)).2.1))), (qo, .inl (cB, 16392, .inl (penL s0 (upL q (fun i9 => T.un (st + i9)) j)).2.2))]) [0, 1] (by decide) rfl
          have hKc := hK.sub (tys' := [(cB, .byte)]) [0] rfl
          have hFc := va_free (wc := [(mo, .inr (13, MF 30 (nf v (penL s0 (upL q (fun i9 => T.un (st + i9)) j)).1 (penL s0 (upL q (fun i9 => T.un (st + i9)) j)).2.1))), (qo, .inl (cB, 16392, .inl (penL s0 (upL q (fun i9 => T.un (st + i9)) j)).2.2))]) hD hS hA [0, 1] rfl
          refine va_callv (va_runV (As := [.int 92]) (rest := []) ⟨hx, hb, hml, hown, hts⟩ (c_Mo_pen l dC dI mo H v cB qo (penL s0 (upL q (fun i9 => T.un (st + i9)) j)) 92 (penL_le hk0 _) h10) (cwV 1 hts (gt_V (own := R_Mo) (C := R_Mo) (i := 239) (y := y_Mo_write) i_Mo_write w_1374 w_1376 (gt_sel (y := y_Mo_write) (n := 30) (by decide +kernel)) w_7) rfl rfl rfl (by decide +kernel) ⟨Nat.le_of_ble_eq_true rfl, Nat.le_of_ble_eq_true rfl⟩) ⟨mp_blind, va_recv hKc hPc (ci := 13) (q0 := 0) rfl rfl, fun U hU hW => ⟨rfl, hU, by rw [hU]; exact hPc, va_K.moved hW.alike hKc, hDc.weaken (fun _ _ _ _ => trivial)⟩⟩ rfl rfl hl.1 rfl (lv_room (Nat.le_of_ble_eq_true rfl)) d_Mo_units_101 ⟨Nat.le_of_ble_eq_true rfl, Nat.le_of_ble_eq_true rfl⟩) hS (fun q _ h => hFc q h) hFc (fun u2 t9 H1 locs ht hvm hw hB hz1 hk1 hS => ?_)
          obtain ⟨hP1, hK1, hD1⟩ := hB
          rw [ht] at hP1
          obtain ⟨hP, hD⟩ := va_join (wr := [(t, .inr (12, MF 13 (tw T))), (T.au, .inl (cC, T.U, .inl T.un))]) (w1 := [(mo, .inr (13, MF 30 (nf v u2.1 u2.2.1))), (qo, .inl (cB, 16392, .inl u2.2.2))]) hP hD [0, 1] [2, 3] rfl rfl (by decide) (by decide) hk1 hFc hP1 hD1
          generalize H1 = H at hP hS ⊢
          have hP : va_P (dC, dI) classes [(t, .inr (12, MF 13 (tw T))), (T.au, .inl (cC, T.U, .inl T.un)), (mo, .inr (13, MF 30 (nf v u2.1 u2.2.1))), (qo, .inl (cB, 16392, .inl u2.2.2))] H := hP
          have hD : va_D A [(t, .inr (12, MF 13 (tw T))), (T.au, .inl (cC, T.U, .inl T.un)), (mo, .inr (13, MF 30 (nf v u2.1 u2.2.1))), (qo, .inl (cB, 16392, .inl u2.2.2))] := hD
          have hP := hP.sub (ws' := [(mo, .inr (13, MF 30 (nf v u2.1 u2.2.1))), (qo, .inl (cB, 16392, .inl u2.2.2)), (t, .inr (12, MF 13 (tw T))), (T.au, .inl (cC, T.U, .inl T.un))]) [2, 3, 0, 1] rfl
          have hD := hD.sub (ws' := [(mo, .inr (13, MF 30 (nf v u2.1 u2.2.1))), (qo, .inl (cB, 16392, .inl u2.2.2)), (t, .inr (12, MF 13 (tw T))), (T.au, .inl (cC, T.U, .inl T.un))]) [2, 3, 0, 1] (by decide) rfl
          have hw : u2 = pen1 (penL s0 (upL q (fun i9 => T.un (st + i9)) j)) 92 := hw
          rw [penL_snoc] at hw
          subst hw
          have hP : va_P (dC, dI) classes [(mo, .inr (13, MF 30 (nf v (penL s0 (upL q (fun i9 => T.un (st + i9)) j ++ [92])).1 (penL s0 (upL q (fun i9 => T.un (st + i9)) j ++ [92])).2.1))), (qo, .inl (cB, 16392, .inl (penL s0 (upL q (fun i9 => T.un (st + i9)) j ++ [92])).2.2)), (t, .inr (12, MF 13 (tw T))), (T.au, .inl (cC, T.U, .inl T.un))] H := hP
          have hD : va_D A [(mo, .inr (13, MF 30 (nf v (penL s0 (upL q (fun i9 => T.un (st + i9)) j ++ [92])).1 (penL s0 (upL q (fun i9 => T.un (st + i9)) j ++ [92])).2.1))), (qo, .inl (cB, 16392, .inl (penL s0 (upL q (fun i9 => T.un (st + i9)) j ++ [92])).2.2)), (t, .inr (12, MF 13 (tw T))), (T.au, .inl (cC, T.U, .inl T.un))] := hD
          refine lv_aload_n hx hb d_Mo_units_104 rfl (lv_at hl 2 rfl) ?_
          refine lv_iload hx hb d_Mo_units_105 (lv_at hl 1 rfl) ?_
          have hPc := hP.sub (ws' := [(mo, .inr (13, MF 30 (nf v (penL s0 (upL q (fun i9 => T.un (st + i9)) j ++ [92])).1 (penL s0 (upL q (fun i9 => T.un (st + i9)) j ++ [92])).2.1))), (qo, .inl (cB, 16392, .inl (penL s0 (upL q (fun i9 => T.un (st + i9)) j ++ [92])).2.2))]) [0, 1] rfl
          have hDc := hD.sub (ws' := [(mo, .inr (13, MF 30 (nf v (penL s0 (upL q (fun i9 => T.un (st + i9)) j ++ [92])).1 (penL s0 (upL q (fun i9 => T.un (st + i9)) j ++ [92])).2.1))), (qo, .inl (cB, 16392, .inl (penL s0 (upL q (fun i9 => T.un (st + i9)) j ++ [92])).2.2))]) [0, 1] (by decide) rfl
          have hKc := hK.sub (tys' := [(cB, .byte)]) [0] rfl
          have hFc := va_free (wc := [(mo, .inr (13, MF 30 (nf v (penL s0 (upL q (fun i9 => T.un (st + i9)) j ++ [92])).1 (penL s0 (upL q (fun i9 => T.un (st + i9)) j ++ [92])).2.1))), (qo, .inl (cB, 16392, .inl (penL s0 (upL q (fun i9 => T.un (st + i9)) j ++ [92])).2.2))]) hD hS hA [0, 1] rfl
          refine va_callv (va_runV (As := [.int u9]) (rest := []) ⟨hx, hb, hml, hown, hts⟩ (c_Mo_pen l dC dI mo H v cB qo (penL s0 (upL q (fun i9 => T.un (st + i9)) j ++ [92])) u9 (penL_le hk0 _) h10) (cwV 1 hts (gt_V (own := R_Mo) (C := R_Mo) (i := 239) (y := y_Mo_write) i_Mo_write w_1374 w_1376 (gt_sel (y := y_Mo_write) (n := 30) (by decide +kernel)) w_7) rfl rfl rfl (by decide +kernel) ⟨Nat.le_of_ble_eq_true rfl, Nat.le_of_ble_eq_true rfl⟩) ⟨mp_blind, va_recv hKc hPc (ci := 13) (q0 := 0) rfl rfl, fun U hU hW => ⟨rfl, hU, by rw [hU]; exact hPc, va_K.moved hW.alike hKc, hDc.weaken (fun _ _ _ _ => trivial)⟩⟩ rfl rfl hl.1 rfl (lv_room (Nat.le_of_ble_eq_true rfl)) d_Mo_units_107 ⟨Nat.le_of_ble_eq_true rfl, Nat.le_of_ble_eq_true rfl⟩) hS (fun q _ h => hFc q h) hFc (fun u2 t9 H1 locs ht hvm hw hB hz1 hk1 hS => ?_)
          obtain ⟨hP1, hK1, hD1⟩ := hB
          rw [ht] at hP1
          obtain ⟨hP, hD⟩ := va_join (wr := [(t, .inr (12, MF 13 (tw T))), (T.au, .inl (cC, T.U, .inl T.un))]) (w1 := [(mo, .inr (13, MF 30 (nf v u2.1 u2.2.1))), (qo, .inl (cB, 16392, .inl u2.2.2))]) hP hD [0, 1] [2, 3] rfl rfl (by decide) (by decide) hk1 hFc hP1 hD1
          generalize H1 = H at hP hS ⊢
          have hP : va_P (dC, dI) classes [(t, .inr (12, MF 13 (tw T))), (T.au, .inl (cC, T.U, .inl T.un)), (mo, .inr (13, MF 30 (nf v u2.1 u2.2.1))), (qo, .inl (cB, 16392, .inl u2.2.2))] H := hP
          have hD : va_D A [(t, .inr (12, MF 13 (tw T))), (T.au, .inl (cC, T.U, .inl T.un)), (mo, .inr (13, MF 30 (nf v u2.1 u2.2.1))), (qo, .inl (cB, 16392, .inl u2.2.2))] := hD
          have hP := hP.sub (ws' := [(mo, .inr (13, MF 30 (nf v u2.1 u2.2.1))), (qo, .inl (cB, 16392, .inl u2.2.2)), (t, .inr (12, MF 13 (tw T))), (T.au, .inl (cC, T.U, .inl T.un))]) [2, 3, 0, 1] rfl
          have hD := hD.sub (ws' := [(mo, .inr (13, MF 30 (nf v u2.1 u2.2.1))), (qo, .inl (cB, 16392, .inl u2.2.2)), (t, .inr (12, MF 13 (tw T))), (T.au, .inl (cC, T.U, .inl T.un))]) [2, 3, 0, 1] (by decide) rfl
          have hw : u2 = pen1 (penL s0 (upL q (fun i9 => T.un (st + i9)) j ++ [92])) u9 := hw
          rw [penL_snoc] at hw
          subst hw
          have hP : va_P (dC, dI) classes [(mo, .inr (13, MF 30 (nf v (penL s0 (upL q (fun i9 => T.un (st + i9)) j ++ [92] ++ [u9])).1 (penL s0 (upL q (fun i9 => T.un (st + i9)) j ++ [92] ++ [u9])).2.1))), (qo, .inl (cB, 16392, .inl (penL s0 (upL q (fun i9 => T.un (st + i9)) j ++ [92] ++ [u9])).2.2)), (t, .inr (12, MF 13 (tw T))), (T.au, .inl (cC, T.U, .inl T.un))] H := hP
          have hD : va_D A [(mo, .inr (13, MF 30 (nf v (penL s0 (upL q (fun i9 => T.un (st + i9)) j ++ [92] ++ [u9])).1 (penL s0 (upL q (fun i9 => T.un (st + i9)) j ++ [92] ++ [u9])).2.1))), (qo, .inl (cB, 16392, .inl (penL s0 (upL q (fun i9 => T.un (st + i9)) j ++ [92] ++ [u9])).2.2)), (t, .inr (12, MF 13 (tw T))), (T.au, .inl (cC, T.U, .inl T.un))] := hD
          refine lv_goto (tgt := 199) hx hb d_Mo_units_110 (by decide) ?_
          refine lv_iinc (v := nI (st + (j + 1))) (lv' := [(5, .int (nI (st + (j + 1)))), (7, .int 1), (6, .int u9), (0, .ref mo), (1, .ref t), (2, .int (nI st)), (3, .int (nI ln)), (4, .int q)]) hx hb d_Mo_units_199 hl (k := 7) rfl (nI_1 (st + j)) (by decide) rfl (fun ls hl => ?_)
          refine lv_goto (tgt := 9) hx hb d_Mo_units_202 (by decide) ?_
          have hek : escK u9 = 1 := by unfold escK; rw [if_neg c30, if_pos c41]
          have hun : upL q (fun i9 => T.un (st + i9)) (j + 1) = upL q (fun i9 => T.un (st + i9)) j ++ [92] ++ [u9] := by
            show upL q (fun i9 => T.un (st + i9)) j ++ unB q (T.un (st + j)) = _
            rw [← hu9]
            unfold unB
            rw [if_pos (Or.inl c88)]
            simp only [List.append_assoc, List.cons_append, List.nil_append]; first | done | rfl
          rw [← hun] at hP hD
          exact ih (j + 1) _ _ _ (by omega) (by show ln - (j + 1) < ln - j; omega) hP hD hS (lv_sub hl [3, 4, 5, 6, 7, 0] rfl)
        · refine lv_iload hx hb d_Mo_units_91 (lv_at hl 1 rfl) ?_
          refine lv_bipush (v := 92) hx hb d_Mo_units_93 (by decide) ?_
          refine lv_icmp_ne (tgt := 113) hx hb d_Mo_units_95 (by decide) (fun c95 => ?_) (fun c95 => ?_)
          · refine lv_iload hx hb d_Mo_units_113 (lv_at hl 0 rfl) ?_
            refine lv_if_lt (tgt := 138) hx hb d_Mo_units_115 (by decide) (fun h => absurd h (by decide)) (fun _ => ?_)
            refine lv_aload_n hx hb d_Mo_units_118 rfl (lv_at hl 2 rfl) ?_
            refine lv_bipush (v := 92) hx hb d_Mo_units_119 (by decide) ?_
            have hPc := hP.sub (ws' := [(mo, .inr (13, MF 30 (nf v (penL s0 (upL q (fun i9 => T.un (st + i9)) j)).1 (penL s0 (upL q (fun i9 => T.un (st + i9)) j)).2.1))), (qo, .inl (cB, 16392, .inl (penL s0 (upL q (fun i9 => T.un (st + i9)) j)).2.2))]) [0, 1] rfl
            have hDc := hD.sub (ws' := [(mo, .inr (13, MF 30 (nf v (penL s0 (upL q (fun i9 => T.un (st + i9)) j)).1 (penL s0 (upL q (fun i9 => T.un (st + i9)) j)).2.1))), (qo, .inl (cB, 16392, .inl (penL s0 (upL q (fun i9 => T.un (st + i9)) j)).2.2))]) [0, 1] (by decide) rfl
            have hKc := hK.sub (tys' := [(cB, .byte)]) [0] rfl
            have hFc := va_free (wc := [(mo, .inr (13, MF 30 (nf v (penL s0 (upL q (fun i9 => T.un (st + i9)) j)).1 (penL s0 (upL q (fun i9 => T.un (st + i9)) j)).2.1))), (qo, .inl (cB, 16392, .inl (penL s0 (upL q (fun i9 => T.un (st + i9)) j)).2.2))]) hD hS hA [0, 1] rfl
            refine va_callv (va_runV (As := [.int 92]) (rest := []) ⟨hx, hb, hml, hown, hts⟩ (c_Mo_pen l dC dI mo H v cB qo (penL s0 (upL q (fun i9 => T.un (st + i9)) j)) 92 (penL_le hk0 _) h10) (cwV 1 hts (gt_V (own := R_Mo) (C := R_Mo) (i := 239) (y := y_Mo_write) i_Mo_write w_1374 w_1376 (gt_sel (y := y_Mo_write) (n := 30) (by decide +kernel)) w_7) rfl rfl rfl (by decide +kernel) ⟨Nat.le_of_ble_eq_true rfl, Nat.le_of_ble_eq_true rfl⟩) ⟨mp_blind, va_recv hKc hPc (ci := 13) (q0 := 0) rfl rfl, fun U hU hW => ⟨rfl, hU, by rw [hU]; exact hPc, va_K.moved hW.alike hKc, hDc.weaken (fun _ _ _ _ => trivial)⟩⟩ rfl rfl hl.1 rfl (lv_room (Nat.le_of_ble_eq_true rfl)) d_Mo_units_121 ⟨Nat.le_of_ble_eq_true rfl, Nat.le_of_ble_eq_true rfl⟩) hS (fun q _ h => hFc q h) hFc (fun u2 t9 H1 locs ht hvm hw hB hz1 hk1 hS => ?_)
            obtain ⟨hP1, hK1, hD1⟩ := hB
            rw [ht] at hP1
            obtain ⟨hP, hD⟩ := va_join (wr := [(t, .inr (12, MF 13 (tw T))), (T.au, .inl (cC, T.U, .inl T.un))]) (w1 := [(mo, .inr (13, MF 30 (nf v u2.1 u2.2.1))), (qo, .inl (cB, 16392, .inl u2.2.2))]) hP hD [0, 1] [2, 3] rfl rfl (by decide) (by decide) hk1 hFc hP1 hD1
            generalize H1 = H at hP hS ⊢
            have hP : va_P (dC, dI) classes [(t, .inr (12, MF 13 (tw T))), (T.au, .inl (cC, T.U, .inl T.un)), (mo, .inr (13, MF 30 (nf v u2.1 u2.2.1))), (qo, .inl (cB, 16392, .inl u2.2.2))] H := hP
            have hD : va_D A [(t, .inr (12, MF 13 (tw T))), (T.au, .inl (cC, T.U, .inl T.un)), (mo, .inr (13, MF 30 (nf v u2.1 u2.2.1))), (qo, .inl (cB, 16392, .inl u2.2.2))] := hD
            have hP := hP.sub (ws' := [(mo, .inr (13, MF 30 (nf v u2.1 u2.2.1))), (qo, .inl (cB, 16392, .inl u2.2.2)), (t, .inr (12, MF 13 (tw T))), (T.au, .inl (cC, T.U, .inl T.un))]) [2, 3, 0, 1] rfl
            have hD := hD.sub (ws' := [(mo, .inr (13, MF 30 (nf v u2.1 u2.2.1))), (qo, .inl (cB, 16392, .inl u2.2.2)), (t, .inr (12, MF 13 (tw T))), (T.au, .inl (cC, T.U, .inl T.un))]) [2, 3, 0, 1] (by decide) rfl
            have hw : u2 = pen1 (penL s0 (upL q (fun i9 => T.un (st + i9)) j)) 92 := hw
            rw [penL_snoc] at hw
            subst hw
            have hP : va_P (dC, dI) classes [(mo, .inr (13, MF 30 (nf v (penL s0 (upL q (fun i9 => T.un (st + i9)) j ++ [92])).1 (penL s0 (upL q (fun i9 => T.un (st + i9)) j ++ [92])).2.1))), (qo, .inl (cB, 16392, .inl (penL s0 (upL q (fun i9 => T.un (st + i9)) j ++ [92])).2.2)), (t, .inr (12, MF 13 (tw T))), (T.au, .inl (cC, T.U, .inl T.un))] H := hP
            have hD : va_D A [(mo, .inr (13, MF 30 (nf v (penL s0 (upL q (fun i9 => T.un (st + i9)) j ++ [92])).1 (penL s0 (upL q (fun i9 => T.un (st + i9)) j ++ [92])).2.1))), (qo, .inl (cB, 16392, .inl (penL s0 (upL q (fun i9 => T.un (st + i9)) j ++ [92])).2.2)), (t, .inr (12, MF 13 (tw T))), (T.au, .inl (cC, T.U, .inl T.un))] := hD
            refine lv_aload_n hx hb d_Mo_units_124 rfl (lv_at hl 2 rfl) ?_
            refine va_ldcS hx hb hown (hM 4 _ rfl).2 d_Mo_units_125 ?_
            refine lv_iload hx hb d_Mo_units_127 (lv_at hl 0 rfl) ?_
            refine W.eq (g2 := F0 m 129 ls [.int (nI 1), .ref (K 4).1, .ref mo]) (by rw [show 1 = (nI 1) from (by decide)]) ?_
            have hE := (hM 4 _ rfl).1
            have hPc := hP.sub (ws' := []) [] rfl
            have hDc := hD.sub (ws' := []) [] (by decide) rfl
            have hKc := hK.sub (tys' := []) [] rfl
            have hFc := va_free (wc := []) hD hS hA [] rfl
            refine va_calli (va_runV (As := [.int (nI 1)]) (rest := [.ref mo]) ⟨hx, hb, hml, hown, hts⟩ (c_Str_charAt l dC dI H (K 4).1 (K 4).2 5 (mtx 4) 1 (by decide) (by decide)) (cwV 1 hts (gt_V (own := R_Mo) (C := R_Str) (i := 159) (y := y_Str_charAt) i_Str_charAt w_1245 w_466 w_467 w_18) rfl rfl rfl (by decide +kernel) ⟨Nat.le_of_ble_eq_true rfl, Nat.le_of_ble_eq_true rfl⟩) ⟨mstr_blind, (by obtain ⟨cell, h1, h2, h3, -⟩ := va_O.kept hE.1 hS.2.1; exact ⟨cell, h1, h2, h3⟩), fun U hU hW => ⟨rfl, ⟨hU, by rw [hU]; exact hPc, va_K.moved hW.alike hKc, hDc.weaken (fun _ _ _ _ => trivial)⟩, by rw [hU]; exact SX.moved' hW.alike (SX.narrow' (SX.kept' hE hS.2.1) hFc)⟩⟩ rfl rfl hl.1 rfl (lv_room (Nat.le_of_ble_eq_true rfl)) d_Mo_units_129 ⟨Nat.le_of_ble_eq_true rfl, Nat.le_of_ble_eq_true rfl⟩) hS (fun q _ h => hFc q h) hFc (fun r0 _u t9 H1 locs ht hvm hw hB hz1 hk1 hS => ?_)
            obtain ⟨hP1, hK1, hD1⟩ := hB
            rw [ht] at hP1
            obtain ⟨hP, hD⟩ := va_join (wr := [(mo, .inr (13, MF 30 (nf v (penL s0 (upL q (fun i9 => T.un (st + i9)) j ++ [92])).1 (penL s0 (upL q (fun i9 => T.un (st + i9)) j ++ [92])).2.1))), (qo, .inl (cB, 16392, .inl (penL s0 (upL q (fun i9 => T.un (st + i9)) j ++ [92])).2.2)), (t, .inr (12, MF 13 (tw T))), (T.au, .inl (cC, T.U, .inl T.un))]) (w1 := []) hP hD [] [0, 1, 2, 3] rfl rfl (by decide) (by decide) hk1 hFc hP1 hD1
            generalize H1 = H at hP hS ⊢
            have hP : va_P (dC, dI) classes [(mo, .inr (13, MF 30 (nf v (penL s0 (upL q (fun i9 => T.un (st + i9)) j ++ [92])).1 (penL s0 (upL q (fun i9 => T.un (st + i9)) j ++ [92])).2.1))), (qo, .inl (cB, 16392, .inl (penL s0 (upL q (fun i9 => T.un (st + i9)) j ++ [92])).2.2)), (t, .inr (12, MF 13 (tw T))), (T.au, .inl (cC, T.U, .inl T.un))] H := hP
            have hD : va_D A [(mo, .inr (13, MF 30 (nf v (penL s0 (upL q (fun i9 => T.un (st + i9)) j ++ [92])).1 (penL s0 (upL q (fun i9 => T.un (st + i9)) j ++ [92])).2.1))), (qo, .inl (cB, 16392, .inl (penL s0 (upL q (fun i9 => T.un (st + i9)) j ++ [92])).2.2)), (t, .inr (12, MF 13 (tw T))), (T.au, .inl (cC, T.U, .inl T.un))] := hD
            have hw : r0 = (mtx 4) 1 &&& 255 := hw
            subst hw
            have hPc := hP.sub (ws' := [(mo, .inr (13, MF 30 (nf v (penL s0 (upL q (fun i9 => T.un (st + i9)) j ++ [92])).1 (penL s0 (upL q (fun i9 => T.un (st + i9)) j ++ [92])).2.1))), (qo, .inl (cB, 16392, .inl (penL s0 (upL q (fun i9 => T.un (st + i9)) j ++ [92])).2.2))]) [0, 1] rfl
            have hDc := hD.sub (ws' := [(mo, .inr (13, MF 30 (nf v (penL s0 (upL q (fun i9 => T.un (st + i9)) j ++ [92])).1 (penL s0 (upL q (fun i9 => T.un (st + i9)) j ++ [92])).2.1))), (qo, .inl (cB, 16392, .inl (penL s0 (upL q (fun i9 => T.un (st + i9)) j ++ [92])).2.2))]) [0, 1] (by decide) rfl
            have hKc := hK.sub (tys' := [(cB, .byte)]) [0] rfl
            have hFc := va_free (wc := [(mo, .inr (13, MF 30 (nf v (penL s0 (upL q (fun i9 => T.un (st + i9)) j ++ [92])).1 (penL s0 (upL q (fun i9 => T.un (st + i9)) j ++ [92])).2.1))), (qo, .inl (cB, 16392, .inl (penL s0 (upL q (fun i9 => T.un (st + i9)) j ++ [92])).2.2))]) hD hS hA [0, 1] rfl
            refine va_callv (va_runV (As := [.int ((mtx 4) 1 &&& 255)]) (rest := []) ⟨hx, hb, hml, hown, hts⟩ (c_Mo_pen l dC dI mo H v cB qo (penL s0 (upL q (fun i9 => T.un (st + i9)) j ++ [92])) (((mtx 4) 1 &&& 255)) (penL_le hk0 _) h10) (cwV 1 hts (gt_V (own := R_Mo) (C := R_Mo) (i := 239) (y := y_Mo_write) i_Mo_write w_1374 w_1376 (gt_sel (y := y_Mo_write) (n := 30) (by decide +kernel)) w_7) rfl rfl rfl (by decide +kernel) ⟨Nat.le_of_ble_eq_true rfl, Nat.le_of_ble_eq_true rfl⟩) ⟨mp_blind, va_recv hKc hPc (ci := 13) (q0 := 0) rfl rfl, fun U hU hW => ⟨rfl, hU, by rw [hU]; exact hPc, va_K.moved hW.alike hKc, hDc.weaken (fun _ _ _ _ => trivial)⟩⟩ rfl rfl hl.1 rfl (lv_room (Nat.le_of_ble_eq_true rfl)) d_Mo_units_132 ⟨Nat.le_of_ble_eq_true rfl, Nat.le_of_ble_eq_true rfl⟩) hS (fun q _ h => hFc q h) hFc (fun u2 t9 H1 locs ht hvm hw hB hz1 hk1 hS => ?_)
            obtain ⟨hP1, hK1, hD1⟩ := hB
            rw [ht] at hP1
            obtain ⟨hP, hD⟩ := va_join (wr := [(t, .inr (12, MF 13 (tw T))), (T.au, .inl (cC, T.U, .inl T.un))]) (w1 := [(mo, .inr (13, MF 30 (nf v u2.1 u2.2.1))), (qo, .inl (cB, 16392, .inl u2.2.2))]) hP hD [0, 1] [2, 3] rfl rfl (by decide) (by decide) hk1 hFc hP1 hD1
            generalize H1 = H at hP hS ⊢
            have hP : va_P (dC, dI) classes [(t, .inr (12, MF 13 (tw T))), (T.au, .inl (cC, T.U, .inl T.un)), (mo, .inr (13, MF 30 (nf v u2.1 u2.2.1))), (qo, .inl (cB, 16392, .inl u2.2.2))] H := hP
            have hD : va_D A [(t, .inr (12, MF 13 (tw T))), (T.au, .inl (cC, T.U, .inl T.un)), (mo, .inr (13, MF 30 (nf v u2.1 u2.2.1))), (qo, .inl (cB, 16392, .inl u2.2.2))] := hD
            have hP := hP.sub (ws' := [(mo, .inr (13, MF 30 (nf v u2.1 u2.2.1))), (qo, .inl (cB, 16392, .inl u2.2.2)), (t, .inr (12, MF 13 (tw T))), (T.au, .inl (cC, T.U, .inl T.un))]) [2, 3, 0, 1] rfl
            have hD := hD.sub (ws' := [(mo, .inr (13, MF 30 (nf v u2.1 u2.2.1))), (qo, .inl (cB, 16392, .inl u2.2.2)), (t, .inr (12, MF 13 (tw T))), (T.au, .inl (cC, T.U, .inl T.un))]) [2, 3, 0, 1] (by decide) rfl
            have hw : u2 = pen1 (penL s0 (upL q (fun i9 => T.un (st + i9)) j ++ [92])) (((mtx 4) 1 &&& 255)) := hw
            rw [penL_snoc] at hw
            subst hw
            have hP : va_P (dC, dI) classes [(mo, .inr (13, MF 30 (nf v (penL s0 (upL q (fun i9 => T.un (st + i9)) j ++ [92] ++ [((mtx 4) 1 &&& 255)])).1 (penL s0 (upL q (fun i9 => T.un (st + i9)) j ++ [92] ++ [((mtx 4) 1 &&& 255)])).2.1))), (qo, .inl (cB, 16392, .inl (penL s0 (upL q (fun i9 => T.un (st + i9)) j ++ [92] ++ [((mtx 4) 1 &&& 255)])).2.2)), (t, .inr (12, MF 13 (tw T))), (T.au, .inl (cC, T.U, .inl T.un))] H := hP
            have hD : va_D A [(mo, .inr (13, MF 30 (nf v (penL s0 (upL q (fun i9 => T.un (st + i9)) j ++ [92] ++ [((mtx 4) 1 &&& 255)])).1 (penL s0 (upL q (fun i9 => T.un (st + i9)) j ++ [92] ++ [((mtx 4) 1 &&& 255)])).2.1))), (qo, .inl (cB, 16392, .inl (penL s0 (upL q (fun i9 => T.un (st + i9)) j ++ [92] ++ [((mtx 4) 1 &&& 255)])).2.2)), (t, .inr (12, MF 13 (tw T))), (T.au, .inl (cC, T.U, .inl T.un))] := hD
            refine lv_goto (tgt := 199) hx hb d_Mo_units_135 (by decide) ?_
            refine lv_iinc (v := nI (st + (j + 1))) (lv' := [(5, .int (nI (st + (j + 1)))), (7, .int 1), (6, .int u9), (0, .ref mo), (1, .ref t), (2, .int (nI st)), (3, .int (nI ln)), (4, .int q)]) hx hb d_Mo_units_199 hl (k := 7) rfl (nI_1 (st + j)) (by decide) rfl (fun ls hl => ?_)
            refine lv_goto (tgt := 9) hx hb d_Mo_units_202 (by decide) ?_
            have hek : escK u9 = 1 := by unfold escK; rw [if_neg c30, if_pos c41]
            have hun : upL q (fun i9 => T.un (st + i9)) (j + 1) = upL q (fun i9 => T.un (st + i9)) j ++ [92] ++ [((mtx 4) 1 &&& 255)] := by
              show upL q (fun i9 => T.un (st + i9)) j ++ unB q (T.un (st + j)) = _
              rw [← hu9]
              unfold unB
              rw [if_neg (fun h => h.elim c88 c95), hek, if_pos (by decide)]
              simp only [List.append_assoc, List.cons_append, List.nil_append]; first | done | rfl
            rw [← hun] at hP hD
            exact ih (j + 1) _ _ _ (by omega) (by show ln - (j + 1) < ln - j; omega) hP hD hS (lv_sub hl [3, 4, 5, 6, 7, 0] rfl)
          · refine lv_aload_n hx hb d_Mo_units_98 rfl (lv_at hl 2 rfl) ?_
            refine lv_bipush (v := 92) hx hb d_Mo_units_99 (by decide) ?_
            have hPc := hP.sub (ws' := [(mo, .inr (13, MF 30 (nf v (penL s0 (upL q (fun i9 => T.un (st + i9)) j)).1 (penL s0 (upL q (fun i9 => T.un (st + i9)) j)).2.1))), (qo, .inl (cB, 16392, .inl (penL s0 (upL q (fun i9 => T.un (st + i9)) j)).2.2))]) [0, 1] rfl
            have hDc := hD.sub (ws' := [(mo, .inr (13, MF 30 (nf v (penL s0 (upL q (fun i9 => T.un (st + i9)) j)).1 (penL s0 (upL q (fun i9 => T.un (st + i9)) j)).2.1))), (qo, .inl (cB, 16392, .inl (penL s0 (upL q (fun i9 => T.un (st + i9)) j)).2.2))]) [0, 1] (by decide) rfl
            have hKc := hK.sub (tys' := [(cB, .byte)]) [0] rfl
            have hFc := va_free (wc := [(mo, .inr (13, MF 30 (nf v (penL s0 (upL q (fun i9 => T.un (st + i9)) j)).1 (penL s0 (upL q (fun i9 => T.un (st + i9)) j)).2.1))), (qo, .inl (cB, 16392, .inl (penL s0 (upL q (fun i9 => T.un (st + i9)) j)).2.2))]) hD hS hA [0, 1] rfl
            refine va_callv (va_runV (As := [.int 92]) (rest := []) ⟨hx, hb, hml, hown, hts⟩ (c_Mo_pen l dC dI mo H v cB qo (penL s0 (upL q (fun i9 => T.un (st + i9)) j)) 92 (penL_le hk0 _) h10) (cwV 1 hts (gt_V (own := R_Mo) (C := R_Mo) (i := 239) (y := y_Mo_write) i_Mo_write w_1374 w_1376 (gt_sel (y := y_Mo_write) (n := 30) (by decide +kernel)) w_7) rfl rfl rfl (by decide +kernel) ⟨Nat.le_of_ble_eq_true rfl, Nat.le_of_ble_eq_true rfl⟩) ⟨mp_blind, va_recv hKc hPc (ci := 13) (q0 := 0) rfl rfl, fun U hU hW => ⟨rfl, hU, by rw [hU]; exact hPc, va_K.moved hW.alike hKc, hDc.weaken (fun _ _ _ _ => trivial)⟩⟩ rfl rfl hl.1 rfl (lv_room (Nat.le_of_ble_eq_true rfl)) d_Mo_units_101 ⟨Nat.le_of_ble_eq_true rfl, Nat.le_of_ble_eq_true rfl⟩) hS (fun q _ h => hFc q h) hFc (fun u2 t9 H1 locs ht hvm hw hB hz1 hk1 hS => ?_)
            obtain ⟨hP1, hK1, hD1⟩ := hB
            rw [ht] at hP1
            obtain ⟨hP, hD⟩ := va_join (wr := [(t, .inr (12, MF 13 (tw T))), (T.au, .inl (cC, T.U, .inl T.un))]) (w1 := [(mo, .inr (13, MF 30 (nf v u2.1 u2.2.1))), (qo, .inl (cB, 16392, .inl u2.2.2))]) hP hD [0, 1] [2, 3] rfl rfl (by decide) (by decide) hk1 hFc hP1 hD1
            generalize H1 = H at hP hS ⊢
            have hP : va_P (dC, dI) classes [(t, .inr (12, MF 13 (tw T))), (T.au, .inl (cC, T.U, .inl T.un)), (mo, .inr (13, MF 30 (nf v u2.1 u2.2.1))), (qo, .inl (cB, 16392, .inl u2.2.2))] H := hP
            have hD : va_D A [(t, .inr (12, MF 13 (tw T))), (T.au, .inl (cC, T.U, .inl T.un)), (mo, .inr (13, MF 30 (nf v u2.1 u2.2.1))), (qo, .inl (cB, 16392, .inl u2.2.2))] := hD
            have hP := hP.sub (ws' := [(mo, .inr (13, MF 30 (nf v u2.1 u2.2.1))), (qo, .inl (cB, 16392, .inl u2.2.2)), (t, .inr (12, MF 13 (tw T))), (T.au, .inl (cC, T.U, .inl T.un))]) [2, 3, 0, 1] rfl
            have hD := hD.sub (ws' := [(mo, .inr (13, MF 30 (nf v u2.1 u2.2.1))), (qo, .inl (cB, 16392, .inl u2.2.2)), (t, .inr (12, MF 13 (tw T))), (T.au, .inl (cC, T.U, .inl T.un))]) [2, 3, 0, 1] (by decide) rfl
            have hw : u2 = pen1 (penL s0 (upL q (fun i9 => T.un (st + i9)) j)) 92 := hw
            rw [penL_snoc] at hw
            subst hw
            have hP : va_P (dC, dI) classes [(mo, .inr (13, MF 30 (nf v (penL s0 (upL q (fun i9 => T.un (st + i9)) j ++ [92])).1 (penL s0 (upL q (fun i9 => T.un (st + i9)) j ++ [92])).2.1))), (qo, .inl (cB, 16392, .inl (penL s0 (upL q (fun i9 => T.un (st + i9)) j ++ [92])).2.2)), (t, .inr (12, MF 13 (tw T))), (T.au, .inl (cC, T.U, .inl T.un))] H := hP
            have hD : va_D A [(mo, .inr (13, MF 30 (nf v (penL s0 (upL q (fun i9 => T.un (st + i9)) j ++ [92])).1 (penL s0 (upL q (fun i9 => T.un (st + i9)) j ++ [92])).2.1))), (qo, .inl (cB, 16392, .inl (penL s0 (upL q (fun i9 => T.un (st + i9)) j ++ [92])).2.2)), (t, .inr (12, MF 13 (tw T))), (T.au, .inl (cC, T.U, .inl T.un))] := hD
            refine lv_aload_n hx hb d_Mo_units_104 rfl (lv_at hl 2 rfl) ?_
            refine lv_iload hx hb d_Mo_units_105 (lv_at hl 1 rfl) ?_
            have hPc := hP.sub (ws' := [(mo, .inr (13, MF 30 (nf v (penL s0 (upL q (fun i9 => T.un (st + i9)) j ++ [92])).1 (penL s0 (upL q (fun i9 => T.un (st + i9)) j ++ [92])).2.1))), (qo, .inl (cB, 16392, .inl (penL s0 (upL q (fun i9 => T.un (st + i9)) j ++ [92])).2.2))]) [0, 1] rfl
            have hDc := hD.sub (ws' := [(mo, .inr (13, MF 30 (nf v (penL s0 (upL q (fun i9 => T.un (st + i9)) j ++ [92])).1 (penL s0 (upL q (fun i9 => T.un (st + i9)) j ++ [92])).2.1))), (qo, .inl (cB, 16392, .inl (penL s0 (upL q (fun i9 => T.un (st + i9)) j ++ [92])).2.2))]) [0, 1] (by decide) rfl
            have hKc := hK.sub (tys' := [(cB, .byte)]) [0] rfl
            have hFc := va_free (wc := [(mo, .inr (13, MF 30 (nf v (penL s0 (upL q (fun i9 => T.un (st + i9)) j ++ [92])).1 (penL s0 (upL q (fun i9 => T.un (st + i9)) j ++ [92])).2.1))), (qo, .inl (cB, 16392, .inl (penL s0 (upL q (fun i9 => T.un (st + i9)) j ++ [92])).2.2))]) hD hS hA [0, 1] rfl
            refine va_callv (va_runV (As := [.int u9]) (rest := []) ⟨hx, hb, hml, hown, hts⟩ (c_Mo_pen l dC dI mo H v cB qo (penL s0 (upL q (fun i9 => T.un (st + i9)) j ++ [92])) u9 (penL_le hk0 _) h10) (cwV 1 hts (gt_V (own := R_Mo) (C := R_Mo) (i := 239) (y := y_Mo_write) i_Mo_write w_1374 w_1376 (gt_sel (y := y_Mo_write) (n := 30) (by decide +kernel)) w_7) rfl rfl rfl (by decide +kernel) ⟨Nat.le_of_ble_eq_true rfl, Nat.le_of_ble_eq_true rfl⟩) ⟨mp_blind, va_recv hKc hPc (ci := 13) (q0 := 0) rfl rfl, fun U hU hW => ⟨rfl, hU, by rw [hU]; exact hPc, va_K.moved hW.alike hKc, hDc.weaken (fun _ _ _ _ => trivial)⟩⟩ rfl rfl hl.1 rfl (lv_room (Nat.le_of_ble_eq_true rfl)) d_Mo_units_107 ⟨Nat.le_of_ble_eq_true rfl, Nat.le_of_ble_eq_true rfl⟩) hS (fun q _ h => hFc q h) hFc (fun u2 t9 H1 locs ht hvm hw hB hz1 hk1 hS => ?_)
            obtain ⟨hP1, hK1, hD1⟩ := hB
            rw [ht] at hP1
            obtain ⟨hP, hD⟩ := va_join (wr := [(t, .inr (12, MF 13 (tw T))), (T.au, .inl (cC, T.U, .inl T.un))]) (w1 := [(mo, .inr (13, MF 30 (nf v u2.1 u2.2.1))), (qo, .inl (cB, 16392, .inl u2.2.2))]) hP hD [0, 1] [2, 3] rfl rfl (by decide) (by decide) hk1 hFc hP1 hD1
            generalize H1 = H at hP hS ⊢
            have hP : va_P (dC, dI) classes [(t, .inr (12, MF 13 (tw T))), (T.au, .inl (cC, T.U, .inl T.un)), (mo, .inr (13, MF 30 (nf v u2.1 u2.2.1))), (qo, .inl (cB, 16392, .inl u2.2.2))] H := hP
            have hD : va_D A [(t, .inr (12, MF 13 (tw T))), (T.au, .inl (cC, T.U, .inl T.un)), (mo, .inr (13, MF 30 (nf v u2.1 u2.2.1))), (qo, .inl (cB, 16392, .inl u2.2.2))] := hD
            have hP := hP.sub (ws' := [(mo, .inr (13, MF 30 (nf v u2.1 u2.2.1))), (qo, .inl (cB, 16392, .inl u2.2.2)), (t, .inr (12, MF 13 (tw T))), (T.au, .inl (cC, T.U, .inl T.un))]) [2, 3, 0, 1] rfl
            have hD := hD.sub (ws' := [(mo, .inr (13, MF 30 (nf v u2.1 u2.2.1))), (qo, .inl (cB, 16392, .inl u2.2.2)), (t, .inr (12, MF 13 (tw T))), (T.au, .inl (cC, T.U, .inl T.un))]) [2, 3, 0, 1] (by decide) rfl
            have hw : u2 = pen1 (penL s0 (upL q (fun i9 => T.un (st + i9)) j ++ [92])) u9 := hw
            rw [penL_snoc] at hw
            subst hw
            have hP : va_P (dC, dI) classes [(mo, .inr (13, MF 30 (nf v (penL s0 (upL q (fun i9 => T.un (st + i9)) j ++ [92] ++ [u9])).1 (penL s0 (upL q (fun i9 => T.un (st + i9)) j ++ [92] ++ [u9])).2.1))), (qo, .inl (cB, 16392, .inl (penL s0 (upL q (fun i9 => T.un (st + i9)) j ++ [92] ++ [u9])).2.2)), (t, .inr (12, MF 13 (tw T))), (T.au, .inl (cC, T.U, .inl T.un))] H := hP
            have hD : va_D A [(mo, .inr (13, MF 30 (nf v (penL s0 (upL q (fun i9 => T.un (st + i9)) j ++ [92] ++ [u9])).1 (penL s0 (upL q (fun i9 => T.un (st + i9)) j ++ [92] ++ [u9])).2.1))), (qo, .inl (cB, 16392, .inl (penL s0 (upL q (fun i9 => T.un (st + i9)) j ++ [92] ++ [u9])).2.2)), (t, .inr (12, MF 13 (tw T))), (T.au, .inl (cC, T.U, .inl T.un))] := hD
            refine lv_goto (tgt := 199) hx hb d_Mo_units_110 (by decide) ?_
            refine lv_iinc (v := nI (st + (j + 1))) (lv' := [(5, .int (nI (st + (j + 1)))), (7, .int 1), (6, .int u9), (0, .ref mo), (1, .ref t), (2, .int (nI st)), (3, .int (nI ln)), (4, .int q)]) hx hb d_Mo_units_199 hl (k := 7) rfl (nI_1 (st + j)) (by decide) rfl (fun ls hl => ?_)
            refine lv_goto (tgt := 9) hx hb d_Mo_units_202 (by decide) ?_
            have hek : escK u9 = 1 := by unfold escK; rw [if_neg c30, if_pos c41]
            have hun : upL q (fun i9 => T.un (st + i9)) (j + 1) = upL q (fun i9 => T.un (st + i9)) j ++ [92] ++ [u9] := by
              show upL q (fun i9 => T.un (st + i9)) j ++ unB q (T.un (st + j)) = _
              rw [← hu9]
              unfold unB
              rw [if_pos (Or.inr c95)]
              simp only [List.append_assoc, List.cons_append, List.nil_append]; first | done | rfl
            rw [← hun] at hP hD
            exact ih (j + 1) _ _ _ (by omega) (by show ln - (j + 1) < ln - j; omega) hP hD hS (lv_sub hl [3, 4, 5, 6, 7, 0] rfl)
    · refine lv_iconst (v := 0) hx hb d_Mo_units_33 (by decide) ?_
      refine lv_goto (tgt := 82) hx hb d_Mo_units_34 (by decide) ?_
      refine lv_istore (lv' := [(7, .int 0), (6, .int u9), (0, .ref mo), (1, .ref t), (2, .int (nI st)), (3, .int (nI ln)), (4, .int q), (5, .int (nI (st + j)))]) hx hb d_Mo_units_82 hl (by decide) rfl (fun ls hl => ?_)
      refine lv_iload hx hb d_Mo_units_84 (lv_at hl 1 rfl) ?_
      refine lv_iload hx hb d_Mo_units_86 (lv_at hl 6 rfl) ?_
      refine lv_icmp_eq (tgt := 98) hx hb d_Mo_units_88 (by decide) (fun c88 => ?_) (fun c88 => ?_)
      · refine lv_aload_n hx hb d_Mo_units_98 rfl (lv_at hl 2 rfl) ?_
        refine lv_bipush (v := 92) hx hb d_Mo_units_99 (by decide) ?_
        have hPc := hP.sub (ws' := [(mo, .inr (13, MF 30 (nf v (penL s0 (upL q (fun i9 => T.un (st + i9)) j)).1 (penL s0 (upL q (fun i9 => T.un (st + i9)) j)).2.1))), (qo, .inl (cB, 16392, .inl (penL s0 (upL q (fun i9 => T.un (st + i9)) j)).2.2))]) [0, 1] rfl
        have hDc := hD.sub (ws' := [(mo, .inr (13, MF 30 (nf v (penL s0 (upL q (fun i9 => T.un (st + i9)) j)).1 (penL s0 (upL q (fun i9 => T.un (st + i9)) j)).2.1))), (qo, .inl (cB, 16392, .inl (penL s0 (upL q (fun i9 => T.un (st + i9)) j)).2.2))]) [0, 1] (by decide) rfl
        have hKc := hK.sub (tys' := [(cB, .byte)]) [0] rfl
        have hFc := va_free (wc := [(mo, .inr (13, MF 30 (nf v (penL s0 (upL q (fun i9 => T.un (st + i9)) j)).1 (penL s0 (upL q (fun i9 => T.un (st + i9)) j)).2.1))), (qo, .inl (cB, 16392, .inl (penL s0 (upL q (fun i9 => T.un (st + i9)) j)).2.2))]) hD hS hA [0, 1] rfl
        refine va_callv (va_runV (As := [.int 92]) (rest := []) ⟨hx, hb, hml, hown, hts⟩ (c_Mo_pen l dC dI mo H v cB qo (penL s0 (upL q (fun i9 => T.un (st + i9)) j)) 92 (penL_le hk0 _) h10) (cwV 1 hts (gt_V (own := R_Mo) (C := R_Mo) (i := 239) (y := y_Mo_write) i_Mo_write w_1374 w_1376 (gt_sel (y := y_Mo_write) (n := 30) (by decide +kernel)) w_7) rfl rfl rfl (by decide +kernel) ⟨Nat.le_of_ble_eq_true rfl, Nat.le_of_ble_eq_true rfl⟩) ⟨mp_blind, va_recv hKc hPc (ci := 13) (q0 := 0) rfl rfl, fun U hU hW => ⟨rfl, hU, by rw [hU]; exact hPc, va_K.moved hW.alike hKc, hDc.weaken (fun _ _ _ _ => trivial)⟩⟩ rfl rfl hl.1 rfl (lv_room (Nat.le_of_ble_eq_true rfl)) d_Mo_units_101 ⟨Nat.le_of_ble_eq_true rfl, Nat.le_of_ble_eq_true rfl⟩) hS (fun q _ h => hFc q h) hFc (fun u2 t9 H1 locs ht hvm hw hB hz1 hk1 hS => ?_)
        obtain ⟨hP1, hK1, hD1⟩ := hB
        rw [ht] at hP1
        obtain ⟨hP, hD⟩ := va_join (wr := [(t, .inr (12, MF 13 (tw T))), (T.au, .inl (cC, T.U, .inl T.un))]) (w1 := [(mo, .inr (13, MF 30 (nf v u2.1 u2.2.1))), (qo, .inl (cB, 16392, .inl u2.2.2))]) hP hD [0, 1] [2, 3] rfl rfl (by decide) (by decide) hk1 hFc hP1 hD1
        generalize H1 = H at hP hS ⊢
        have hP : va_P (dC, dI) classes [(t, .inr (12, MF 13 (tw T))), (T.au, .inl (cC, T.U, .inl T.un)), (mo, .inr (13, MF 30 (nf v u2.1 u2.2.1))), (qo, .inl (cB, 16392, .inl u2.2.2))] H := hP
        have hD : va_D A [(t, .inr (12, MF 13 (tw T))), (T.au, .inl (cC, T.U, .inl T.un)), (mo, .inr (13, MF 30 (nf v u2.1 u2.2.1))), (qo, .inl (cB, 16392, .inl u2.2.2))] := hD
        have hP := hP.sub (ws' := [(mo, .inr (13, MF 30 (nf v u2.1 u2.2.1))), (qo, .inl (cB, 16392, .inl u2.2.2)), (t, .inr (12, MF 13 (tw T))), (T.au, .inl (cC, T.U, .inl T.un))]) [2, 3, 0, 1] rfl
        have hD := hD.sub (ws' := [(mo, .inr (13, MF 30 (nf v u2.1 u2.2.1))), (qo, .inl (cB, 16392, .inl u2.2.2)), (t, .inr (12, MF 13 (tw T))), (T.au, .inl (cC, T.U, .inl T.un))]) [2, 3, 0, 1] (by decide) rfl
        have hw : u2 = pen1 (penL s0 (upL q (fun i9 => T.un (st + i9)) j)) 92 := hw
        rw [penL_snoc] at hw
        subst hw
        have hP : va_P (dC, dI) classes [(mo, .inr (13, MF 30 (nf v (penL s0 (upL q (fun i9 => T.un (st + i9)) j ++ [92])).1 (penL s0 (upL q (fun i9 => T.un (st + i9)) j ++ [92])).2.1))), (qo, .inl (cB, 16392, .inl (penL s0 (upL q (fun i9 => T.un (st + i9)) j ++ [92])).2.2)), (t, .inr (12, MF 13 (tw T))), (T.au, .inl (cC, T.U, .inl T.un))] H := hP
        have hD : va_D A [(mo, .inr (13, MF 30 (nf v (penL s0 (upL q (fun i9 => T.un (st + i9)) j ++ [92])).1 (penL s0 (upL q (fun i9 => T.un (st + i9)) j ++ [92])).2.1))), (qo, .inl (cB, 16392, .inl (penL s0 (upL q (fun i9 => T.un (st + i9)) j ++ [92])).2.2)), (t, .inr (12, MF 13 (tw T))), (T.au, .inl (cC, T.U, .inl T.un))] := hD
        refine lv_aload_n hx hb d_Mo_units_104 rfl (lv_at hl 2 rfl) ?_
        refine lv_iload hx hb d_Mo_units_105 (lv_at hl 1 rfl) ?_
        have hPc := hP.sub (ws' := [(mo, .inr (13, MF 30 (nf v (penL s0 (upL q (fun i9 => T.un (st + i9)) j ++ [92])).1 (penL s0 (upL q (fun i9 => T.un (st + i9)) j ++ [92])).2.1))), (qo, .inl (cB, 16392, .inl (penL s0 (upL q (fun i9 => T.un (st + i9)) j ++ [92])).2.2))]) [0, 1] rfl
        have hDc := hD.sub (ws' := [(mo, .inr (13, MF 30 (nf v (penL s0 (upL q (fun i9 => T.un (st + i9)) j ++ [92])).1 (penL s0 (upL q (fun i9 => T.un (st + i9)) j ++ [92])).2.1))), (qo, .inl (cB, 16392, .inl (penL s0 (upL q (fun i9 => T.un (st + i9)) j ++ [92])).2.2))]) [0, 1] (by decide) rfl
        have hKc := hK.sub (tys' := [(cB, .byte)]) [0] rfl
        have hFc := va_free (wc := [(mo, .inr (13, MF 30 (nf v (penL s0 (upL q (fun i9 => T.un (st + i9)) j ++ [92])).1 (penL s0 (upL q (fun i9 => T.un (st + i9)) j ++ [92])).2.1))), (qo, .inl (cB, 16392, .inl (penL s0 (upL q (fun i9 => T.un (st + i9)) j ++ [92])).2.2))]) hD hS hA [0, 1] rfl
        refine va_callv (va_runV (As := [.int u9]) (rest := []) ⟨hx, hb, hml, hown, hts⟩ (c_Mo_pen l dC dI mo H v cB qo (penL s0 (upL q (fun i9 => T.un (st + i9)) j ++ [92])) u9 (penL_le hk0 _) h10) (cwV 1 hts (gt_V (own := R_Mo) (C := R_Mo) (i := 239) (y := y_Mo_write) i_Mo_write w_1374 w_1376 (gt_sel (y := y_Mo_write) (n := 30) (by decide +kernel)) w_7) rfl rfl rfl (by decide +kernel) ⟨Nat.le_of_ble_eq_true rfl, Nat.le_of_ble_eq_true rfl⟩) ⟨mp_blind, va_recv hKc hPc (ci := 13) (q0 := 0) rfl rfl, fun U hU hW => ⟨rfl, hU, by rw [hU]; exact hPc, va_K.moved hW.alike hKc, hDc.weaken (fun _ _ _ _ => trivial)⟩⟩ rfl rfl hl.1 rfl (lv_room (Nat.le_of_ble_eq_true rfl)) d_Mo_units_107 ⟨Nat.le_of_ble_eq_true rfl, Nat.le_of_ble_eq_true rfl⟩) hS (fun q _ h => hFc q h) hFc (fun u2 t9 H1 locs ht hvm hw hB hz1 hk1 hS => ?_)
        obtain ⟨hP1, hK1, hD1⟩ := hB
        rw [ht] at hP1
        obtain ⟨hP, hD⟩ := va_join (wr := [(t, .inr (12, MF 13 (tw T))), (T.au, .inl (cC, T.U, .inl T.un))]) (w1 := [(mo, .inr (13, MF 30 (nf v u2.1 u2.2.1))), (qo, .inl (cB, 16392, .inl u2.2.2))]) hP hD [0, 1] [2, 3] rfl rfl (by decide) (by decide) hk1 hFc hP1 hD1
        generalize H1 = H at hP hS ⊢
        have hP : va_P (dC, dI) classes [(t, .inr (12, MF 13 (tw T))), (T.au, .inl (cC, T.U, .inl T.un)), (mo, .inr (13, MF 30 (nf v u2.1 u2.2.1))), (qo, .inl (cB, 16392, .inl u2.2.2))] H := hP
        have hD : va_D A [(t, .inr (12, MF 13 (tw T))), (T.au, .inl (cC, T.U, .inl T.un)), (mo, .inr (13, MF 30 (nf v u2.1 u2.2.1))), (qo, .inl (cB, 16392, .inl u2.2.2))] := hD
        have hP := hP.sub (ws' := [(mo, .inr (13, MF 30 (nf v u2.1 u2.2.1))), (qo, .inl (cB, 16392, .inl u2.2.2)), (t, .inr (12, MF 13 (tw T))), (T.au, .inl (cC, T.U, .inl T.un))]) [2, 3, 0, 1] rfl
        have hD := hD.sub (ws' := [(mo, .inr (13, MF 30 (nf v u2.1 u2.2.1))), (qo, .inl (cB, 16392, .inl u2.2.2)), (t, .inr (12, MF 13 (tw T))), (T.au, .inl (cC, T.U, .inl T.un))]) [2, 3, 0, 1] (by decide) rfl
        have hw : u2 = pen1 (penL s0 (upL q (fun i9 => T.un (st + i9)) j ++ [92])) u9 := hw
        rw [penL_snoc] at hw
        subst hw
        have hP : va_P (dC, dI) classes [(mo, .inr (13, MF 30 (nf v (penL s0 (upL q (fun i9 => T.un (st + i9)) j ++ [92] ++ [u9])).1 (penL s0 (upL q (fun i9 => T.un (st + i9)) j ++ [92] ++ [u9])).2.1))), (qo, .inl (cB, 16392, .inl (penL s0 (upL q (fun i9 => T.un (st + i9)) j ++ [92] ++ [u9])).2.2)), (t, .inr (12, MF 13 (tw T))), (T.au, .inl (cC, T.U, .inl T.un))] H := hP
        have hD : va_D A [(mo, .inr (13, MF 30 (nf v (penL s0 (upL q (fun i9 => T.un (st + i9)) j ++ [92] ++ [u9])).1 (penL s0 (upL q (fun i9 => T.un (st + i9)) j ++ [92] ++ [u9])).2.1))), (qo, .inl (cB, 16392, .inl (penL s0 (upL q (fun i9 => T.un (st + i9)) j ++ [92] ++ [u9])).2.2)), (t, .inr (12, MF 13 (tw T))), (T.au, .inl (cC, T.U, .inl T.un))] := hD
        refine lv_goto (tgt := 199) hx hb d_Mo_units_110 (by decide) ?_
        refine lv_iinc (v := nI (st + (j + 1))) (lv' := [(5, .int (nI (st + (j + 1)))), (7, .int 0), (6, .int u9), (0, .ref mo), (1, .ref t), (2, .int (nI st)), (3, .int (nI ln)), (4, .int q)]) hx hb d_Mo_units_199 hl (k := 7) rfl (nI_1 (st + j)) (by decide) rfl (fun ls hl => ?_)
        refine lv_goto (tgt := 9) hx hb d_Mo_units_202 (by decide) ?_
        have hek : escK u9 = 0 := by unfold escK; rw [if_pos c30]
        have hun : upL q (fun i9 => T.un (st + i9)) (j + 1) = upL q (fun i9 => T.un (st + i9)) j ++ [92] ++ [u9] := by
          show upL q (fun i9 => T.un (st + i9)) j ++ unB q (T.un (st + j)) = _
          rw [← hu9]
          unfold unB
          rw [if_pos (Or.inl c88)]
          simp only [List.append_assoc, List.cons_append, List.nil_append]; first | done | rfl
        rw [← hun] at hP hD
        exact ih (j + 1) _ _ _ (by omega) (by show ln - (j + 1) < ln - j; omega) hP hD hS (lv_sub hl [3, 4, 5, 6, 7, 0] rfl)
      · refine lv_iload hx hb d_Mo_units_91 (lv_at hl 1 rfl) ?_
        refine lv_bipush (v := 92) hx hb d_Mo_units_93 (by decide) ?_
        refine lv_icmp_ne (tgt := 113) hx hb d_Mo_units_95 (by decide) (fun c95 => ?_) (fun c95 => ?_)
        · refine lv_iload hx hb d_Mo_units_113 (lv_at hl 0 rfl) ?_
          refine lv_if_lt (tgt := 138) hx hb d_Mo_units_115 (by decide) (fun h => absurd h (by decide)) (fun _ => ?_)
          refine lv_aload_n hx hb d_Mo_units_118 rfl (lv_at hl 2 rfl) ?_
          refine lv_bipush (v := 92) hx hb d_Mo_units_119 (by decide) ?_
          have hPc := hP.sub (ws' := [(mo, .inr (13, MF 30 (nf v (penL s0 (upL q (fun i9 => T.un (st + i9)) j)).1 (penL s0 (upL q (fun i9 => T.un (st + i9)) j)).2.1))), (qo, .inl (cB, 16392, .inl (penL s0 (upL q (fun i9 => T.un (st + i9)) j)).2.2))]) [0, 1] rfl
          have hDc := hD.sub (ws' := [(mo, .inr (13, MF 30 (nf v (penL s0 (upL q (fun i9 => T.un (st + i9)) j)).1 (penL s0 (upL q (fun i9 => T.un (st + i9)) j)).2.1))), (qo, .inl (cB, 16392, .inl (penL s0 (upL q (fun i9 => T.un (st + i9)) j)).2.2))]) [0, 1] (by decide) rfl
          have hKc := hK.sub (tys' := [(cB, .byte)]) [0] rfl
          have hFc := va_free (wc := [(mo, .inr (13, MF 30 (nf v (penL s0 (upL q (fun i9 => T.un (st + i9)) j)).1 (penL s0 (upL q (fun i9 => T.un (st + i9)) j)).2.1))), (qo, .inl (cB, 16392, .inl (penL s0 (upL q (fun i9 => T.un (st + i9)) j)).2.2))]) hD hS hA [0, 1] rfl
          refine va_callv (va_runV (As := [.int 92]) (rest := []) ⟨hx, hb, hml, hown, hts⟩ (c_Mo_pen l dC dI mo H v cB qo (penL s0 (upL q (fun i9 => T.un (st + i9)) j)) 92 (penL_le hk0 _) h10) (cwV 1 hts (gt_V (own := R_Mo) (C := R_Mo) (i := 239) (y := y_Mo_write) i_Mo_write w_1374 w_1376 (gt_sel (y := y_Mo_write) (n := 30) (by decide +kernel)) w_7) rfl rfl rfl (by decide +kernel) ⟨Nat.le_of_ble_eq_true rfl, Nat.le_of_ble_eq_true rfl⟩) ⟨mp_blind, va_recv hKc hPc (ci := 13) (q0 := 0) rfl rfl, fun U hU hW => ⟨rfl, hU, by rw [hU]; exact hPc, va_K.moved hW.alike hKc, hDc.weaken (fun _ _ _ _ => trivial)⟩⟩ rfl rfl hl.1 rfl (lv_room (Nat.le_of_ble_eq_true rfl)) d_Mo_units_121 ⟨Nat.le_of_ble_eq_true rfl, Nat.le_of_ble_eq_true rfl⟩) hS (fun q _ h => hFc q h) hFc (fun u2 t9 H1 locs ht hvm hw hB hz1 hk1 hS => ?_)
          obtain ⟨hP1, hK1, hD1⟩ := hB
          rw [ht] at hP1
          obtain ⟨hP, hD⟩ := va_join (wr := [(t, .inr (12, MF 13 (tw T))), (T.au, .inl (cC, T.U, .inl T.un))]) (w1 := [(mo, .inr (13, MF 30 (nf v u2.1 u2.2.1))), (qo, .inl (cB, 16392, .inl u2.2.2))]) hP hD [0, 1] [2, 3] rfl rfl (by decide) (by decide) hk1 hFc hP1 hD1
          generalize H1 = H at hP hS ⊢
          have hP : va_P (dC, dI) classes [(t, .inr (12, MF 13 (tw T))), (T.au, .inl (cC, T.U, .inl T.un)), (mo, .inr (13, MF 30 (nf v u2.1 u2.2.1))), (qo, .inl (cB, 16392, .inl u2.2.2))] H := hP
          have hD : va_D A [(t, .inr (12, MF 13 (tw T))), (T.au, .inl (cC, T.U, .inl T.un)), (mo, .inr (13, MF 30 (nf v u2.1 u2.2.1))), (qo, .inl (cB, 16392, .inl u2.2.2))] := hD
          have hP := hP.sub (ws' := [(mo, .inr (13, MF 30 (nf v u2.1 u2.2.1))), (qo, .inl (cB, 16392, .inl u2.2.2)), (t, .inr (12, MF 13 (tw T))), (T.au, .inl (cC, T.U, .inl T.un))]) [2, 3, 0, 1] rfl
          have hD := hD.sub (ws' := [(mo, .inr (13, MF 30 (nf v u2.1 u2.2.1))), (qo, .inl (cB, 16392, .inl u2.2.2)), (t, .inr (12, MF 13 (tw T))), (T.au, .inl (cC, T.U, .inl T.un))]) [2, 3, 0, 1] (by decide) rfl
          have hw : u2 = pen1 (penL s0 (upL q (fun i9 => T.un (st + i9)) j)) 92 := hw
          rw [penL_snoc] at hw
          subst hw
          have hP : va_P (dC, dI) classes [(mo, .inr (13, MF 30 (nf v (penL s0 (upL q (fun i9 => T.un (st + i9)) j ++ [92])).1 (penL s0 (upL q (fun i9 => T.un (st + i9)) j ++ [92])).2.1))), (qo, .inl (cB, 16392, .inl (penL s0 (upL q (fun i9 => T.un (st + i9)) j ++ [92])).2.2)), (t, .inr (12, MF 13 (tw T))), (T.au, .inl (cC, T.U, .inl T.un))] H := hP
          have hD : va_D A [(mo, .inr (13, MF 30 (nf v (penL s0 (upL q (fun i9 => T.un (st + i9)) j ++ [92])).1 (penL s0 (upL q (fun i9 => T.un (st + i9)) j ++ [92])).2.1))), (qo, .inl (cB, 16392, .inl (penL s0 (upL q (fun i9 => T.un (st + i9)) j ++ [92])).2.2)), (t, .inr (12, MF 13 (tw T))), (T.au, .inl (cC, T.U, .inl T.un))] := hD
          refine lv_aload_n hx hb d_Mo_units_124 rfl (lv_at hl 2 rfl) ?_
          refine va_ldcS hx hb hown (hM 4 _ rfl).2 d_Mo_units_125 ?_
          refine lv_iload hx hb d_Mo_units_127 (lv_at hl 0 rfl) ?_
          refine W.eq (g2 := F0 m 129 ls [.int (nI 0), .ref (K 4).1, .ref mo]) (by rw [show 0 = (nI 0) from (by decide)]) ?_
          have hE := (hM 4 _ rfl).1
          have hPc := hP.sub (ws' := []) [] rfl
          have hDc := hD.sub (ws' := []) [] (by decide) rfl
          have hKc := hK.sub (tys' := []) [] rfl
          have hFc := va_free (wc := []) hD hS hA [] rfl
          refine va_calli (va_runV (As := [.int (nI 0)]) (rest := [.ref mo]) ⟨hx, hb, hml, hown, hts⟩ (c_Str_charAt l dC dI H (K 4).1 (K 4).2 5 (mtx 4) 0 (by decide) (by decide)) (cwV 1 hts (gt_V (own := R_Mo) (C := R_Str) (i := 159) (y := y_Str_charAt) i_Str_charAt w_1245 w_466 w_467 w_18) rfl rfl rfl (by decide +kernel) ⟨Nat.le_of_ble_eq_true rfl, Nat.le_of_ble_eq_true rfl⟩) ⟨mstr_blind, (by obtain ⟨cell, h1, h2, h3, -⟩ := va_O.kept hE.1 hS.2.1; exact ⟨cell, h1, h2, h3⟩), fun U hU hW => ⟨rfl, ⟨hU, by rw [hU]; exact hPc, va_K.moved hW.alike hKc, hDc.weaken (fun _ _ _ _ => trivial)⟩, by rw [hU]; exact SX.moved' hW.alike (SX.narrow' (SX.kept' hE hS.2.1) hFc)⟩⟩ rfl rfl hl.1 rfl (lv_room (Nat.le_of_ble_eq_true rfl)) d_Mo_units_129 ⟨Nat.le_of_ble_eq_true rfl, Nat.le_of_ble_eq_true rfl⟩) hS (fun q _ h => hFc q h) hFc (fun r0 _u t9 H1 locs ht hvm hw hB hz1 hk1 hS => ?_)
          obtain ⟨hP1, hK1, hD1⟩ := hB
          rw [ht] at hP1
          obtain ⟨hP, hD⟩ := va_join (wr := [(mo, .inr (13, MF 30 (nf v (penL s0 (upL q (fun i9 => T.un (st + i9)) j ++ [92])).1 (penL s0 (upL q (fun i9 => T.un (st + i9)) j ++ [92])).2.1))), (qo, .inl (cB, 16392, .inl (penL s0 (upL q (fun i9 => T.un (st + i9)) j ++ [92])).2.2)), (t, .inr (12, MF 13 (tw T))), (T.au, .inl (cC, T.U, .inl T.un))]) (w1 := []) hP hD [] [0, 1, 2, 3] rfl rfl (by decide) (by decide) hk1 hFc hP1 hD1
          generalize H1 = H at hP hS ⊢
          have hP : va_P (dC, dI) classes [(mo, .inr (13, MF 30 (nf v (penL s0 (upL q (fun i9 => T.un (st + i9)) j ++ [92])).1 (penL s0 (upL q (fun i9 => T.un (st + i9)) j ++ [92])).2.1))), (qo, .inl (cB, 16392, .inl (penL s0 (upL q (fun i9 => T.un (st + i9)) j ++ [92])).2.2)), (t, .inr (12, MF 13 (tw T))), (T.au, .inl (cC, T.U, .inl T.un))] H := hP
          have hD : va_D A [(mo, .inr (13, MF 30 (nf v (penL s0 (upL q (fun i9 => T.un (st + i9)) j ++ [92])).1 (penL s0 (upL q (fun i9 => T.un (st + i9)) j ++ [92])).2.1))), (qo, .inl (cB, 16392, .inl (penL s0 (upL q (fun i9 => T.un (st + i9)) j ++ [92])).2.2)), (t, .inr (12, MF 13 (tw T))), (T.au, .inl (cC, T.U, .inl T.un))] := hD
          have hw : r0 = (mtx 4) 0 &&& 255 := hw
          subst hw
          have hPc := hP.sub (ws' := [(mo, .inr (13, MF 30 (nf v (penL s0 (upL q (fun i9 => T.un (st + i9)) j ++ [92])).1 (penL s0 (upL q (fun i9 => T.un (st + i9)) j ++ [92])).2.1))), (qo, .inl (cB, 16392, .inl (penL s0 (upL q (fun i9 => T.un (st + i9)) j ++ [92])).2.2))]) [0, 1] rfl
          have hDc := hD.sub (ws' := [(mo, .inr (13, MF 30 (nf v (penL s0 (upL q (fun i9 => T.un (st + i9)) j ++ [92])).1 (penL s0 (upL q (fun i9 => T.un (st + i9)) j ++ [92])).2.1))), (qo, .inl (cB, 16392, .inl (penL s0 (upL q (fun i9 => T.un (st + i9)) j ++ [92])).2.2))]) [0, 1] (by decide) rfl
          have hKc := hK.sub (tys' := [(cB, .byte)]) [0] rfl
          have hFc := va_free (wc := [(mo, .inr (13, MF 30 (nf v (penL s0 (upL q (fun i9 => T.un (st + i9)) j ++ [92])).1 (penL s0 (upL q (fun i9 => T.un (st + i9)) j ++ [92])).2.1))), (qo, .inl (cB, 16392, .inl (penL s0 (upL q (fun i9 => T.un (st + i9)) j ++ [92])).2.2))]) hD hS hA [0, 1] rfl
          refine va_callv (va_runV (As := [.int ((mtx 4) 0 &&& 255)]) (rest := []) ⟨hx, hb, hml, hown, hts⟩ (c_Mo_pen l dC dI mo H v cB qo (penL s0 (upL q (fun i9 => T.un (st + i9)) j ++ [92])) (((mtx 4) 0 &&& 255)) (penL_le hk0 _) h10) (cwV 1 hts (gt_V (own := R_Mo) (C := R_Mo) (i := 239) (y := y_Mo_write) i_Mo_write w_1374 w_1376 (gt_sel (y := y_Mo_write) (n := 30) (by decide +kernel)) w_7) rfl rfl rfl (by decide +kernel) ⟨Nat.le_of_ble_eq_true rfl, Nat.le_of_ble_eq_true rfl⟩) ⟨mp_blind, va_recv hKc hPc (ci := 13) (q0 := 0) rfl rfl, fun U hU hW => ⟨rfl, hU, by rw [hU]; exact hPc, va_K.moved hW.alike hKc, hDc.weaken (fun _ _ _ _ => trivial)⟩⟩ rfl rfl hl.1 rfl (lv_room (Nat.le_of_ble_eq_true rfl)) d_Mo_units_132 ⟨Nat.le_of_ble_eq_true rfl, Nat.le_of_ble_eq_true rfl⟩) hS (fun q _ h => hFc q h) hFc (fun u2 t9 H1 locs ht hvm hw hB hz1 hk1 hS => ?_)
          obtain ⟨hP1, hK1, hD1⟩ := hB
          rw [ht] at hP1
          obtain ⟨hP, hD⟩ := va_join (wr := [(t, .inr (12, MF 13 (tw T))), (T.au, .inl (cC, T.U, .inl T.un))]) (w1 := [(mo, .inr (13, MF 30 (nf v u2.1 u2.2.1))), (qo, .inl (cB, 16392, .inl u2.2.2))]) hP hD [0, 1] [2, 3] rfl rfl (by decide) (by decide) hk1 hFc hP1 hD1
          generalize H1 = H at hP hS ⊢
          have hP : va_P (dC, dI) classes [(t, .inr (12, MF 13 (tw T))), (T.au, .inl (cC, T.U, .inl T.un)), (mo, .inr (13, MF 30 (nf v u2.1 u2.2.1))), (qo, .inl (cB, 16392, .inl u2.2.2))] H := hP
          have hD : va_D A [(t, .inr (12, MF 13 (tw T))), (T.au, .inl (cC, T.U, .inl T.un)), (mo, .inr (13, MF 30 (nf v u2.1 u2.2.1))), (qo, .inl (cB, 16392, .inl u2.2.2))] := hD
          have hP := hP.sub (ws' := [(mo, .inr (13, MF 30 (nf v u2.1 u2.2.1))), (qo, .inl (cB, 16392, .inl u2.2.2)), (t, .inr (12, MF 13 (tw T))), (T.au, .inl (cC, T.U, .inl T.un))]) [2, 3, 0, 1] rfl
          have hD := hD.sub (ws' := [(mo, .inr (13, MF 30 (nf v u2.1 u2.2.1))), (qo, .inl (cB, 16392, .inl u2.2.2)), (t, .inr (12, MF 13 (tw T))), (T.au, .inl (cC, T.U, .inl T.un))]) [2, 3, 0, 1] (by decide) rfl
          have hw : u2 = pen1 (penL s0 (upL q (fun i9 => T.un (st + i9)) j ++ [92])) (((mtx 4) 0 &&& 255)) := hw
          rw [penL_snoc] at hw
          subst hw
          have hP : va_P (dC, dI) classes [(mo, .inr (13, MF 30 (nf v (penL s0 (upL q (fun i9 => T.un (st + i9)) j ++ [92] ++ [((mtx 4) 0 &&& 255)])).1 (penL s0 (upL q (fun i9 => T.un (st + i9)) j ++ [92] ++ [((mtx 4) 0 &&& 255)])).2.1))), (qo, .inl (cB, 16392, .inl (penL s0 (upL q (fun i9 => T.un (st + i9)) j ++ [92] ++ [((mtx 4) 0 &&& 255)])).2.2)), (t, .inr (12, MF 13 (tw T))), (T.au, .inl (cC, T.U, .inl T.un))] H := hP
          have hD : va_D A [(mo, .inr (13, MF 30 (nf v (penL s0 (upL q (fun i9 => T.un (st + i9)) j ++ [92] ++ [((mtx 4) 0 &&& 255)])).1 (penL s0 (upL q (fun i9 => T.un (st + i9)) j ++ [92] ++ [((mtx 4) 0 &&& 255)])).2.1))), (qo, .inl (cB, 16392, .inl (penL s0 (upL q (fun i9 => T.un (st + i9)) j ++ [92] ++ [((mtx 4) 0 &&& 255)])).2.2)), (t, .inr (12, MF 13 (tw T))), (T.au, .inl (cC, T.U, .inl T.un))] := hD
          refine lv_goto (tgt := 199) hx hb d_Mo_units_135 (by decide) ?_
          refine lv_iinc (v := nI (st + (j + 1))) (lv' := [(5, .int (nI (st + (j + 1)))), (7, .int 0), (6, .int u9), (0, .ref mo), (1, .ref t), (2, .int (nI st)), (3, .int (nI ln)), (4, .int q)]) hx hb d_Mo_units_199 hl (k := 7) rfl (nI_1 (st + j)) (by decide) rfl (fun ls hl => ?_)
          refine lv_goto (tgt := 9) hx hb d_Mo_units_202 (by decide) ?_
          have hek : escK u9 = 0 := by unfold escK; rw [if_pos c30]
          have hun : upL q (fun i9 => T.un (st + i9)) (j + 1) = upL q (fun i9 => T.un (st + i9)) j ++ [92] ++ [((mtx 4) 0 &&& 255)] := by
            show upL q (fun i9 => T.un (st + i9)) j ++ unB q (T.un (st + j)) = _
            rw [← hu9]
            unfold unB
            rw [if_neg (fun h => h.elim c88 c95), hek, if_pos (by decide)]
            simp only [List.append_assoc, List.cons_append, List.nil_append]; first | done | rfl
          rw [← hun] at hP hD
          exact ih (j + 1) _ _ _ (by omega) (by show ln - (j + 1) < ln - j; omega) hP hD hS (lv_sub hl [3, 4, 5, 6, 7, 0] rfl)
        · refine lv_aload_n hx hb d_Mo_units_98 rfl (lv_at hl 2 rfl) ?_
          refine lv_bipush (v := 92) hx hb d_Mo_units_99 (by decide) ?_
          have hPc := hP.sub (ws' := [(mo, .inr (13, MF 30 (nf v (penL s0 (upL q (fun i9 => T.un (st + i9)) j)).1 (penL s0 (upL q (fun i9 => T.un (st + i9)) j)).2.1))), (qo, .inl (cB, 16392, .inl (penL s0 (upL q (fun i9 => T.un (st + i9)) j)).2.2))]) [0, 1] rfl
          have hDc := hD.sub (ws' := [(mo, .inr (13, MF 30 (nf v (penL s0 (upL q (fun i9 => T.un (st + i9)) j)).1 (penL s0 (upL q (fun i9 => T.un (st + i9)) j)).2.1))), (qo, .inl (cB, 16392, .inl (penL s0 (upL q (fun i9 => T.un (st + i9)) j)).2.2))]) [0, 1] (by decide) rfl
          have hKc := hK.sub (tys' := [(cB, .byte)]) [0] rfl
          have hFc := va_free (wc := [(mo, .inr (13, MF 30 (nf v (penL s0 (upL q (fun i9 => T.un (st + i9)) j)).1 (penL s0 (upL q (fun i9 => T.un (st + i9)) j)).2.1))), (qo, .inl (cB, 16392, .inl (penL s0 (upL q (fun i9 => T.un (st + i9)) j)).2.2))]) hD hS hA [0, 1] rfl
          refine va_callv (va_runV (As := [.int 92]) (rest := []) ⟨hx, hb, hml, hown, hts⟩ (c_Mo_pen l dC dI mo H v cB qo (penL s0 (upL q (fun i9 => T.un (st + i9)) j)) 92 (penL_le hk0 _) h10) (cwV 1 hts (gt_V (own := R_Mo) (C := R_Mo) (i := 239) (y := y_Mo_write) i_Mo_write w_1374 w_1376 (gt_sel (y := y_Mo_write) (n := 30) (by decide +kernel)) w_7) rfl rfl rfl (by decide +kernel) ⟨Nat.le_of_ble_eq_true rfl, Nat.le_of_ble_eq_true rfl⟩) ⟨mp_blind, va_recv hKc hPc (ci := 13) (q0 := 0) rfl rfl, fun U hU hW => ⟨rfl, hU, by rw [hU]; exact hPc, va_K.moved hW.alike hKc, hDc.weaken (fun _ _ _ _ => trivial)⟩⟩ rfl rfl hl.1 rfl (lv_room (Nat.le_of_ble_eq_true rfl)) d_Mo_units_101 ⟨Nat.le_of_ble_eq_true rfl, Nat.le_of_ble_eq_true rfl⟩) hS (fun q _ h => hFc q h) hFc (fun u2 t9 H1 locs ht hvm hw hB hz1 hk1 hS => ?_)
          obtain ⟨hP1, hK1, hD1⟩ := hB
          rw [ht] at hP1
          obtain ⟨hP, hD⟩ := va_join (wr := [(t, .inr (12, MF 13 (tw T))), (T.au, .inl (cC, T.U, .inl T.un))]) (w1 := [(mo, .inr (13, MF 30 (nf v u2.1 u2.2.1))), (qo, .inl (cB, 16392, .inl u2.2.2))]) hP hD [0, 1] [2, 3] rfl rfl (by decide) (by decide) hk1 hFc hP1 hD1
          generalize H1 = H at hP hS ⊢
          have hP : va_P (dC, dI) classes [(t, .inr (12, MF 13 (tw T))), (T.au, .inl (cC, T.U, .inl T.un)), (mo, .inr (13, MF 30 (nf v u2.1 u2.2.1))), (qo, .inl (cB, 16392, .inl u2.2.2))] H := hP
          have hD : va_D A [(t, .inr (12, MF 13 (tw T))), (T.au, .inl (cC, T.U, .inl T.un)), (mo, .inr (13, MF 30 (nf v u2.1 u2.2.1))), (qo, .inl (cB, 16392, .inl u2.2.2))] := hD
          have hP := hP.sub (ws' := [(mo, .inr (13, MF 30 (nf v u2.1 u2.2.1))), (qo, .inl (cB, 16392, .inl u2.2.2)), (t, .inr (12, MF 13 (tw T))), (T.au, .inl (cC, T.U, .inl T.un))]) [2, 3, 0, 1] rfl
          have hD := hD.sub (ws' := [(mo, .inr (13, MF 30 (nf v u2.1 u2.2.1))), (qo, .inl (cB, 16392, .inl u2.2.2)), (t, .inr (12, MF 13 (tw T))), (T.au, .inl (cC, T.U, .inl T.un))]) [2, 3, 0, 1] (by decide) rfl
          have hw : u2 = pen1 (penL s0 (upL q (fun i9 => T.un (st + i9)) j)) 92 := hw
          rw [penL_snoc] at hw
          subst hw
          have hP : va_P (dC, dI) classes [(mo, .inr (13, MF 30 (nf v (penL s0 (upL q (fun i9 => T.un (st + i9)) j ++ [92])).1 (penL s0 (upL q (fun i9 => T.un (st + i9)) j ++ [92])).2.1))), (qo, .inl (cB, 16392, .inl (penL s0 (upL q (fun i9 => T.un (st + i9)) j ++ [92])).2.2)), (t, .inr (12, MF 13 (tw T))), (T.au, .inl (cC, T.U, .inl T.un))] H := hP
          have hD : va_D A [(mo, .inr (13, MF 30 (nf v (penL s0 (upL q (fun i9 => T.un (st + i9)) j ++ [92])).1 (penL s0 (upL q (fun i9 => T.un (st + i9)) j ++ [92])).2.1))), (qo, .inl (cB, 16392, .inl (penL s0 (upL q (fun i9 => T.un (st + i9)) j ++ [92])).2.2)), (t, .inr (12, MF 13 (tw T))), (T.au, .inl (cC, T.U, .inl T.un))] := hD
          refine lv_aload_n hx hb d_Mo_units_104 rfl (lv_at hl 2 rfl) ?_
          refine lv_iload hx hb d_Mo_units_105 (lv_at hl 1 rfl) ?_
          have hPc := hP.sub (ws' := [(mo, .inr (13, MF 30 (nf v (penL s0 (upL q (fun i9 => T.un (st + i9)) j ++ [92])).1 (penL s0 (upL q (fun i9 => T.un (st + i9)) j ++ [92])).2.1))), (qo, .inl (cB, 16392, .inl (penL s0 (upL q (fun i9 => T.un (st + i9)) j ++ [92])).2.2))]) [0, 1] rfl
          have hDc := hD.sub (ws' := [(mo, .inr (13, MF 30 (nf v (penL s0 (upL q (fun i9 => T.un (st + i9)) j ++ [92])).1 (penL s0 (upL q (fun i9 => T.un (st + i9)) j ++ [92])).2.1))), (qo, .inl (cB, 16392, .inl (penL s0 (upL q (fun i9 => T.un (st + i9)) j ++ [92])).2.2))]) [0, 1] (by decide) rfl
          have hKc := hK.sub (tys' := [(cB, .byte)]) [0] rfl
          have hFc := va_free (wc := [(mo, .inr (13, MF 30 (nf v (penL s0 (upL q (fun i9 => T.un (st + i9)) j ++ [92])).1 (penL s0 (upL q (fun i9 => T.un (st + i9)) j ++ [92])).2.1))), (qo, .inl (cB, 16392, .inl (penL s0 (upL q (fun i9 => T.un (st + i9)) j ++ [92])).2.2))]) hD hS hA [0, 1] rfl
          refine va_callv (va_runV (As := [.int u9]) (rest := []) ⟨hx, hb, hml, hown, hts⟩ (c_Mo_pen l dC dI mo H v cB qo (penL s0 (upL q (fun i9 => T.un (st + i9)) j ++ [92])) u9 (penL_le hk0 _) h10) (cwV 1 hts (gt_V (own := R_Mo) (C := R_Mo) (i := 239) (y := y_Mo_write) i_Mo_write w_1374 w_1376 (gt_sel (y := y_Mo_write) (n := 30) (by decide +kernel)) w_7) rfl rfl rfl (by decide +kernel) ⟨Nat.le_of_ble_eq_true rfl, Nat.le_of_ble_eq_true rfl⟩) ⟨mp_blind, va_recv hKc hPc (ci := 13) (q0 := 0) rfl rfl, fun U hU hW => ⟨rfl, hU, by rw [hU]; exact hPc, va_K.moved hW.alike hKc, hDc.weaken (fun _ _ _ _ => trivial)⟩⟩ rfl rfl hl.1 rfl (lv_room (Nat.le_of_ble_eq_true rfl)) d_Mo_units_107 ⟨Nat.le_of_ble_eq_true rfl, Nat.le_of_ble_eq_true rfl⟩) hS (fun q _ h => hFc q h) hFc (fun u2 t9 H1 locs ht hvm hw hB hz1 hk1 hS => ?_)
          obtain ⟨hP1, hK1, hD1⟩ := hB
          rw [ht] at hP1
          obtain ⟨hP, hD⟩ := va_join (wr := [(t, .inr (12, MF 13 (tw T))), (T.au, .inl (cC, T.U, .inl T.un))]) (w1 := [(mo, .inr (13, MF 30 (nf v u2.1 u2.2.1))), (qo, .inl (cB, 16392, .inl u2.2.2))]) hP hD [0, 1] [2, 3] rfl rfl (by decide) (by decide) hk1 hFc hP1 hD1
          generalize H1 = H at hP hS ⊢
          have hP : va_P (dC, dI) classes [(t, .inr (12, MF 13 (tw T))), (T.au, .inl (cC, T.U, .inl T.un)), (mo, .inr (13, MF 30 (nf v u2.1 u2.2.1))), (qo, .inl (cB, 16392, .inl u2.2.2))] H := hP
          have hD : va_D A [(t, .inr (12, MF 13 (tw T))), (T.au, .inl (cC, T.U, .inl T.un)), (mo, .inr (13, MF 30 (nf v u2.1 u2.2.1))), (qo, .inl (cB, 16392, .inl u2.2.2))] := hD
          have hP := hP.sub (ws' := [(mo, .inr (13, MF 30 (nf v u2.1 u2.2.1))), (qo, .inl (cB, 16392, .inl u2.2.2)), (t, .inr (12, MF 13 (tw T))), (T.au, .inl (cC, T.U, .inl T.un))]) [2, 3, 0, 1] rfl
          have hD := hD.sub (ws' := [(mo, .inr (13, MF 30 (nf v u2.1 u2.2.1))), (qo, .inl (cB, 16392, .inl u2.2.2)), (t, .inr (12, MF 13 (tw T))), (T.au, .inl (cC, T.U, .inl T.un))]) [2, 3, 0, 1] (by decide) rfl
          have hw : u2 = pen1 (penL s0 (upL q (fun i9 => T.un (st + i9)) j ++ [92])) u9 := hw
          rw [penL_snoc] at hw
          subst hw
          have hP : va_P (dC, dI) classes [(mo, .inr (13, MF 30 (nf v (penL s0 (upL q (fun i9 => T.un (st + i9)) j ++ [92] ++ [u9])).1 (penL s0 (upL q (fun i9 => T.un (st + i9)) j ++ [92] ++ [u9])).2.1))), (qo, .inl (cB, 16392, .inl (penL s0 (upL q (fun i9 => T.un (st + i9)) j ++ [92] ++ [u9])).2.2)), (t, .inr (12, MF 13 (tw T))), (T.au, .inl (cC, T.U, .inl T.un))] H := hP
          have hD : va_D A [(mo, .inr (13, MF 30 (nf v (penL s0 (upL q (fun i9 => T.un (st + i9)) j ++ [92] ++ [u9])).1 (penL s0 (upL q (fun i9 => T.un (st + i9)) j ++ [92] ++ [u9])).2.1))), (qo, .inl (cB, 16392, .inl (penL s0 (upL q (fun i9 => T.un (st + i9)) j ++ [92] ++ [u9])).2.2)), (t, .inr (12, MF 13 (tw T))), (T.au, .inl (cC, T.U, .inl T.un))] := hD
          refine lv_goto (tgt := 199) hx hb d_Mo_units_110 (by decide) ?_
          refine lv_iinc (v := nI (st + (j + 1))) (lv' := [(5, .int (nI (st + (j + 1)))), (7, .int 0), (6, .int u9), (0, .ref mo), (1, .ref t), (2, .int (nI st)), (3, .int (nI ln)), (4, .int q)]) hx hb d_Mo_units_199 hl (k := 7) rfl (nI_1 (st + j)) (by decide) rfl (fun ls hl => ?_)
          refine lv_goto (tgt := 9) hx hb d_Mo_units_202 (by decide) ?_
          have hek : escK u9 = 0 := by unfold escK; rw [if_pos c30]
          have hun : upL q (fun i9 => T.un (st + i9)) (j + 1) = upL q (fun i9 => T.un (st + i9)) j ++ [92] ++ [u9] := by
            show upL q (fun i9 => T.un (st + i9)) j ++ unB q (T.un (st + j)) = _
            rw [← hu9]
            unfold unB
            rw [if_pos (Or.inr c95)]
            simp only [List.append_assoc, List.cons_append, List.nil_append]; first | done | rfl
          rw [← hun] at hP hD
          exact ih (j + 1) _ _ _ (by omega) (by show ln - (j + 1) < ln - j; omega) hP hD hS (lv_sub hl [3, 4, 5, 6, 7, 0] rfl)
