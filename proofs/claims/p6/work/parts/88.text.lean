theorem z_972 : (.methodLink "QueryBench$Printer" 96 ⟨"QueryBench$Printer", "unit", "(II)V"⟩ : Cond) ∈ gtbl := gt_in 972 (by decide +kernel) (by decide +kernel)
theorem z_974 : (.instanceMethod ⟨"QueryBench$Printer", "unit", "(II)V"⟩ : Cond) ∈ gtbl := gt_in 974 (by decide +kernel) (by decide +kernel)
theorem z_976 : (.methodLink "QueryBench$Printer" 100 ⟨"QueryBench$Printer", "shortEscape", "(II)I"⟩ : Cond) ∈ gtbl := gt_in 976 (by decide +kernel) (by decide +kernel)
theorem z_977 : (.static ⟨"QueryBench$Printer", "shortEscape", "(II)I"⟩ : Cond) ∈ gtbl := gt_in 977 (by decide +kernel) (by decide +kernel)
theorem z_980 : (.methodLink "QueryBench$Printer" 73 ⟨"QueryBench$Printer", "putLetters", "(Ljava/lang/String;)V"⟩ : Cond) ∈ gtbl := gt_in 980 (by decide +kernel) (by decide +kernel)
theorem z_982 : (.instanceMethod ⟨"QueryBench$Printer", "putLetters", "(Ljava/lang/String;)V"⟩ : Cond) ∈ gtbl := gt_in 982 (by decide +kernel) (by decide +kernel)
section PoolRows2
variable {p : Program} {l : Launch} {e : Env} {R : Room} {s : State} {m : MethodId} {args : Array Value} {below : List Frame} {meth : Method} {c : Code} {H : Heap} {locs : List Loc} {cells slots : Nat} {Q : State → Prop}
variable {cc : ByteArray} {pc : Nat} {ls : Array Slot} {rest : List Value} {D : va_G} {cl : List vw_C} {A : Nat → Prop} {a : Nat} {tys : List (ClassId × FieldType)} {X : va_W} {L : List Nat} {f : Nat → va_E} {H0 : Heap} {ws : va_W}
/-- an object of the pool into a row beside it -/
theorem vq_ast (hexec : p.tables.exec = Jvm.exec) (hb : c.code = cc) (hK : va_K D cl tys s) (hP : va_P D cl (X ++ va_pl L f) H) (hD : va_D A (X ++ va_pl L f)) (hS : va_S A H0 H locs) (q0 t0 ci : Nat) {cA : ClassId} {C : String} {T : u_T} {N n v : Nat} {vs : List Value} {g : Nat → Option Nat} (ha : (X ++ va_pl L f)[q0]? = some (a, .inl (cA, n, .inr (.inr (.inr (.inr g)))))) (ht : tys[t0]? = some (cA, .object C)) (hv : v ∈ L) (he : f v = .inr (ci, vs)) (hc : cl[ci]? = some (C, T, N)) {j : Nat} (hj : j < n) (hn : n ≤ 1000000) (hdg : decode cc pc = .ok (.aastore, 1))
    (kk : ∀ (H1 : Heap) (locs1 : List Loc), va_P D cl ((X ++ va_pl L f).set q0 (a, .inl (cA, n, .inr (.inr (.inr (.inr (va_up g j (some v)))))))) H1 → va_D A ((X ++ va_pl L f).set q0 (a, .inl (cA, n, .inr (.inr (.inr (.inr (va_up g j (some v)))))))) → va_S A H0 H1 locs1 → W p l e R s m args below meth c H1 locs1 cells slots Q (F0 m (pc + 1) ls rest)) : W p l e R s m args below meth c H locs cells slots Q (F0 m pc ls (.ref v :: .int (nI j) :: .ref a :: rest)) := by
  obtain ⟨qk, h0⟩ := va_pl_get (X := X) (f := f) hv
  rw [he] at h0
  refine va_astq (r := (C, T, N)) hexec hb hK hP hD hS q0 t0 qk ci ha ht h0 hc (vp_in_nI hj (by omega)) hdg (fun H1 locs1 h1 h2 h3 => ?_)
  rw [nI_clamp (by omega)] at h1 h2
  exact kk H1 locs1 h1 h2 h3
/-- a row of values: what is known to be there -/
theorem vq_ald0 (hexec : p.tables.exec = Jvm.exec) (hb : c.code = cc) (hK : va_K D cl tys s) (hP : va_P D cl ws H) (q0 t0 : Nat) {cA : ClassId} {C : String} {n : Nat} {g : Nat → Option Nat} (ha : ws[q0]? = some (a, .inl (cA, n, .inr (.inr (.inr (.inr g)))))) (ht : tys[t0]? = some (cA, .object C)) {j : Nat} {o : Option Nat} (hj : j < n) (hn : n ≤ 1000000) (hg : g j = o) (hdg : decode cc pc = .ok (.aaload, 1))
    (kk : W p l e R s m args below meth c H locs cells slots Q (F0 m (pc + 1) ls (va_rf o :: rest))) : W p l e R s m args below meth c H locs cells slots Q (F0 m pc ls (.int (nI j) :: .ref a :: rest)) := by
  refine va_aldq hexec hb hK hP q0 t0 ha ht (vp_in_nI hj (by omega)) hdg ?_
  rw [nI_clamp (by omega), hg]
  exact kk
end PoolRows2
theorem nI_neg1 (j : Nat) : nI j - 1 = nI j + Int32.ofInt (-1) := by rw [Int32.sub_eq_add_neg]; rfl
abbrev sh5 (x : Int32) : Prop := x = 12 ∨ x = 8 ∨ x = 4 ∨ x = 0 ∨ x = -4
theorem sh5_s {x : Int32} (h : sh5 x) (h0 : ¬ x < 0) : sh5 (x + Int32.ofInt (-4)) ∧ (x + Int32.ofInt (-4) + 4).toInt.toNat < (x + 4).toInt.toNat := by
  rcases h with rfl | rfl | rfl | rfl | rfl
  · decide
  · decide
  · decide
  · decide
  · exact absurd (by decide) h0
abbrev b_Printer_unit : ByteArray := prog_5_method_10_code
def y_Printer_unit : MethodName := ⟨"QueryBench$Printer", "unit", "(II)V"⟩
abbrev k_Printer_unit : Cond := .code y_Printer_unit b_Printer_unit 5 none
theorem i_Printer_unit : k_Printer_unit ∈ gtbl := gt_in 975 (by decide +kernel) (by decide +kernel)
theorem d_Printer_unit_0 : decode b_Printer_unit 0 = .ok (.iload_n 1, 1) := by decide +kernel
theorem d_Printer_unit_1 : decode b_Printer_unit 1 = .ok (.iload_n 2, 1) := by decide +kernel
theorem d_Printer_unit_2 : decode b_Printer_unit 2 = .ok (.invokestatic 100, 3) := by decide +kernel
theorem d_Printer_unit_5 : decode b_Printer_unit 5 = .ok (.istore_n 3, 1) := by decide +kernel
theorem d_Printer_unit_6 : decode b_Printer_unit 6 = .ok (.iload_n 3, 1) := by decide +kernel
theorem d_Printer_unit_7 : decode b_Printer_unit 7 = .ok (.ifCond .eq 17, 3) := by decide +kernel
theorem d_Printer_unit_10 : decode b_Printer_unit 10 = .ok (.aload_n 0, 1) := by decide +kernel
theorem d_Printer_unit_11 : decode b_Printer_unit 11 = .ok (.bipush 92, 2) := by decide +kernel
theorem d_Printer_unit_13 : decode b_Printer_unit 13 = .ok (.invokevirtual 25, 3) := by decide +kernel
theorem d_Printer_unit_16 : decode b_Printer_unit 16 = .ok (.aload_n 0, 1) := by decide +kernel
theorem d_Printer_unit_17 : decode b_Printer_unit 17 = .ok (.iload_n 3, 1) := by decide +kernel
theorem d_Printer_unit_18 : decode b_Printer_unit 18 = .ok (.invokevirtual 25, 3) := by decide +kernel
theorem d_Printer_unit_21 : decode b_Printer_unit 21 = .ok (.goto 60, 3) := by decide +kernel
theorem d_Printer_unit_24 : decode b_Printer_unit 24 = .ok (.iload_n 1, 1) := by decide +kernel
theorem d_Printer_unit_25 : decode b_Printer_unit 25 = .ok (.bipush 32, 2) := by decide +kernel
theorem d_Printer_unit_27 : decode b_Printer_unit 27 = .ok (.if_icmp .lt 17, 3) := by decide +kernel
theorem d_Printer_unit_30 : decode b_Printer_unit 30 = .ok (.iload_n 1, 1) := by decide +kernel
theorem d_Printer_unit_31 : decode b_Printer_unit 31 = .ok (.bipush 126, 2) := by decide +kernel
theorem d_Printer_unit_33 : decode b_Printer_unit 33 = .ok (.if_icmp .gt 11, 3) := by decide +kernel
theorem d_Printer_unit_36 : decode b_Printer_unit 36 = .ok (.aload_n 0, 1) := by decide +kernel
theorem d_Printer_unit_37 : decode b_Printer_unit 37 = .ok (.iload_n 1, 1) := by decide +kernel
theorem d_Printer_unit_38 : decode b_Printer_unit 38 = .ok (.invokevirtual 25, 3) := by decide +kernel
theorem d_Printer_unit_41 : decode b_Printer_unit 41 = .ok (.goto 40, 3) := by decide +kernel
theorem d_Printer_unit_44 : decode b_Printer_unit 44 = .ok (.aload_n 0, 1) := by decide +kernel
theorem d_Printer_unit_45 : decode b_Printer_unit 45 = .ok (.ldc 104, 2) := by decide +kernel
theorem d_Printer_unit_47 : decode b_Printer_unit 47 = .ok (.invokevirtual 73, 3) := by decide +kernel
theorem d_Printer_unit_50 : decode b_Printer_unit 50 = .ok (.bipush 12, 2) := by decide +kernel
theorem d_Printer_unit_52 : decode b_Printer_unit 52 = .ok (.istore 4, 2) := by decide +kernel
theorem d_Printer_unit_54 : decode b_Printer_unit 54 = .ok (.iload 4, 2) := by decide +kernel
theorem d_Printer_unit_56 : decode b_Printer_unit 56 = .ok (.ifCond .lt 25, 3) := by decide +kernel
theorem d_Printer_unit_59 : decode b_Printer_unit 59 = .ok (.aload_n 0, 1) := by decide +kernel
theorem d_Printer_unit_60 : decode b_Printer_unit 60 = .ok (.ldc 106, 2) := by decide +kernel
theorem d_Printer_unit_62 : decode b_Printer_unit 62 = .ok (.iload_n 1, 1) := by decide +kernel
theorem d_Printer_unit_63 : decode b_Printer_unit 63 = .ok (.iload 4, 2) := by decide +kernel
theorem d_Printer_unit_65 : decode b_Printer_unit 65 = .ok (.ishr, 1) := by decide +kernel
theorem d_Printer_unit_66 : decode b_Printer_unit 66 = .ok (.bipush 15, 2) := by decide +kernel
theorem d_Printer_unit_68 : decode b_Printer_unit 68 = .ok (.iand, 1) := by decide +kernel
theorem d_Printer_unit_69 : decode b_Printer_unit 69 = .ok (.invokevirtual 45, 3) := by decide +kernel
theorem d_Printer_unit_72 : decode b_Printer_unit 72 = .ok (.invokevirtual 25, 3) := by decide +kernel
theorem d_Printer_unit_75 : decode b_Printer_unit 75 = .ok (.iinc 4 (-4), 3) := by decide +kernel
theorem d_Printer_unit_78 : decode b_Printer_unit 78 = .ok (.goto (-24), 3) := by decide +kernel
theorem d_Printer_unit_81 : decode b_Printer_unit 81 = .ok (.return_, 1) := by decide +kernel
abbrev b_Printer_text : ByteArray := prog_5_method_9_code
def y_Printer_text : MethodName := ⟨"QueryBench$Printer", "text", "([II)V"⟩
abbrev k_Printer_text : Cond := .code y_Printer_text b_Printer_text 4 none
theorem i_Printer_text : k_Printer_text ∈ gtbl := gt_in 971 (by decide +kernel) (by decide +kernel)
theorem d_Printer_text_0 : decode b_Printer_text 0 = .ok (.aload_n 0, 1) := by decide +kernel
theorem d_Printer_text_1 : decode b_Printer_text 1 = .ok (.iload_n 2, 1) := by decide +kernel
theorem d_Printer_text_2 : decode b_Printer_text 2 = .ok (.invokevirtual 25, 3) := by decide +kernel
theorem d_Printer_text_5 : decode b_Printer_text 5 = .ok (.iconst 0, 1) := by decide +kernel
theorem d_Printer_text_6 : decode b_Printer_text 6 = .ok (.istore_n 3, 1) := by decide +kernel
theorem d_Printer_text_7 : decode b_Printer_text 7 = .ok (.iload_n 3, 1) := by decide +kernel
theorem d_Printer_text_8 : decode b_Printer_text 8 = .ok (.aload_n 1, 1) := by decide +kernel
theorem d_Printer_text_9 : decode b_Printer_text 9 = .ok (.arraylength, 1) := by decide +kernel
theorem d_Printer_text_10 : decode b_Printer_text 10 = .ok (.if_icmp .ge 17, 3) := by decide +kernel
theorem d_Printer_text_13 : decode b_Printer_text 13 = .ok (.aload_n 0, 1) := by decide +kernel
theorem d_Printer_text_14 : decode b_Printer_text 14 = .ok (.aload_n 1, 1) := by decide +kernel
theorem d_Printer_text_15 : decode b_Printer_text 15 = .ok (.iload_n 3, 1) := by decide +kernel
theorem d_Printer_text_16 : decode b_Printer_text 16 = .ok (.iaload, 1) := by decide +kernel
theorem d_Printer_text_17 : decode b_Printer_text 17 = .ok (.iload_n 2, 1) := by decide +kernel
theorem d_Printer_text_18 : decode b_Printer_text 18 = .ok (.invokevirtual 96, 3) := by decide +kernel
theorem d_Printer_text_21 : decode b_Printer_text 21 = .ok (.iinc 3 1, 3) := by decide +kernel
theorem d_Printer_text_24 : decode b_Printer_text 24 = .ok (.goto (-17), 3) := by decide +kernel
theorem d_Printer_text_27 : decode b_Printer_text 27 = .ok (.aload_n 0, 1) := by decide +kernel
theorem d_Printer_text_28 : decode b_Printer_text 28 = .ok (.iload_n 2, 1) := by decide +kernel
theorem d_Printer_text_29 : decode b_Printer_text 29 = .ok (.invokevirtual 25, 3) := by decide +kernel
theorem d_Printer_text_32 : decode b_Printer_text 32 = .ok (.return_, 1) := by decide +kernel
