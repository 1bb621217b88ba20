theorem z_117 : (.fieldLink "QueryBench$Walk" 21 "QueryBench$Walk" "top" "I" : Cond) ∈ gtbl := gt_in 117 (by decide +kernel) (by decide +kernel)
theorem z_315 : (.fieldLink "QueryBench$Walk" 125 "QueryBench$Value" "kind" "I" : Cond) ∈ gtbl := gt_in 315 (by decide +kernel) (by decide +kernel)
theorem z_328 : (.fieldLink "QueryBench$Walk" 122 "QueryBench$Value" "members" "[LQueryBench$Value;" : Cond) ∈ gtbl := gt_in 328 (by decide +kernel) (by decide +kernel)
theorem z_839 : (.methodLink "QueryBench$Walk" 38 ⟨"QueryBench$Walk", "push", "(LQueryBench$Value;)V"⟩ : Cond) ∈ gtbl := gt_in 839 (by decide +kernel) (by decide +kernel)
theorem z_841 : (.instanceMethod ⟨"QueryBench$Walk", "push", "(LQueryBench$Value;)V"⟩ : Cond) ∈ gtbl := gt_in 841 (by decide +kernel) (by decide +kernel)
theorem z_843 : (.methodLink "QueryBench$Walk" 58 ⟨"QueryBench$Walk", "spend", "()V"⟩ : Cond) ∈ gtbl := gt_in 843 (by decide +kernel) (by decide +kernel)
theorem z_845 : (.instanceMethod ⟨"QueryBench$Walk", "spend", "()V"⟩ : Cond) ∈ gtbl := gt_in 845 (by decide +kernel) (by decide +kernel)
theorem z_861 : (.methodLink "QueryBench$Walk" 114 ⟨"QueryBench$Value", "member", "([I)LQueryBench$Value;"⟩ : Cond) ∈ gtbl := gt_in 861 (by decide +kernel) (by decide +kernel)
theorem z_874 : (.methodLink "QueryBench$Walk" 118 ⟨"QueryBench$Value", "size", "()I"⟩ : Cond) ∈ gtbl := gt_in 874 (by decide +kernel) (by decide +kernel)
theorem l_idx {x : Int64} {n : Nat} (h0 : 0 ≤ x.toInt) (h1 : x.toInt < n) (hn : n ≤ 4096) : ∃ j, j < n ∧ x = lN j := by
  refine ⟨x.toInt.toNat, by omega, ?_⟩
  apply Int64.toInt_inj.mp
  rw [pk_lT (by omega)]
  omega
theorem l_add {x y : Int64} (h0 : -4 ≤ x.toInt) (h1 : x.toInt ≤ 4096) (h2 : -9007199254740992 ≤ y.toInt) (h3 : y.toInt ≤ 9007199254740992) : (x + y).toInt = x.toInt + y.toInt := by
  rw [Int64.toInt_add]
  apply Int.bmod_eq_of_le <;> omega
theorem l_at {x : Int64} {n : Nat} (hn : n ≤ 4096) (h0 : ¬ lg_cmp x 0 < 0) (h1 : ¬ 0 ≤ lg_cmp x (nI n).toInt64) : ∃ j, j < n ∧ x = lN j := by
  have a0 : ¬ x < 0 := fun h => h0 ((lg_cmp_lt _ _).mpr h)
  have a1 : ¬ (nI n).toInt64 ≤ x := fun h => h1 ((lg_cmp_ge _ _).mpr h)
  obtain ⟨j, hj, rfl⟩ := pk_lOf a0
  rw [nI_l (by omega), pk_lLE (by omega) (by omega)] at a1
  exact ⟨j, by omega, rfl⟩
theorem i64_nI {n : Nat} (h : n ≤ 4096) : (nI n).toInt64.toInt = n := by rw [nI_l (by omega), pk_lT (by omega)]
abbrev b_Walk_push : ByteArray := prog_12_method_5_code
def y_Walk_push : MethodName := ⟨"QueryBench$Walk", "push", "(LQueryBench$Value;)V"⟩
abbrev k_Walk_push : Cond := .code y_Walk_push b_Walk_push 2 none
theorem i_Walk_push : k_Walk_push ∈ gtbl := gt_in 842 (by decide +kernel) (by decide +kernel)
theorem d_Walk_push_0 : decode b_Walk_push 0 = .ok (.aload_n 0, 1) := by decide +kernel
theorem d_Walk_push_1 : decode b_Walk_push 1 = .ok (.invokevirtual 58, 3) := by decide +kernel
theorem d_Walk_push_4 : decode b_Walk_push 4 = .ok (.aload_n 0, 1) := by decide +kernel
theorem d_Walk_push_5 : decode b_Walk_push 5 = .ok (.getfield 11, 3) := by decide +kernel
theorem d_Walk_push_8 : decode b_Walk_push 8 = .ok (.aload_n 0, 1) := by decide +kernel
theorem d_Walk_push_9 : decode b_Walk_push 9 = .ok (.getfield 21, 3) := by decide +kernel
theorem d_Walk_push_12 : decode b_Walk_push 12 = .ok (.aload_n 1, 1) := by decide +kernel
theorem d_Walk_push_13 : decode b_Walk_push 13 = .ok (.aastore, 1) := by decide +kernel
theorem d_Walk_push_14 : decode b_Walk_push 14 = .ok (.aload_n 0, 1) := by decide +kernel
theorem d_Walk_push_15 : decode b_Walk_push 15 = .ok (.dup, 1) := by decide +kernel
theorem d_Walk_push_16 : decode b_Walk_push 16 = .ok (.getfield 21, 3) := by decide +kernel
theorem d_Walk_push_19 : decode b_Walk_push 19 = .ok (.iconst 1, 1) := by decide +kernel
theorem d_Walk_push_20 : decode b_Walk_push 20 = .ok (.iadd, 1) := by decide +kernel
theorem d_Walk_push_21 : decode b_Walk_push 21 = .ok (.putfield 21, 3) := by decide +kernel
theorem d_Walk_push_24 : decode b_Walk_push 24 = .ok (.return_, 1) := by decide +kernel
abbrev b_Walk_pushNamed : ByteArray := prog_12_method_8_code
def y_Walk_pushNamed : MethodName := ⟨"QueryBench$Walk", "pushNamed", "(LQueryBench$Value;[I)V"⟩
abbrev k_Walk_pushNamed : Cond := .code y_Walk_pushNamed b_Walk_pushNamed 4 none
theorem i_Walk_pushNamed : k_Walk_pushNamed ∈ gtbl := gt_in 860 (by decide +kernel) (by decide +kernel)
theorem d_Walk_pushNamed_0 : decode b_Walk_pushNamed 0 = .ok (.aload_n 1, 1) := by decide +kernel
theorem d_Walk_pushNamed_1 : decode b_Walk_pushNamed 1 = .ok (.aload_n 2, 1) := by decide +kernel
theorem d_Walk_pushNamed_2 : decode b_Walk_pushNamed 2 = .ok (.invokevirtual 114, 3) := by decide +kernel
theorem d_Walk_pushNamed_5 : decode b_Walk_pushNamed 5 = .ok (.astore_n 3, 1) := by decide +kernel
theorem d_Walk_pushNamed_6 : decode b_Walk_pushNamed 6 = .ok (.aload_n 3, 1) := by decide +kernel
theorem d_Walk_pushNamed_7 : decode b_Walk_pushNamed 7 = .ok (.ifnull 8, 3) := by decide +kernel
theorem d_Walk_pushNamed_10 : decode b_Walk_pushNamed 10 = .ok (.aload_n 0, 1) := by decide +kernel
theorem d_Walk_pushNamed_11 : decode b_Walk_pushNamed 11 = .ok (.aload_n 3, 1) := by decide +kernel
theorem d_Walk_pushNamed_12 : decode b_Walk_pushNamed 12 = .ok (.invokevirtual 38, 3) := by decide +kernel
theorem d_Walk_pushNamed_15 : decode b_Walk_pushNamed 15 = .ok (.return_, 1) := by decide +kernel
abbrev b_Walk_pushAll : ByteArray := prog_12_method_9_code
def y_Walk_pushAll : MethodName := ⟨"QueryBench$Walk", "pushAll", "(LQueryBench$Value;)V"⟩
abbrev k_Walk_pushAll : Cond := .code y_Walk_pushAll b_Walk_pushAll 3 none
theorem i_Walk_pushAll : k_Walk_pushAll ∈ gtbl := gt_in 873 (by decide +kernel) (by decide +kernel)
theorem d_Walk_pushAll_0 : decode b_Walk_pushAll 0 = .ok (.iconst 0, 1) := by decide +kernel
theorem d_Walk_pushAll_1 : decode b_Walk_pushAll 1 = .ok (.istore_n 2, 1) := by decide +kernel
theorem d_Walk_pushAll_2 : decode b_Walk_pushAll 2 = .ok (.iload_n 2, 1) := by decide +kernel
theorem d_Walk_pushAll_3 : decode b_Walk_pushAll 3 = .ok (.aload_n 1, 1) := by decide +kernel
theorem d_Walk_pushAll_4 : decode b_Walk_pushAll 4 = .ok (.invokevirtual 118, 3) := by decide +kernel
theorem d_Walk_pushAll_7 : decode b_Walk_pushAll 7 = .ok (.if_icmp .ge 19, 3) := by decide +kernel
theorem d_Walk_pushAll_10 : decode b_Walk_pushAll 10 = .ok (.aload_n 0, 1) := by decide +kernel
theorem d_Walk_pushAll_11 : decode b_Walk_pushAll 11 = .ok (.aload_n 1, 1) := by decide +kernel
theorem d_Walk_pushAll_12 : decode b_Walk_pushAll 12 = .ok (.getfield 122, 3) := by decide +kernel
theorem d_Walk_pushAll_15 : decode b_Walk_pushAll 15 = .ok (.iload_n 2, 1) := by decide +kernel
theorem d_Walk_pushAll_16 : decode b_Walk_pushAll 16 = .ok (.aaload, 1) := by decide +kernel
theorem d_Walk_pushAll_17 : decode b_Walk_pushAll 17 = .ok (.invokevirtual 38, 3) := by decide +kernel
theorem d_Walk_pushAll_20 : decode b_Walk_pushAll 20 = .ok (.iinc 2 1, 3) := by decide +kernel
theorem d_Walk_pushAll_23 : decode b_Walk_pushAll 23 = .ok (.goto (-21), 3) := by decide +kernel
theorem d_Walk_pushAll_26 : decode b_Walk_pushAll 26 = .ok (.return_, 1) := by decide +kernel
abbrev b_Walk_pushAt : ByteArray := prog_12_method_10_code
def y_Walk_pushAt : MethodName := ⟨"QueryBench$Walk", "pushAt", "(LQueryBench$Value;J)V"⟩
abbrev k_Walk_pushAt : Cond := .code y_Walk_pushAt b_Walk_pushAt 6 none
theorem i_Walk_pushAt : k_Walk_pushAt ∈ gtbl := gt_in 878 (by decide +kernel) (by decide +kernel)
theorem d_Walk_pushAt_0 : decode b_Walk_pushAt 0 = .ok (.lload_n 2, 1) := by decide +kernel
theorem d_Walk_pushAt_1 : decode b_Walk_pushAt 1 = .ok (.lconst 0, 1) := by decide +kernel
theorem d_Walk_pushAt_2 : decode b_Walk_pushAt 2 = .ok (.lcmp, 1) := by decide +kernel
theorem d_Walk_pushAt_3 : decode b_Walk_pushAt 3 = .ok (.ifCond .ge 13, 3) := by decide +kernel
theorem d_Walk_pushAt_6 : decode b_Walk_pushAt 6 = .ok (.lload_n 2, 1) := by decide +kernel
theorem d_Walk_pushAt_7 : decode b_Walk_pushAt 7 = .ok (.aload_n 1, 1) := by decide +kernel
theorem d_Walk_pushAt_8 : decode b_Walk_pushAt 8 = .ok (.invokevirtual 118, 3) := by decide +kernel
theorem d_Walk_pushAt_11 : decode b_Walk_pushAt 11 = .ok (.i2l, 1) := by decide +kernel
theorem d_Walk_pushAt_12 : decode b_Walk_pushAt 12 = .ok (.ladd, 1) := by decide +kernel
theorem d_Walk_pushAt_13 : decode b_Walk_pushAt 13 = .ok (.goto 4, 3) := by decide +kernel
theorem d_Walk_pushAt_16 : decode b_Walk_pushAt 16 = .ok (.lload_n 2, 1) := by decide +kernel
theorem d_Walk_pushAt_17 : decode b_Walk_pushAt 17 = .ok (.lstore 4, 2) := by decide +kernel
theorem d_Walk_pushAt_19 : decode b_Walk_pushAt 19 = .ok (.aload_n 1, 1) := by decide +kernel
theorem d_Walk_pushAt_20 : decode b_Walk_pushAt 20 = .ok (.getfield 125, 3) := by decide +kernel
theorem d_Walk_pushAt_23 : decode b_Walk_pushAt 23 = .ok (.iconst 5, 1) := by decide +kernel
theorem d_Walk_pushAt_24 : decode b_Walk_pushAt 24 = .ok (.if_icmp .ne 33, 3) := by decide +kernel
theorem d_Walk_pushAt_27 : decode b_Walk_pushAt 27 = .ok (.lload 4, 2) := by decide +kernel
theorem d_Walk_pushAt_29 : decode b_Walk_pushAt 29 = .ok (.lconst 0, 1) := by decide +kernel
theorem d_Walk_pushAt_30 : decode b_Walk_pushAt 30 = .ok (.lcmp, 1) := by decide +kernel
theorem d_Walk_pushAt_31 : decode b_Walk_pushAt 31 = .ok (.ifCond .lt 26, 3) := by decide +kernel
theorem d_Walk_pushAt_34 : decode b_Walk_pushAt 34 = .ok (.lload 4, 2) := by decide +kernel
theorem d_Walk_pushAt_36 : decode b_Walk_pushAt 36 = .ok (.aload_n 1, 1) := by decide +kernel
theorem d_Walk_pushAt_37 : decode b_Walk_pushAt 37 = .ok (.invokevirtual 118, 3) := by decide +kernel
theorem d_Walk_pushAt_40 : decode b_Walk_pushAt 40 = .ok (.i2l, 1) := by decide +kernel
theorem d_Walk_pushAt_41 : decode b_Walk_pushAt 41 = .ok (.lcmp, 1) := by decide +kernel
theorem d_Walk_pushAt_42 : decode b_Walk_pushAt 42 = .ok (.ifCond .ge 15, 3) := by decide +kernel
theorem d_Walk_pushAt_45 : decode b_Walk_pushAt 45 = .ok (.aload_n 0, 1) := by decide +kernel
theorem d_Walk_pushAt_46 : decode b_Walk_pushAt 46 = .ok (.aload_n 1, 1) := by decide +kernel
theorem d_Walk_pushAt_47 : decode b_Walk_pushAt 47 = .ok (.getfield 122, 3) := by decide +kernel
theorem d_Walk_pushAt_50 : decode b_Walk_pushAt 50 = .ok (.lload 4, 2) := by decide +kernel
theorem d_Walk_pushAt_52 : decode b_Walk_pushAt 52 = .ok (.l2i, 1) := by decide +kernel
theorem d_Walk_pushAt_53 : decode b_Walk_pushAt 53 = .ok (.aaload, 1) := by decide +kernel
theorem d_Walk_pushAt_54 : decode b_Walk_pushAt 54 = .ok (.invokevirtual 38, 3) := by decide +kernel
theorem d_Walk_pushAt_57 : decode b_Walk_pushAt 57 = .ok (.return_, 1) := by decide +kernel
