theorem z_862 : (.instanceMethod ⟨"QueryBench$Value", "member", "([I)LQueryBench$Value;"⟩ : Cond) ∈ gtbl := gt_in 862 (by decide +kernel) (by decide +kernel)
theorem z_863 : (.selects "QueryBench$Value" ⟨"QueryBench$Value", "member", "([I)LQueryBench$Value;"⟩ ⟨"QueryBench$Value", "member", "([I)LQueryBench$Value;"⟩ : Cond) ∈ gtbl := gt_in 863 (by decide +kernel) (by decide +kernel)
theorem z_931 : (.methodLink "QueryBench$Value" 38 ⟨"QueryBench$Value", "sameFrom", "(LQueryBench$Value;LQueryBench$Value;I)Z"⟩ : Cond) ∈ gtbl := gt_in 931 (by decide +kernel) (by decide +kernel)
theorem z_932 : (.static ⟨"QueryBench$Value", "sameFrom", "(LQueryBench$Value;LQueryBench$Value;I)Z"⟩ : Cond) ∈ gtbl := gt_in 932 (by decide +kernel) (by decide +kernel)
theorem z_934 : (.methodLink "QueryBench$Value" 46 ⟨"QueryBench$Value", "member", "([I)LQueryBench$Value;"⟩ : Cond) ∈ gtbl := gt_in 934 (by decide +kernel) (by decide +kernel)
abbrev b_Value_sameFrom : ByteArray := prog_11_method_6_code
def y_Value_sameFrom : MethodName := ⟨"QueryBench$Value", "sameFrom", "(LQueryBench$Value;LQueryBench$Value;I)Z"⟩
abbrev k_Value_sameFrom : Cond := .code y_Value_sameFrom b_Value_sameFrom 5 (some .boolean)
theorem i_Value_sameFrom : k_Value_sameFrom ∈ gtbl := gt_in 933 (by decide +kernel) (by decide +kernel)
theorem d_Value_sameFrom_0 : decode b_Value_sameFrom 0 = .ok (.aload_n 0, 1) := by decide +kernel
theorem d_Value_sameFrom_1 : decode b_Value_sameFrom 1 = .ok (.getfield 9, 3) := by decide +kernel
theorem d_Value_sameFrom_4 : decode b_Value_sameFrom 4 = .ok (.aload_n 1, 1) := by decide +kernel
theorem d_Value_sameFrom_5 : decode b_Value_sameFrom 5 = .ok (.getfield 9, 3) := by decide +kernel
theorem d_Value_sameFrom_8 : decode b_Value_sameFrom 8 = .ok (.if_icmp .ne 20, 3) := by decide +kernel
theorem d_Value_sameFrom_11 : decode b_Value_sameFrom 11 = .ok (.aload_n 0, 1) := by decide +kernel
theorem d_Value_sameFrom_12 : decode b_Value_sameFrom 12 = .ok (.invokevirtual 19, 3) := by decide +kernel
theorem d_Value_sameFrom_15 : decode b_Value_sameFrom 15 = .ok (.aload_n 1, 1) := by decide +kernel
theorem d_Value_sameFrom_16 : decode b_Value_sameFrom 16 = .ok (.invokevirtual 19, 3) := by decide +kernel
theorem d_Value_sameFrom_19 : decode b_Value_sameFrom 19 = .ok (.if_icmp .ne 9, 3) := by decide +kernel
theorem d_Value_sameFrom_22 : decode b_Value_sameFrom 22 = .ok (.iload_n 2, 1) := by decide +kernel
theorem d_Value_sameFrom_23 : decode b_Value_sameFrom 23 = .ok (.bipush 32, 2) := by decide +kernel
theorem d_Value_sameFrom_25 : decode b_Value_sameFrom 25 = .ok (.if_icmp .le 5, 3) := by decide +kernel
theorem d_Value_sameFrom_28 : decode b_Value_sameFrom 28 = .ok (.iconst 0, 1) := by decide +kernel
theorem d_Value_sameFrom_29 : decode b_Value_sameFrom 29 = .ok (.ireturn, 1) := by decide +kernel
theorem d_Value_sameFrom_30 : decode b_Value_sameFrom 30 = .ok (.aload_n 0, 1) := by decide +kernel
theorem d_Value_sameFrom_31 : decode b_Value_sameFrom 31 = .ok (.getfield 9, 3) := by decide +kernel
theorem d_Value_sameFrom_34 : decode b_Value_sameFrom 34 = .ok (.iconst 3, 1) := by decide +kernel
theorem d_Value_sameFrom_35 : decode b_Value_sameFrom 35 = .ok (.if_icmp .ne 21, 3) := by decide +kernel
theorem d_Value_sameFrom_38 : decode b_Value_sameFrom 38 = .ok (.aload_n 0, 1) := by decide +kernel
theorem d_Value_sameFrom_39 : decode b_Value_sameFrom 39 = .ok (.getfield 42, 3) := by decide +kernel
theorem d_Value_sameFrom_42 : decode b_Value_sameFrom 42 = .ok (.aload_n 1, 1) := by decide +kernel
theorem d_Value_sameFrom_43 : decode b_Value_sameFrom 43 = .ok (.getfield 42, 3) := by decide +kernel
theorem d_Value_sameFrom_46 : decode b_Value_sameFrom 46 = .ok (.lcmp, 1) := by decide +kernel
theorem d_Value_sameFrom_47 : decode b_Value_sameFrom 47 = .ok (.ifCond .ne 7, 3) := by decide +kernel
theorem d_Value_sameFrom_50 : decode b_Value_sameFrom 50 = .ok (.iconst 1, 1) := by decide +kernel
theorem d_Value_sameFrom_51 : decode b_Value_sameFrom 51 = .ok (.goto 4, 3) := by decide +kernel
theorem d_Value_sameFrom_54 : decode b_Value_sameFrom 54 = .ok (.iconst 0, 1) := by decide +kernel
theorem d_Value_sameFrom_55 : decode b_Value_sameFrom 55 = .ok (.ireturn, 1) := by decide +kernel
theorem d_Value_sameFrom_56 : decode b_Value_sameFrom 56 = .ok (.aload_n 0, 1) := by decide +kernel
theorem d_Value_sameFrom_57 : decode b_Value_sameFrom 57 = .ok (.getfield 9, 3) := by decide +kernel
theorem d_Value_sameFrom_60 : decode b_Value_sameFrom 60 = .ok (.iconst 4, 1) := by decide +kernel
theorem d_Value_sameFrom_61 : decode b_Value_sameFrom 61 = .ok (.if_icmp .ne 15, 3) := by decide +kernel
theorem d_Value_sameFrom_64 : decode b_Value_sameFrom 64 = .ok (.aload_n 0, 1) := by decide +kernel
theorem d_Value_sameFrom_65 : decode b_Value_sameFrom 65 = .ok (.getfield 31, 3) := by decide +kernel
theorem d_Value_sameFrom_68 : decode b_Value_sameFrom 68 = .ok (.aload_n 1, 1) := by decide +kernel
theorem d_Value_sameFrom_69 : decode b_Value_sameFrom 69 = .ok (.getfield 31, 3) := by decide +kernel
theorem d_Value_sameFrom_72 : decode b_Value_sameFrom 72 = .ok (.invokestatic 27, 3) := by decide +kernel
theorem d_Value_sameFrom_75 : decode b_Value_sameFrom 75 = .ok (.ireturn, 1) := by decide +kernel
theorem d_Value_sameFrom_76 : decode b_Value_sameFrom 76 = .ok (.iconst 0, 1) := by decide +kernel
theorem d_Value_sameFrom_77 : decode b_Value_sameFrom 77 = .ok (.istore_n 3, 1) := by decide +kernel
theorem d_Value_sameFrom_78 : decode b_Value_sameFrom 78 = .ok (.iload_n 3, 1) := by decide +kernel
theorem d_Value_sameFrom_79 : decode b_Value_sameFrom 79 = .ok (.aload_n 0, 1) := by decide +kernel
theorem d_Value_sameFrom_80 : decode b_Value_sameFrom 80 = .ok (.invokevirtual 19, 3) := by decide +kernel
theorem d_Value_sameFrom_83 : decode b_Value_sameFrom 83 = .ok (.if_icmp .ge 65, 3) := by decide +kernel
theorem d_Value_sameFrom_86 : decode b_Value_sameFrom 86 = .ok (.aload_n 0, 1) := by decide +kernel
theorem d_Value_sameFrom_87 : decode b_Value_sameFrom 87 = .ok (.getfield 9, 3) := by decide +kernel
theorem d_Value_sameFrom_90 : decode b_Value_sameFrom 90 = .ok (.iconst 5, 1) := by decide +kernel
theorem d_Value_sameFrom_91 : decode b_Value_sameFrom 91 = .ok (.if_icmp .ne 12, 3) := by decide +kernel
theorem d_Value_sameFrom_94 : decode b_Value_sameFrom 94 = .ok (.aload_n 1, 1) := by decide +kernel
theorem d_Value_sameFrom_95 : decode b_Value_sameFrom 95 = .ok (.getfield 15, 3) := by decide +kernel
theorem d_Value_sameFrom_98 : decode b_Value_sameFrom 98 = .ok (.iload_n 3, 1) := by decide +kernel
theorem d_Value_sameFrom_99 : decode b_Value_sameFrom 99 = .ok (.aaload, 1) := by decide +kernel
theorem d_Value_sameFrom_100 : decode b_Value_sameFrom 100 = .ok (.goto 16, 3) := by decide +kernel
theorem d_Value_sameFrom_103 : decode b_Value_sameFrom 103 = .ok (.aload_n 1, 1) := by decide +kernel
theorem d_Value_sameFrom_104 : decode b_Value_sameFrom 104 = .ok (.aload_n 0, 1) := by decide +kernel
theorem d_Value_sameFrom_105 : decode b_Value_sameFrom 105 = .ok (.getfield 15, 3) := by decide +kernel
theorem d_Value_sameFrom_108 : decode b_Value_sameFrom 108 = .ok (.iload_n 3, 1) := by decide +kernel
theorem d_Value_sameFrom_109 : decode b_Value_sameFrom 109 = .ok (.aaload, 1) := by decide +kernel
theorem d_Value_sameFrom_110 : decode b_Value_sameFrom 110 = .ok (.getfield 23, 3) := by decide +kernel
theorem d_Value_sameFrom_113 : decode b_Value_sameFrom 113 = .ok (.invokevirtual 46, 3) := by decide +kernel
theorem d_Value_sameFrom_116 : decode b_Value_sameFrom 116 = .ok (.astore 4, 2) := by decide +kernel
theorem d_Value_sameFrom_118 : decode b_Value_sameFrom 118 = .ok (.aload 4, 2) := by decide +kernel
theorem d_Value_sameFrom_120 : decode b_Value_sameFrom 120 = .ok (.ifnull 20, 3) := by decide +kernel
theorem d_Value_sameFrom_123 : decode b_Value_sameFrom 123 = .ok (.aload_n 0, 1) := by decide +kernel
theorem d_Value_sameFrom_124 : decode b_Value_sameFrom 124 = .ok (.getfield 15, 3) := by decide +kernel
theorem d_Value_sameFrom_127 : decode b_Value_sameFrom 127 = .ok (.iload_n 3, 1) := by decide +kernel
theorem d_Value_sameFrom_128 : decode b_Value_sameFrom 128 = .ok (.aaload, 1) := by decide +kernel
theorem d_Value_sameFrom_129 : decode b_Value_sameFrom 129 = .ok (.aload 4, 2) := by decide +kernel
theorem d_Value_sameFrom_131 : decode b_Value_sameFrom 131 = .ok (.iload_n 2, 1) := by decide +kernel
theorem d_Value_sameFrom_132 : decode b_Value_sameFrom 132 = .ok (.iconst 1, 1) := by decide +kernel
theorem d_Value_sameFrom_133 : decode b_Value_sameFrom 133 = .ok (.iadd, 1) := by decide +kernel
theorem d_Value_sameFrom_134 : decode b_Value_sameFrom 134 = .ok (.invokestatic 38, 3) := by decide +kernel
theorem d_Value_sameFrom_137 : decode b_Value_sameFrom 137 = .ok (.ifCond .ne 5, 3) := by decide +kernel
theorem d_Value_sameFrom_140 : decode b_Value_sameFrom 140 = .ok (.iconst 0, 1) := by decide +kernel
theorem d_Value_sameFrom_141 : decode b_Value_sameFrom 141 = .ok (.ireturn, 1) := by decide +kernel
theorem d_Value_sameFrom_142 : decode b_Value_sameFrom 142 = .ok (.iinc 3 1, 3) := by decide +kernel
theorem d_Value_sameFrom_145 : decode b_Value_sameFrom 145 = .ok (.goto (-67), 3) := by decide +kernel
theorem d_Value_sameFrom_148 : decode b_Value_sameFrom 148 = .ok (.iconst 1, 1) := by decide +kernel
theorem d_Value_sameFrom_149 : decode b_Value_sameFrom 149 = .ok (.ireturn, 1) := by decide +kernel
abbrev b_Value_same : ByteArray := prog_11_method_5_code
def y_Value_same : MethodName := ⟨"QueryBench$Value", "same", "(LQueryBench$Value;LQueryBench$Value;)Z"⟩
abbrev k_Value_same : Cond := .code y_Value_same b_Value_same 2 (some .boolean)
theorem i_Value_same : k_Value_same ∈ gtbl := gt_in 930 (by decide +kernel) (by decide +kernel)
theorem d_Value_same_0 : decode b_Value_same 0 = .ok (.aload_n 0, 1) := by decide +kernel
theorem d_Value_same_1 : decode b_Value_same 1 = .ok (.ifnull 7, 3) := by decide +kernel
theorem d_Value_same_4 : decode b_Value_same 4 = .ok (.aload_n 1, 1) := by decide +kernel
theorem d_Value_same_5 : decode b_Value_same 5 = .ok (.ifnonnull 17, 3) := by decide +kernel
theorem d_Value_same_8 : decode b_Value_same 8 = .ok (.aload_n 0, 1) := by decide +kernel
theorem d_Value_same_9 : decode b_Value_same 9 = .ok (.ifnonnull 11, 3) := by decide +kernel
theorem d_Value_same_12 : decode b_Value_same 12 = .ok (.aload_n 1, 1) := by decide +kernel
theorem d_Value_same_13 : decode b_Value_same 13 = .ok (.ifnonnull 7, 3) := by decide +kernel
theorem d_Value_same_16 : decode b_Value_same 16 = .ok (.iconst 1, 1) := by decide +kernel
theorem d_Value_same_17 : decode b_Value_same 17 = .ok (.goto 4, 3) := by decide +kernel
theorem d_Value_same_20 : decode b_Value_same 20 = .ok (.iconst 0, 1) := by decide +kernel
theorem d_Value_same_21 : decode b_Value_same 21 = .ok (.ireturn, 1) := by decide +kernel
theorem d_Value_same_22 : decode b_Value_same 22 = .ok (.aload_n 0, 1) := by decide +kernel
theorem d_Value_same_23 : decode b_Value_same 23 = .ok (.aload_n 1, 1) := by decide +kernel
theorem d_Value_same_24 : decode b_Value_same 24 = .ok (.iconst 0, 1) := by decide +kernel
theorem d_Value_same_25 : decode b_Value_same 25 = .ok (.invokestatic 38, 3) := by decide +kernel
theorem d_Value_same_28 : decode b_Value_same 28 = .ok (.ireturn, 1) := by decide +kernel
