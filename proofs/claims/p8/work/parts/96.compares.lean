theorem z_677 : (.fieldLink "QueryBench$Walk" 156 "QueryBench$Condition" "kind" "I" : Cond) ∈ gtbl := gt_in 677 (by decide +kernel) (by decide +kernel)
theorem z_681 : (.fieldLink "QueryBench$Walk" 177 "QueryBench$Condition" "next" "LQueryBench$Condition;" : Cond) ∈ gtbl := gt_in 681 (by decide +kernel) (by decide +kernel)
theorem z_684 : (.fieldLink "QueryBench$Walk" 179 "QueryBench$Condition" "left" "LQueryBench$Operand;" : Cond) ∈ gtbl := gt_in 684 (by decide +kernel) (by decide +kernel)
theorem z_686 : (.fieldLink "QueryBench$Walk" 187 "QueryBench$Condition" "right" "LQueryBench$Operand;" : Cond) ∈ gtbl := gt_in 686 (by decide +kernel) (by decide +kernel)
theorem z_835 : (.methodLink "QueryBench$Walk" 28 ⟨"QueryBench$Walk", "nodes", "(LQueryBench$Query;LQueryBench$Value;)I"⟩ : Cond) ∈ gtbl := gt_in 835 (by decide +kernel) (by decide +kernel)
theorem z_837 : (.instanceMethod ⟨"QueryBench$Walk", "nodes", "(LQueryBench$Query;LQueryBench$Value;)I"⟩ : Cond) ∈ gtbl := gt_in 837 (by decide +kernel) (by decide +kernel)
theorem z_915 : (.methodLink "QueryBench$Walk" 183 ⟨"QueryBench$Walk", "valueOf", "(LQueryBench$Operand;LQueryBench$Value;)LQueryBench$Value;"⟩ : Cond) ∈ gtbl := gt_in 915 (by decide +kernel) (by decide +kernel)
theorem z_917 : (.instanceMethod ⟨"QueryBench$Walk", "valueOf", "(LQueryBench$Operand;LQueryBench$Value;)LQueryBench$Value;"⟩ : Cond) ∈ gtbl := gt_in 917 (by decide +kernel) (by decide +kernel)
theorem z_928 : (.methodLink "QueryBench$Walk" 190 ⟨"QueryBench$Value", "same", "(LQueryBench$Value;LQueryBench$Value;)Z"⟩ : Cond) ∈ gtbl := gt_in 928 (by decide +kernel) (by decide +kernel)
theorem z_929 : (.static ⟨"QueryBench$Value", "same", "(LQueryBench$Value;LQueryBench$Value;)Z"⟩ : Cond) ∈ gtbl := gt_in 929 (by decide +kernel) (by decide +kernel)
theorem z_935 : (.methodLink "QueryBench$Walk" 194 ⟨"QueryBench$Value", "less", "(LQueryBench$Value;LQueryBench$Value;)Z"⟩ : Cond) ∈ gtbl := gt_in 935 (by decide +kernel) (by decide +kernel)
theorem z_936 : (.static ⟨"QueryBench$Value", "less", "(LQueryBench$Value;LQueryBench$Value;)Z"⟩ : Cond) ∈ gtbl := gt_in 936 (by decide +kernel) (by decide +kernel)
abbrev b_Walk_anyHolds : ByteArray := prog_12_method_15_code
def y_Walk_anyHolds : MethodName := ⟨"QueryBench$Walk", "anyHolds", "(LQueryBench$Condition;LQueryBench$Value;)Z"⟩
abbrev k_Walk_anyHolds : Cond := .code y_Walk_anyHolds b_Walk_anyHolds 4 (some .boolean)
theorem i_Walk_anyHolds : k_Walk_anyHolds ∈ gtbl := gt_in 902 (by decide +kernel) (by decide +kernel)
theorem d_Walk_anyHolds_0 : decode b_Walk_anyHolds 0 = .ok (.aload_n 1, 1) := by decide +kernel
theorem d_Walk_anyHolds_1 : decode b_Walk_anyHolds 1 = .ok (.astore_n 3, 1) := by decide +kernel
theorem d_Walk_anyHolds_2 : decode b_Walk_anyHolds 2 = .ok (.aload_n 3, 1) := by decide +kernel
theorem d_Walk_anyHolds_3 : decode b_Walk_anyHolds 3 = .ok (.ifnull 22, 3) := by decide +kernel
theorem d_Walk_anyHolds_6 : decode b_Walk_anyHolds 6 = .ok (.aload_n 0, 1) := by decide +kernel
theorem d_Walk_anyHolds_7 : decode b_Walk_anyHolds 7 = .ok (.aload_n 3, 1) := by decide +kernel
theorem d_Walk_anyHolds_8 : decode b_Walk_anyHolds 8 = .ok (.aload_n 2, 1) := by decide +kernel
theorem d_Walk_anyHolds_9 : decode b_Walk_anyHolds 9 = .ok (.invokevirtual 152, 3) := by decide +kernel
theorem d_Walk_anyHolds_12 : decode b_Walk_anyHolds 12 = .ok (.ifCond .eq 5, 3) := by decide +kernel
theorem d_Walk_anyHolds_15 : decode b_Walk_anyHolds 15 = .ok (.iconst 1, 1) := by decide +kernel
theorem d_Walk_anyHolds_16 : decode b_Walk_anyHolds 16 = .ok (.ireturn, 1) := by decide +kernel
theorem d_Walk_anyHolds_17 : decode b_Walk_anyHolds 17 = .ok (.aload_n 3, 1) := by decide +kernel
theorem d_Walk_anyHolds_18 : decode b_Walk_anyHolds 18 = .ok (.getfield 177, 3) := by decide +kernel
theorem d_Walk_anyHolds_21 : decode b_Walk_anyHolds 21 = .ok (.astore_n 3, 1) := by decide +kernel
theorem d_Walk_anyHolds_22 : decode b_Walk_anyHolds 22 = .ok (.goto (-20), 3) := by decide +kernel
theorem d_Walk_anyHolds_25 : decode b_Walk_anyHolds 25 = .ok (.iconst 0, 1) := by decide +kernel
theorem d_Walk_anyHolds_26 : decode b_Walk_anyHolds 26 = .ok (.ireturn, 1) := by decide +kernel
abbrev b_Walk_allHold : ByteArray := prog_12_method_16_code
def y_Walk_allHold : MethodName := ⟨"QueryBench$Walk", "allHold", "(LQueryBench$Condition;LQueryBench$Value;)Z"⟩
abbrev k_Walk_allHold : Cond := .code y_Walk_allHold b_Walk_allHold 4 (some .boolean)
theorem i_Walk_allHold : k_Walk_allHold ∈ gtbl := gt_in 906 (by decide +kernel) (by decide +kernel)
theorem d_Walk_allHold_0 : decode b_Walk_allHold 0 = .ok (.aload_n 1, 1) := by decide +kernel
theorem d_Walk_allHold_1 : decode b_Walk_allHold 1 = .ok (.astore_n 3, 1) := by decide +kernel
theorem d_Walk_allHold_2 : decode b_Walk_allHold 2 = .ok (.aload_n 3, 1) := by decide +kernel
theorem d_Walk_allHold_3 : decode b_Walk_allHold 3 = .ok (.ifnull 22, 3) := by decide +kernel
theorem d_Walk_allHold_6 : decode b_Walk_allHold 6 = .ok (.aload_n 0, 1) := by decide +kernel
theorem d_Walk_allHold_7 : decode b_Walk_allHold 7 = .ok (.aload_n 3, 1) := by decide +kernel
theorem d_Walk_allHold_8 : decode b_Walk_allHold 8 = .ok (.aload_n 2, 1) := by decide +kernel
theorem d_Walk_allHold_9 : decode b_Walk_allHold 9 = .ok (.invokevirtual 152, 3) := by decide +kernel
theorem d_Walk_allHold_12 : decode b_Walk_allHold 12 = .ok (.ifCond .ne 5, 3) := by decide +kernel
theorem d_Walk_allHold_15 : decode b_Walk_allHold 15 = .ok (.iconst 0, 1) := by decide +kernel
theorem d_Walk_allHold_16 : decode b_Walk_allHold 16 = .ok (.ireturn, 1) := by decide +kernel
theorem d_Walk_allHold_17 : decode b_Walk_allHold 17 = .ok (.aload_n 3, 1) := by decide +kernel
theorem d_Walk_allHold_18 : decode b_Walk_allHold 18 = .ok (.getfield 177, 3) := by decide +kernel
theorem d_Walk_allHold_21 : decode b_Walk_allHold 21 = .ok (.astore_n 3, 1) := by decide +kernel
theorem d_Walk_allHold_22 : decode b_Walk_allHold 22 = .ok (.goto (-20), 3) := by decide +kernel
theorem d_Walk_allHold_25 : decode b_Walk_allHold 25 = .ok (.iconst 1, 1) := by decide +kernel
theorem d_Walk_allHold_26 : decode b_Walk_allHold 26 = .ok (.ireturn, 1) := by decide +kernel
abbrev b_Walk_nodeCount : ByteArray := prog_12_method_19_code
def y_Walk_nodeCount : MethodName := ⟨"QueryBench$Walk", "nodeCount", "(LQueryBench$Query;LQueryBench$Value;)I"⟩
abbrev k_Walk_nodeCount : Cond := .code y_Walk_nodeCount b_Walk_nodeCount 6 (some .int)
theorem i_Walk_nodeCount : k_Walk_nodeCount ∈ gtbl := gt_in 910 (by decide +kernel) (by decide +kernel)
theorem d_Walk_nodeCount_0 : decode b_Walk_nodeCount 0 = .ok (.aload_n 0, 1) := by decide +kernel
theorem d_Walk_nodeCount_1 : decode b_Walk_nodeCount 1 = .ok (.getfield 21, 3) := by decide +kernel
theorem d_Walk_nodeCount_4 : decode b_Walk_nodeCount 4 = .ok (.istore_n 3, 1) := by decide +kernel
theorem d_Walk_nodeCount_5 : decode b_Walk_nodeCount 5 = .ok (.aload_n 0, 1) := by decide +kernel
theorem d_Walk_nodeCount_6 : decode b_Walk_nodeCount 6 = .ok (.aload_n 1, 1) := by decide +kernel
theorem d_Walk_nodeCount_7 : decode b_Walk_nodeCount 7 = .ok (.aload_n 2, 1) := by decide +kernel
theorem d_Walk_nodeCount_8 : decode b_Walk_nodeCount 8 = .ok (.invokevirtual 28, 3) := by decide +kernel
theorem d_Walk_nodeCount_11 : decode b_Walk_nodeCount 11 = .ok (.istore 4, 2) := by decide +kernel
theorem d_Walk_nodeCount_13 : decode b_Walk_nodeCount 13 = .ok (.aload_n 0, 1) := by decide +kernel
theorem d_Walk_nodeCount_14 : decode b_Walk_nodeCount 14 = .ok (.getfield 21, 3) := by decide +kernel
theorem d_Walk_nodeCount_17 : decode b_Walk_nodeCount 17 = .ok (.iload 4, 2) := by decide +kernel
theorem d_Walk_nodeCount_19 : decode b_Walk_nodeCount 19 = .ok (.isub, 1) := by decide +kernel
theorem d_Walk_nodeCount_20 : decode b_Walk_nodeCount 20 = .ok (.istore 5, 2) := by decide +kernel
theorem d_Walk_nodeCount_22 : decode b_Walk_nodeCount 22 = .ok (.aload_n 0, 1) := by decide +kernel
theorem d_Walk_nodeCount_23 : decode b_Walk_nodeCount 23 = .ok (.iload_n 3, 1) := by decide +kernel
theorem d_Walk_nodeCount_24 : decode b_Walk_nodeCount 24 = .ok (.putfield 21, 3) := by decide +kernel
theorem d_Walk_nodeCount_27 : decode b_Walk_nodeCount 27 = .ok (.iload 5, 2) := by decide +kernel
theorem d_Walk_nodeCount_29 : decode b_Walk_nodeCount 29 = .ok (.ireturn, 1) := by decide +kernel
abbrev b_Walk_onlyNode : ByteArray := prog_12_method_20_code
def y_Walk_onlyNode : MethodName := ⟨"QueryBench$Walk", "onlyNode", "(LQueryBench$Query;LQueryBench$Value;)LQueryBench$Value;"⟩
abbrev k_Walk_onlyNode : Cond := .code y_Walk_onlyNode b_Walk_onlyNode 6 (some (.object "QueryBench$Value"))
theorem i_Walk_onlyNode : k_Walk_onlyNode ∈ gtbl := gt_in 922 (by decide +kernel) (by decide +kernel)
theorem d_Walk_onlyNode_0 : decode b_Walk_onlyNode 0 = .ok (.aload_n 0, 1) := by decide +kernel
theorem d_Walk_onlyNode_1 : decode b_Walk_onlyNode 1 = .ok (.getfield 21, 3) := by decide +kernel
theorem d_Walk_onlyNode_4 : decode b_Walk_onlyNode 4 = .ok (.istore_n 3, 1) := by decide +kernel
theorem d_Walk_onlyNode_5 : decode b_Walk_onlyNode 5 = .ok (.aload_n 0, 1) := by decide +kernel
theorem d_Walk_onlyNode_6 : decode b_Walk_onlyNode 6 = .ok (.aload_n 1, 1) := by decide +kernel
theorem d_Walk_onlyNode_7 : decode b_Walk_onlyNode 7 = .ok (.aload_n 2, 1) := by decide +kernel
theorem d_Walk_onlyNode_8 : decode b_Walk_onlyNode 8 = .ok (.invokevirtual 28, 3) := by decide +kernel
theorem d_Walk_onlyNode_11 : decode b_Walk_onlyNode 11 = .ok (.istore 4, 2) := by decide +kernel
theorem d_Walk_onlyNode_13 : decode b_Walk_onlyNode 13 = .ok (.aload_n 0, 1) := by decide +kernel
theorem d_Walk_onlyNode_14 : decode b_Walk_onlyNode 14 = .ok (.getfield 21, 3) := by decide +kernel
theorem d_Walk_onlyNode_17 : decode b_Walk_onlyNode 17 = .ok (.iload 4, 2) := by decide +kernel
theorem d_Walk_onlyNode_19 : decode b_Walk_onlyNode 19 = .ok (.isub, 1) := by decide +kernel
theorem d_Walk_onlyNode_20 : decode b_Walk_onlyNode 20 = .ok (.iconst 1, 1) := by decide +kernel
theorem d_Walk_onlyNode_21 : decode b_Walk_onlyNode 21 = .ok (.if_icmp .ne 13, 3) := by decide +kernel
theorem d_Walk_onlyNode_24 : decode b_Walk_onlyNode 24 = .ok (.aload_n 0, 1) := by decide +kernel
theorem d_Walk_onlyNode_25 : decode b_Walk_onlyNode 25 = .ok (.getfield 11, 3) := by decide +kernel
theorem d_Walk_onlyNode_28 : decode b_Walk_onlyNode 28 = .ok (.iload 4, 2) := by decide +kernel
theorem d_Walk_onlyNode_30 : decode b_Walk_onlyNode 30 = .ok (.aaload, 1) := by decide +kernel
theorem d_Walk_onlyNode_31 : decode b_Walk_onlyNode 31 = .ok (.goto 4, 3) := by decide +kernel
theorem d_Walk_onlyNode_34 : decode b_Walk_onlyNode 34 = .ok (.aconst_null, 1) := by decide +kernel
theorem d_Walk_onlyNode_35 : decode b_Walk_onlyNode 35 = .ok (.astore 5, 2) := by decide +kernel
theorem d_Walk_onlyNode_37 : decode b_Walk_onlyNode 37 = .ok (.aload_n 0, 1) := by decide +kernel
theorem d_Walk_onlyNode_38 : decode b_Walk_onlyNode 38 = .ok (.iload_n 3, 1) := by decide +kernel
theorem d_Walk_onlyNode_39 : decode b_Walk_onlyNode 39 = .ok (.putfield 21, 3) := by decide +kernel
theorem d_Walk_onlyNode_42 : decode b_Walk_onlyNode 42 = .ok (.aload 5, 2) := by decide +kernel
theorem d_Walk_onlyNode_44 : decode b_Walk_onlyNode 44 = .ok (.areturn, 1) := by decide +kernel
abbrev b_Walk_compares : ByteArray := prog_12_method_17_code
def y_Walk_compares : MethodName := ⟨"QueryBench$Walk", "compares", "(LQueryBench$Condition;LQueryBench$Value;)Z"⟩
abbrev k_Walk_compares : Cond := .code y_Walk_compares b_Walk_compares 5 (some .boolean)
theorem i_Walk_compares : k_Walk_compares ∈ gtbl := gt_in 914 (by decide +kernel) (by decide +kernel)
theorem d_Walk_compares_0 : decode b_Walk_compares 0 = .ok (.aload_n 0, 1) := by decide +kernel
theorem d_Walk_compares_1 : decode b_Walk_compares 1 = .ok (.aload_n 1, 1) := by decide +kernel
theorem d_Walk_compares_2 : decode b_Walk_compares 2 = .ok (.getfield 179, 3) := by decide +kernel
theorem d_Walk_compares_5 : decode b_Walk_compares 5 = .ok (.aload_n 2, 1) := by decide +kernel
theorem d_Walk_compares_6 : decode b_Walk_compares 6 = .ok (.invokevirtual 183, 3) := by decide +kernel
theorem d_Walk_compares_9 : decode b_Walk_compares 9 = .ok (.astore_n 3, 1) := by decide +kernel
theorem d_Walk_compares_10 : decode b_Walk_compares 10 = .ok (.aload_n 0, 1) := by decide +kernel
theorem d_Walk_compares_11 : decode b_Walk_compares 11 = .ok (.aload_n 1, 1) := by decide +kernel
theorem d_Walk_compares_12 : decode b_Walk_compares 12 = .ok (.getfield 187, 3) := by decide +kernel
theorem d_Walk_compares_15 : decode b_Walk_compares 15 = .ok (.aload_n 2, 1) := by decide +kernel
theorem d_Walk_compares_16 : decode b_Walk_compares 16 = .ok (.invokevirtual 183, 3) := by decide +kernel
theorem d_Walk_compares_19 : decode b_Walk_compares 19 = .ok (.astore 4, 2) := by decide +kernel
theorem d_Walk_compares_21 : decode b_Walk_compares 21 = .ok (.aload_n 1, 1) := by decide +kernel
theorem d_Walk_compares_22 : decode b_Walk_compares 22 = .ok (.getfield 156, 3) := by decide +kernel
theorem d_Walk_compares_25 : decode b_Walk_compares 25 = .ok (.tableswitch 95 4 8 #[35, 42, 57, 64, 88], 35) := by decide +kernel
theorem d_Walk_compares_60 : decode b_Walk_compares 60 = .ok (.aload_n 3, 1) := by decide +kernel
theorem d_Walk_compares_61 : decode b_Walk_compares 61 = .ok (.aload 4, 2) := by decide +kernel
theorem d_Walk_compares_63 : decode b_Walk_compares 63 = .ok (.invokestatic 190, 3) := by decide +kernel
theorem d_Walk_compares_66 : decode b_Walk_compares 66 = .ok (.ireturn, 1) := by decide +kernel
theorem d_Walk_compares_67 : decode b_Walk_compares 67 = .ok (.aload_n 3, 1) := by decide +kernel
theorem d_Walk_compares_68 : decode b_Walk_compares 68 = .ok (.aload 4, 2) := by decide +kernel
theorem d_Walk_compares_70 : decode b_Walk_compares 70 = .ok (.invokestatic 190, 3) := by decide +kernel
theorem d_Walk_compares_73 : decode b_Walk_compares 73 = .ok (.ifCond .ne 7, 3) := by decide +kernel
theorem d_Walk_compares_76 : decode b_Walk_compares 76 = .ok (.iconst 1, 1) := by decide +kernel
theorem d_Walk_compares_77 : decode b_Walk_compares 77 = .ok (.goto 4, 3) := by decide +kernel
theorem d_Walk_compares_80 : decode b_Walk_compares 80 = .ok (.iconst 0, 1) := by decide +kernel
theorem d_Walk_compares_81 : decode b_Walk_compares 81 = .ok (.ireturn, 1) := by decide +kernel
theorem d_Walk_compares_82 : decode b_Walk_compares 82 = .ok (.aload_n 3, 1) := by decide +kernel
theorem d_Walk_compares_83 : decode b_Walk_compares 83 = .ok (.aload 4, 2) := by decide +kernel
theorem d_Walk_compares_85 : decode b_Walk_compares 85 = .ok (.invokestatic 194, 3) := by decide +kernel
theorem d_Walk_compares_88 : decode b_Walk_compares 88 = .ok (.ireturn, 1) := by decide +kernel
theorem d_Walk_compares_89 : decode b_Walk_compares 89 = .ok (.aload_n 3, 1) := by decide +kernel
theorem d_Walk_compares_90 : decode b_Walk_compares 90 = .ok (.aload 4, 2) := by decide +kernel
theorem d_Walk_compares_92 : decode b_Walk_compares 92 = .ok (.invokestatic 194, 3) := by decide +kernel
theorem d_Walk_compares_95 : decode b_Walk_compares 95 = .ok (.ifCond .ne 12, 3) := by decide +kernel
theorem d_Walk_compares_98 : decode b_Walk_compares 98 = .ok (.aload_n 3, 1) := by decide +kernel
theorem d_Walk_compares_99 : decode b_Walk_compares 99 = .ok (.aload 4, 2) := by decide +kernel
theorem d_Walk_compares_101 : decode b_Walk_compares 101 = .ok (.invokestatic 190, 3) := by decide +kernel
theorem d_Walk_compares_104 : decode b_Walk_compares 104 = .ok (.ifCond .eq 7, 3) := by decide +kernel
theorem d_Walk_compares_107 : decode b_Walk_compares 107 = .ok (.iconst 1, 1) := by decide +kernel
theorem d_Walk_compares_108 : decode b_Walk_compares 108 = .ok (.goto 4, 3) := by decide +kernel
theorem d_Walk_compares_111 : decode b_Walk_compares 111 = .ok (.iconst 0, 1) := by decide +kernel
theorem d_Walk_compares_112 : decode b_Walk_compares 112 = .ok (.ireturn, 1) := by decide +kernel
theorem d_Walk_compares_113 : decode b_Walk_compares 113 = .ok (.aload 4, 2) := by decide +kernel
theorem d_Walk_compares_115 : decode b_Walk_compares 115 = .ok (.aload_n 3, 1) := by decide +kernel
theorem d_Walk_compares_116 : decode b_Walk_compares 116 = .ok (.invokestatic 194, 3) := by decide +kernel
theorem d_Walk_compares_119 : decode b_Walk_compares 119 = .ok (.ireturn, 1) := by decide +kernel
theorem d_Walk_compares_120 : decode b_Walk_compares 120 = .ok (.aload 4, 2) := by decide +kernel
theorem d_Walk_compares_122 : decode b_Walk_compares 122 = .ok (.aload_n 3, 1) := by decide +kernel
theorem d_Walk_compares_123 : decode b_Walk_compares 123 = .ok (.invokestatic 194, 3) := by decide +kernel
theorem d_Walk_compares_126 : decode b_Walk_compares 126 = .ok (.ifCond .ne 12, 3) := by decide +kernel
theorem d_Walk_compares_129 : decode b_Walk_compares 129 = .ok (.aload_n 3, 1) := by decide +kernel
theorem d_Walk_compares_130 : decode b_Walk_compares 130 = .ok (.aload 4, 2) := by decide +kernel
theorem d_Walk_compares_132 : decode b_Walk_compares 132 = .ok (.invokestatic 190, 3) := by decide +kernel
theorem d_Walk_compares_135 : decode b_Walk_compares 135 = .ok (.ifCond .eq 7, 3) := by decide +kernel
theorem d_Walk_compares_138 : decode b_Walk_compares 138 = .ok (.iconst 1, 1) := by decide +kernel
theorem d_Walk_compares_139 : decode b_Walk_compares 139 = .ok (.goto 4, 3) := by decide +kernel
theorem d_Walk_compares_142 : decode b_Walk_compares 142 = .ok (.iconst 0, 1) := by decide +kernel
theorem d_Walk_compares_143 : decode b_Walk_compares 143 = .ok (.ireturn, 1) := by decide +kernel
