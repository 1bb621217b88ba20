theorem z_579 : (.fieldLink "QueryBench$Walk" 73 "QueryBench$Segment" "first" "LQueryBench$Selector;" : Cond) ∈ gtbl := gt_in 579 (by decide +kernel) (by decide +kernel)
theorem z_611 : (.fieldLink "QueryBench$Walk" 76 "QueryBench$Selector" "kind" "I" : Cond) ∈ gtbl := gt_in 611 (by decide +kernel) (by decide +kernel)
theorem z_614 : (.fieldLink "QueryBench$Walk" 81 "QueryBench$Selector" "name" "[I" : Cond) ∈ gtbl := gt_in 614 (by decide +kernel) (by decide +kernel)
theorem z_626 : (.fieldLink "QueryBench$Walk" 104 "QueryBench$Selector" "filter" "LQueryBench$Condition;" : Cond) ∈ gtbl := gt_in 626 (by decide +kernel) (by decide +kernel)
theorem z_630 : (.fieldLink "QueryBench$Walk" 112 "QueryBench$Selector" "next" "LQueryBench$Selector;" : Cond) ∈ gtbl := gt_in 630 (by decide +kernel) (by decide +kernel)
theorem z_857 : (.methodLink "QueryBench$Walk" 85 ⟨"QueryBench$Walk", "pushNamed", "(LQueryBench$Value;[I)V"⟩ : Cond) ∈ gtbl := gt_in 857 (by decide +kernel) (by decide +kernel)
theorem z_859 : (.instanceMethod ⟨"QueryBench$Walk", "pushNamed", "(LQueryBench$Value;[I)V"⟩ : Cond) ∈ gtbl := gt_in 859 (by decide +kernel) (by decide +kernel)
theorem z_870 : (.methodLink "QueryBench$Walk" 89 ⟨"QueryBench$Walk", "pushAll", "(LQueryBench$Value;)V"⟩ : Cond) ∈ gtbl := gt_in 870 (by decide +kernel) (by decide +kernel)
theorem z_872 : (.instanceMethod ⟨"QueryBench$Walk", "pushAll", "(LQueryBench$Value;)V"⟩ : Cond) ∈ gtbl := gt_in 872 (by decide +kernel) (by decide +kernel)
theorem z_875 : (.methodLink "QueryBench$Walk" 96 ⟨"QueryBench$Walk", "pushAt", "(LQueryBench$Value;J)V"⟩ : Cond) ∈ gtbl := gt_in 875 (by decide +kernel) (by decide +kernel)
theorem z_877 : (.instanceMethod ⟨"QueryBench$Walk", "pushAt", "(LQueryBench$Value;J)V"⟩ : Cond) ∈ gtbl := gt_in 877 (by decide +kernel) (by decide +kernel)
theorem z_879 : (.methodLink "QueryBench$Walk" 100 ⟨"QueryBench$Walk", "pushSlice", "(LQueryBench$Value;LQueryBench$Selector;)V"⟩ : Cond) ∈ gtbl := gt_in 879 (by decide +kernel) (by decide +kernel)
theorem z_881 : (.instanceMethod ⟨"QueryBench$Walk", "pushSlice", "(LQueryBench$Value;LQueryBench$Selector;)V"⟩ : Cond) ∈ gtbl := gt_in 881 (by decide +kernel) (by decide +kernel)
theorem z_891 : (.methodLink "QueryBench$Walk" 108 ⟨"QueryBench$Walk", "pushFiltered", "(LQueryBench$Value;LQueryBench$Condition;)V"⟩ : Cond) ∈ gtbl := gt_in 891 (by decide +kernel) (by decide +kernel)
theorem z_893 : (.instanceMethod ⟨"QueryBench$Walk", "pushFiltered", "(LQueryBench$Value;LQueryBench$Condition;)V"⟩ : Cond) ∈ gtbl := gt_in 893 (by decide +kernel) (by decide +kernel)
theorem z_895 : (.methodLink "QueryBench$Walk" 152 ⟨"QueryBench$Walk", "holds", "(LQueryBench$Condition;LQueryBench$Value;)Z"⟩ : Cond) ∈ gtbl := gt_in 895 (by decide +kernel) (by decide +kernel)
theorem z_897 : (.instanceMethod ⟨"QueryBench$Walk", "holds", "(LQueryBench$Condition;LQueryBench$Value;)Z"⟩ : Cond) ∈ gtbl := gt_in 897 (by decide +kernel) (by decide +kernel)
abbrev b_Walk_nodes : ByteArray := prog_12_method_3_code
def y_Walk_nodes : MethodName := ⟨"QueryBench$Walk", "nodes", "(LQueryBench$Query;LQueryBench$Value;)I"⟩
abbrev k_Walk_nodes : Cond := .code y_Walk_nodes b_Walk_nodes 7 (some .int)
theorem i_Walk_nodes : k_Walk_nodes ∈ gtbl := gt_in 838 (by decide +kernel) (by decide +kernel)
theorem d_Walk_nodes_0 : decode b_Walk_nodes 0 = .ok (.aload_n 0, 1) := by decide +kernel
theorem d_Walk_nodes_1 : decode b_Walk_nodes 1 = .ok (.getfield 21, 3) := by decide +kernel
theorem d_Walk_nodes_4 : decode b_Walk_nodes 4 = .ok (.istore_n 3, 1) := by decide +kernel
theorem d_Walk_nodes_5 : decode b_Walk_nodes 5 = .ok (.aload_n 0, 1) := by decide +kernel
theorem d_Walk_nodes_6 : decode b_Walk_nodes 6 = .ok (.aload_n 1, 1) := by decide +kernel
theorem d_Walk_nodes_7 : decode b_Walk_nodes 7 = .ok (.getfield 32, 3) := by decide +kernel
theorem d_Walk_nodes_10 : decode b_Walk_nodes 10 = .ok (.ifCond .eq 10, 3) := by decide +kernel
theorem d_Walk_nodes_13 : decode b_Walk_nodes 13 = .ok (.aload_n 0, 1) := by decide +kernel
theorem d_Walk_nodes_14 : decode b_Walk_nodes 14 = .ok (.getfield 17, 3) := by decide +kernel
theorem d_Walk_nodes_17 : decode b_Walk_nodes 17 = .ok (.goto 4, 3) := by decide +kernel
theorem d_Walk_nodes_20 : decode b_Walk_nodes 20 = .ok (.aload_n 2, 1) := by decide +kernel
theorem d_Walk_nodes_21 : decode b_Walk_nodes 21 = .ok (.invokevirtual 38, 3) := by decide +kernel
theorem d_Walk_nodes_24 : decode b_Walk_nodes 24 = .ok (.aload_n 1, 1) := by decide +kernel
theorem d_Walk_nodes_25 : decode b_Walk_nodes 25 = .ok (.getfield 42, 3) := by decide +kernel
theorem d_Walk_nodes_28 : decode b_Walk_nodes 28 = .ok (.astore 4, 2) := by decide +kernel
theorem d_Walk_nodes_30 : decode b_Walk_nodes 30 = .ok (.aload 4, 2) := by decide +kernel
theorem d_Walk_nodes_32 : decode b_Walk_nodes 32 = .ok (.ifnull 51, 3) := by decide +kernel
theorem d_Walk_nodes_35 : decode b_Walk_nodes 35 = .ok (.aload_n 0, 1) := by decide +kernel
theorem d_Walk_nodes_36 : decode b_Walk_nodes 36 = .ok (.getfield 21, 3) := by decide +kernel
theorem d_Walk_nodes_39 : decode b_Walk_nodes 39 = .ok (.istore 5, 2) := by decide +kernel
theorem d_Walk_nodes_41 : decode b_Walk_nodes 41 = .ok (.iload_n 3, 1) := by decide +kernel
theorem d_Walk_nodes_42 : decode b_Walk_nodes 42 = .ok (.istore 6, 2) := by decide +kernel
theorem d_Walk_nodes_44 : decode b_Walk_nodes 44 = .ok (.iload 6, 2) := by decide +kernel
theorem d_Walk_nodes_46 : decode b_Walk_nodes 46 = .ok (.iload 5, 2) := by decide +kernel
theorem d_Walk_nodes_48 : decode b_Walk_nodes 48 = .ok (.if_icmp .ge 22, 3) := by decide +kernel
theorem d_Walk_nodes_51 : decode b_Walk_nodes 51 = .ok (.aload_n 0, 1) := by decide +kernel
theorem d_Walk_nodes_52 : decode b_Walk_nodes 52 = .ok (.aload 4, 2) := by decide +kernel
theorem d_Walk_nodes_54 : decode b_Walk_nodes 54 = .ok (.aload_n 0, 1) := by decide +kernel
theorem d_Walk_nodes_55 : decode b_Walk_nodes 55 = .ok (.getfield 11, 3) := by decide +kernel
theorem d_Walk_nodes_58 : decode b_Walk_nodes 58 = .ok (.iload 6, 2) := by decide +kernel
theorem d_Walk_nodes_60 : decode b_Walk_nodes 60 = .ok (.aaload, 1) := by decide +kernel
theorem d_Walk_nodes_61 : decode b_Walk_nodes 61 = .ok (.invokevirtual 46, 3) := by decide +kernel
theorem d_Walk_nodes_64 : decode b_Walk_nodes 64 = .ok (.iinc 6 1, 3) := by decide +kernel
theorem d_Walk_nodes_67 : decode b_Walk_nodes 67 = .ok (.goto (-23), 3) := by decide +kernel
theorem d_Walk_nodes_70 : decode b_Walk_nodes 70 = .ok (.iload 5, 2) := by decide +kernel
theorem d_Walk_nodes_72 : decode b_Walk_nodes 72 = .ok (.istore_n 3, 1) := by decide +kernel
theorem d_Walk_nodes_73 : decode b_Walk_nodes 73 = .ok (.aload 4, 2) := by decide +kernel
theorem d_Walk_nodes_75 : decode b_Walk_nodes 75 = .ok (.getfield 50, 3) := by decide +kernel
theorem d_Walk_nodes_78 : decode b_Walk_nodes 78 = .ok (.astore 4, 2) := by decide +kernel
theorem d_Walk_nodes_80 : decode b_Walk_nodes 80 = .ok (.goto (-50), 3) := by decide +kernel
theorem d_Walk_nodes_83 : decode b_Walk_nodes 83 = .ok (.iload_n 3, 1) := by decide +kernel
theorem d_Walk_nodes_84 : decode b_Walk_nodes 84 = .ok (.ireturn, 1) := by decide +kernel
abbrev b_Walk_holds : ByteArray := prog_12_method_14_code
def y_Walk_holds : MethodName := ⟨"QueryBench$Walk", "holds", "(LQueryBench$Condition;LQueryBench$Value;)Z"⟩
abbrev k_Walk_holds : Cond := .code y_Walk_holds b_Walk_holds 3 (some .boolean)
theorem i_Walk_holds : k_Walk_holds ∈ gtbl := gt_in 898 (by decide +kernel) (by decide +kernel)
theorem d_Walk_holds_0 : decode b_Walk_holds 0 = .ok (.aload_n 1, 1) := by decide +kernel
theorem d_Walk_holds_1 : decode b_Walk_holds 1 = .ok (.getfield 156, 3) := by decide +kernel
theorem d_Walk_holds_4 : decode b_Walk_holds 4 = .ok (.tableswitch 88 0 3 #[32, 42, 52, 70], 32) := by decide +kernel
theorem d_Walk_holds_36 : decode b_Walk_holds 36 = .ok (.aload_n 0, 1) := by decide +kernel
theorem d_Walk_holds_37 : decode b_Walk_holds 37 = .ok (.aload_n 1, 1) := by decide +kernel
theorem d_Walk_holds_38 : decode b_Walk_holds 38 = .ok (.getfield 159, 3) := by decide +kernel
theorem d_Walk_holds_41 : decode b_Walk_holds 41 = .ok (.aload_n 2, 1) := by decide +kernel
theorem d_Walk_holds_42 : decode b_Walk_holds 42 = .ok (.invokevirtual 161, 3) := by decide +kernel
theorem d_Walk_holds_45 : decode b_Walk_holds 45 = .ok (.ireturn, 1) := by decide +kernel
theorem d_Walk_holds_46 : decode b_Walk_holds 46 = .ok (.aload_n 0, 1) := by decide +kernel
theorem d_Walk_holds_47 : decode b_Walk_holds 47 = .ok (.aload_n 1, 1) := by decide +kernel
theorem d_Walk_holds_48 : decode b_Walk_holds 48 = .ok (.getfield 159, 3) := by decide +kernel
theorem d_Walk_holds_51 : decode b_Walk_holds 51 = .ok (.aload_n 2, 1) := by decide +kernel
theorem d_Walk_holds_52 : decode b_Walk_holds 52 = .ok (.invokevirtual 164, 3) := by decide +kernel
theorem d_Walk_holds_55 : decode b_Walk_holds 55 = .ok (.ireturn, 1) := by decide +kernel
theorem d_Walk_holds_56 : decode b_Walk_holds 56 = .ok (.aload_n 0, 1) := by decide +kernel
theorem d_Walk_holds_57 : decode b_Walk_holds 57 = .ok (.aload_n 1, 1) := by decide +kernel
theorem d_Walk_holds_58 : decode b_Walk_holds 58 = .ok (.getfield 159, 3) := by decide +kernel
theorem d_Walk_holds_61 : decode b_Walk_holds 61 = .ok (.aload_n 2, 1) := by decide +kernel
theorem d_Walk_holds_62 : decode b_Walk_holds 62 = .ok (.invokevirtual 152, 3) := by decide +kernel
theorem d_Walk_holds_65 : decode b_Walk_holds 65 = .ok (.ifCond .ne 7, 3) := by decide +kernel
theorem d_Walk_holds_68 : decode b_Walk_holds 68 = .ok (.iconst 1, 1) := by decide +kernel
theorem d_Walk_holds_69 : decode b_Walk_holds 69 = .ok (.goto 4, 3) := by decide +kernel
theorem d_Walk_holds_72 : decode b_Walk_holds 72 = .ok (.iconst 0, 1) := by decide +kernel
theorem d_Walk_holds_73 : decode b_Walk_holds 73 = .ok (.ireturn, 1) := by decide +kernel
theorem d_Walk_holds_74 : decode b_Walk_holds 74 = .ok (.aload_n 0, 1) := by decide +kernel
theorem d_Walk_holds_75 : decode b_Walk_holds 75 = .ok (.aload_n 1, 1) := by decide +kernel
theorem d_Walk_holds_76 : decode b_Walk_holds 76 = .ok (.getfield 167, 3) := by decide +kernel
theorem d_Walk_holds_79 : decode b_Walk_holds 79 = .ok (.aload_n 2, 1) := by decide +kernel
theorem d_Walk_holds_80 : decode b_Walk_holds 80 = .ok (.invokevirtual 171, 3) := by decide +kernel
theorem d_Walk_holds_83 : decode b_Walk_holds 83 = .ok (.ifCond .le 7, 3) := by decide +kernel
theorem d_Walk_holds_86 : decode b_Walk_holds 86 = .ok (.iconst 1, 1) := by decide +kernel
theorem d_Walk_holds_87 : decode b_Walk_holds 87 = .ok (.goto 4, 3) := by decide +kernel
theorem d_Walk_holds_90 : decode b_Walk_holds 90 = .ok (.iconst 0, 1) := by decide +kernel
theorem d_Walk_holds_91 : decode b_Walk_holds 91 = .ok (.ireturn, 1) := by decide +kernel
theorem d_Walk_holds_92 : decode b_Walk_holds 92 = .ok (.aload_n 0, 1) := by decide +kernel
theorem d_Walk_holds_93 : decode b_Walk_holds 93 = .ok (.aload_n 1, 1) := by decide +kernel
theorem d_Walk_holds_94 : decode b_Walk_holds 94 = .ok (.aload_n 2, 1) := by decide +kernel
theorem d_Walk_holds_95 : decode b_Walk_holds 95 = .ok (.invokevirtual 174, 3) := by decide +kernel
theorem d_Walk_holds_98 : decode b_Walk_holds 98 = .ok (.ireturn, 1) := by decide +kernel
abbrev b_Walk_valueOf : ByteArray := prog_12_method_18_code
def y_Walk_valueOf : MethodName := ⟨"QueryBench$Walk", "valueOf", "(LQueryBench$Operand;LQueryBench$Value;)LQueryBench$Value;"⟩
abbrev k_Walk_valueOf : Cond := .code y_Walk_valueOf b_Walk_valueOf 4 (some (.object "QueryBench$Value"))
theorem i_Walk_valueOf : k_Walk_valueOf ∈ gtbl := gt_in 918 (by decide +kernel) (by decide +kernel)
theorem d_Walk_valueOf_0 : decode b_Walk_valueOf 0 = .ok (.aload_n 1, 1) := by decide +kernel
theorem d_Walk_valueOf_1 : decode b_Walk_valueOf 1 = .ok (.getfield 197, 3) := by decide +kernel
theorem d_Walk_valueOf_4 : decode b_Walk_valueOf 4 = .ok (.tableswitch 113 1 3 #[28, 38, 60], 28) := by decide +kernel
theorem d_Walk_valueOf_32 : decode b_Walk_valueOf 32 = .ok (.aload_n 0, 1) := by decide +kernel
theorem d_Walk_valueOf_33 : decode b_Walk_valueOf 33 = .ok (.aload_n 1, 1) := by decide +kernel
theorem d_Walk_valueOf_34 : decode b_Walk_valueOf 34 = .ok (.getfield 200, 3) := by decide +kernel
theorem d_Walk_valueOf_37 : decode b_Walk_valueOf 37 = .ok (.aload_n 2, 1) := by decide +kernel
theorem d_Walk_valueOf_38 : decode b_Walk_valueOf 38 = .ok (.invokevirtual 201, 3) := by decide +kernel
theorem d_Walk_valueOf_41 : decode b_Walk_valueOf 41 = .ok (.areturn, 1) := by decide +kernel
theorem d_Walk_valueOf_42 : decode b_Walk_valueOf 42 = .ok (.aload_n 1, 1) := by decide +kernel
theorem d_Walk_valueOf_43 : decode b_Walk_valueOf 43 = .ok (.getfield 205, 3) := by decide +kernel
theorem d_Walk_valueOf_46 : decode b_Walk_valueOf 46 = .ok (.aload_n 0, 1) := by decide +kernel
theorem d_Walk_valueOf_47 : decode b_Walk_valueOf 47 = .ok (.aload_n 1, 1) := by decide +kernel
theorem d_Walk_valueOf_48 : decode b_Walk_valueOf 48 = .ok (.getfield 200, 3) := by decide +kernel
theorem d_Walk_valueOf_51 : decode b_Walk_valueOf 51 = .ok (.aload_n 2, 1) := by decide +kernel
theorem d_Walk_valueOf_52 : decode b_Walk_valueOf 52 = .ok (.invokevirtual 171, 3) := by decide +kernel
theorem d_Walk_valueOf_55 : decode b_Walk_valueOf 55 = .ok (.i2l, 1) := by decide +kernel
theorem d_Walk_valueOf_56 : decode b_Walk_valueOf 56 = .ok (.putfield 208, 3) := by decide +kernel
theorem d_Walk_valueOf_59 : decode b_Walk_valueOf 59 = .ok (.aload_n 1, 1) := by decide +kernel
theorem d_Walk_valueOf_60 : decode b_Walk_valueOf 60 = .ok (.getfield 205, 3) := by decide +kernel
theorem d_Walk_valueOf_63 : decode b_Walk_valueOf 63 = .ok (.areturn, 1) := by decide +kernel
theorem d_Walk_valueOf_64 : decode b_Walk_valueOf 64 = .ok (.aload_n 0, 1) := by decide +kernel
theorem d_Walk_valueOf_65 : decode b_Walk_valueOf 65 = .ok (.aload_n 1, 1) := by decide +kernel
theorem d_Walk_valueOf_66 : decode b_Walk_valueOf 66 = .ok (.getfield 211, 3) := by decide +kernel
theorem d_Walk_valueOf_69 : decode b_Walk_valueOf 69 = .ok (.aload_n 2, 1) := by decide +kernel
theorem d_Walk_valueOf_70 : decode b_Walk_valueOf 70 = .ok (.invokevirtual 183, 3) := by decide +kernel
theorem d_Walk_valueOf_73 : decode b_Walk_valueOf 73 = .ok (.astore_n 3, 1) := by decide +kernel
theorem d_Walk_valueOf_74 : decode b_Walk_valueOf 74 = .ok (.aload_n 1, 1) := by decide +kernel
theorem d_Walk_valueOf_75 : decode b_Walk_valueOf 75 = .ok (.getfield 205, 3) := by decide +kernel
theorem d_Walk_valueOf_78 : decode b_Walk_valueOf 78 = .ok (.aload_n 3, 1) := by decide +kernel
theorem d_Walk_valueOf_79 : decode b_Walk_valueOf 79 = .ok (.ifnonnull 9, 3) := by decide +kernel
theorem d_Walk_valueOf_82 : decode b_Walk_valueOf 82 = .ok (.ldc2_w 141, 3) := by decide +kernel
theorem d_Walk_valueOf_85 : decode b_Walk_valueOf 85 = .ok (.goto 8, 3) := by decide +kernel
theorem d_Walk_valueOf_88 : decode b_Walk_valueOf 88 = .ok (.aload_n 3, 1) := by decide +kernel
theorem d_Walk_valueOf_89 : decode b_Walk_valueOf 89 = .ok (.invokevirtual 214, 3) := by decide +kernel
theorem d_Walk_valueOf_92 : decode b_Walk_valueOf 92 = .ok (.i2l, 1) := by decide +kernel
theorem d_Walk_valueOf_93 : decode b_Walk_valueOf 93 = .ok (.putfield 208, 3) := by decide +kernel
theorem d_Walk_valueOf_96 : decode b_Walk_valueOf 96 = .ok (.aload_n 1, 1) := by decide +kernel
theorem d_Walk_valueOf_97 : decode b_Walk_valueOf 97 = .ok (.getfield 205, 3) := by decide +kernel
theorem d_Walk_valueOf_100 : decode b_Walk_valueOf 100 = .ok (.getfield 208, 3) := by decide +kernel
theorem d_Walk_valueOf_103 : decode b_Walk_valueOf 103 = .ok (.lconst 0, 1) := by decide +kernel
theorem d_Walk_valueOf_104 : decode b_Walk_valueOf 104 = .ok (.lcmp, 1) := by decide +kernel
theorem d_Walk_valueOf_105 : decode b_Walk_valueOf 105 = .ok (.ifCond .ge 7, 3) := by decide +kernel
theorem d_Walk_valueOf_108 : decode b_Walk_valueOf 108 = .ok (.aconst_null, 1) := by decide +kernel
theorem d_Walk_valueOf_109 : decode b_Walk_valueOf 109 = .ok (.goto 7, 3) := by decide +kernel
theorem d_Walk_valueOf_112 : decode b_Walk_valueOf 112 = .ok (.aload_n 1, 1) := by decide +kernel
theorem d_Walk_valueOf_113 : decode b_Walk_valueOf 113 = .ok (.getfield 205, 3) := by decide +kernel
theorem d_Walk_valueOf_116 : decode b_Walk_valueOf 116 = .ok (.areturn, 1) := by decide +kernel
theorem d_Walk_valueOf_117 : decode b_Walk_valueOf 117 = .ok (.aload_n 1, 1) := by decide +kernel
theorem d_Walk_valueOf_118 : decode b_Walk_valueOf 118 = .ok (.getfield 205, 3) := by decide +kernel
theorem d_Walk_valueOf_121 : decode b_Walk_valueOf 121 = .ok (.areturn, 1) := by decide +kernel
abbrev b_Walk_pushFiltered : ByteArray := prog_12_method_13_code
def y_Walk_pushFiltered : MethodName := ⟨"QueryBench$Walk", "pushFiltered", "(LQueryBench$Value;LQueryBench$Condition;)V"⟩
abbrev k_Walk_pushFiltered : Cond := .code y_Walk_pushFiltered b_Walk_pushFiltered 4 none
theorem i_Walk_pushFiltered : k_Walk_pushFiltered ∈ gtbl := gt_in 894 (by decide +kernel) (by decide +kernel)
theorem d_Walk_pushFiltered_0 : decode b_Walk_pushFiltered 0 = .ok (.iconst 0, 1) := by decide +kernel
theorem d_Walk_pushFiltered_1 : decode b_Walk_pushFiltered 1 = .ok (.istore_n 3, 1) := by decide +kernel
theorem d_Walk_pushFiltered_2 : decode b_Walk_pushFiltered 2 = .ok (.iload_n 3, 1) := by decide +kernel
theorem d_Walk_pushFiltered_3 : decode b_Walk_pushFiltered 3 = .ok (.aload_n 1, 1) := by decide +kernel
theorem d_Walk_pushFiltered_4 : decode b_Walk_pushFiltered 4 = .ok (.invokevirtual 118, 3) := by decide +kernel
theorem d_Walk_pushFiltered_7 : decode b_Walk_pushFiltered 7 = .ok (.if_icmp .ge 37, 3) := by decide +kernel
theorem d_Walk_pushFiltered_10 : decode b_Walk_pushFiltered 10 = .ok (.aload_n 0, 1) := by decide +kernel
theorem d_Walk_pushFiltered_11 : decode b_Walk_pushFiltered 11 = .ok (.invokevirtual 58, 3) := by decide +kernel
theorem d_Walk_pushFiltered_14 : decode b_Walk_pushFiltered 14 = .ok (.aload_n 0, 1) := by decide +kernel
theorem d_Walk_pushFiltered_15 : decode b_Walk_pushFiltered 15 = .ok (.aload_n 2, 1) := by decide +kernel
theorem d_Walk_pushFiltered_16 : decode b_Walk_pushFiltered 16 = .ok (.aload_n 1, 1) := by decide +kernel
theorem d_Walk_pushFiltered_17 : decode b_Walk_pushFiltered 17 = .ok (.getfield 122, 3) := by decide +kernel
theorem d_Walk_pushFiltered_20 : decode b_Walk_pushFiltered 20 = .ok (.iload_n 3, 1) := by decide +kernel
theorem d_Walk_pushFiltered_21 : decode b_Walk_pushFiltered 21 = .ok (.aaload, 1) := by decide +kernel
theorem d_Walk_pushFiltered_22 : decode b_Walk_pushFiltered 22 = .ok (.invokevirtual 152, 3) := by decide +kernel
theorem d_Walk_pushFiltered_25 : decode b_Walk_pushFiltered 25 = .ok (.ifCond .eq 13, 3) := by decide +kernel
theorem d_Walk_pushFiltered_28 : decode b_Walk_pushFiltered 28 = .ok (.aload_n 0, 1) := by decide +kernel
theorem d_Walk_pushFiltered_29 : decode b_Walk_pushFiltered 29 = .ok (.aload_n 1, 1) := by decide +kernel
theorem d_Walk_pushFiltered_30 : decode b_Walk_pushFiltered 30 = .ok (.getfield 122, 3) := by decide +kernel
theorem d_Walk_pushFiltered_33 : decode b_Walk_pushFiltered 33 = .ok (.iload_n 3, 1) := by decide +kernel
theorem d_Walk_pushFiltered_34 : decode b_Walk_pushFiltered 34 = .ok (.aaload, 1) := by decide +kernel
theorem d_Walk_pushFiltered_35 : decode b_Walk_pushFiltered 35 = .ok (.invokevirtual 38, 3) := by decide +kernel
theorem d_Walk_pushFiltered_38 : decode b_Walk_pushFiltered 38 = .ok (.iinc 3 1, 3) := by decide +kernel
theorem d_Walk_pushFiltered_41 : decode b_Walk_pushFiltered 41 = .ok (.goto (-39), 3) := by decide +kernel
theorem d_Walk_pushFiltered_44 : decode b_Walk_pushFiltered 44 = .ok (.return_, 1) := by decide +kernel
abbrev b_Walk_choose : ByteArray := prog_12_method_7_code
def y_Walk_choose : MethodName := ⟨"QueryBench$Walk", "choose", "(LQueryBench$Segment;LQueryBench$Value;)V"⟩
abbrev k_Walk_choose : Cond := .code y_Walk_choose b_Walk_choose 4 none
theorem i_Walk_choose : k_Walk_choose ∈ gtbl := gt_in 856 (by decide +kernel) (by decide +kernel)
theorem d_Walk_choose_0 : decode b_Walk_choose 0 = .ok (.aload_n 1, 1) := by decide +kernel
theorem d_Walk_choose_1 : decode b_Walk_choose 1 = .ok (.getfield 73, 3) := by decide +kernel
theorem d_Walk_choose_4 : decode b_Walk_choose 4 = .ok (.astore_n 3, 1) := by decide +kernel
theorem d_Walk_choose_5 : decode b_Walk_choose 5 = .ok (.aload_n 3, 1) := by decide +kernel
theorem d_Walk_choose_6 : decode b_Walk_choose 6 = .ok (.ifnull 96, 3) := by decide +kernel
theorem d_Walk_choose_9 : decode b_Walk_choose 9 = .ok (.aload_n 3, 1) := by decide +kernel
theorem d_Walk_choose_10 : decode b_Walk_choose 10 = .ok (.getfield 76, 3) := by decide +kernel
theorem d_Walk_choose_13 : decode b_Walk_choose 13 = .ok (.tableswitch 72 0 3 #[31, 43, 51, 63], 31) := by decide +kernel
theorem d_Walk_choose_44 : decode b_Walk_choose 44 = .ok (.aload_n 0, 1) := by decide +kernel
theorem d_Walk_choose_45 : decode b_Walk_choose 45 = .ok (.aload_n 2, 1) := by decide +kernel
theorem d_Walk_choose_46 : decode b_Walk_choose 46 = .ok (.aload_n 3, 1) := by decide +kernel
theorem d_Walk_choose_47 : decode b_Walk_choose 47 = .ok (.getfield 81, 3) := by decide +kernel
theorem d_Walk_choose_50 : decode b_Walk_choose 50 = .ok (.invokevirtual 85, 3) := by decide +kernel
theorem d_Walk_choose_53 : decode b_Walk_choose 53 = .ok (.goto 41, 3) := by decide +kernel
theorem d_Walk_choose_56 : decode b_Walk_choose 56 = .ok (.aload_n 0, 1) := by decide +kernel
theorem d_Walk_choose_57 : decode b_Walk_choose 57 = .ok (.aload_n 2, 1) := by decide +kernel
theorem d_Walk_choose_58 : decode b_Walk_choose 58 = .ok (.invokevirtual 89, 3) := by decide +kernel
theorem d_Walk_choose_61 : decode b_Walk_choose 61 = .ok (.goto 33, 3) := by decide +kernel
theorem d_Walk_choose_64 : decode b_Walk_choose 64 = .ok (.aload_n 0, 1) := by decide +kernel
theorem d_Walk_choose_65 : decode b_Walk_choose 65 = .ok (.aload_n 2, 1) := by decide +kernel
theorem d_Walk_choose_66 : decode b_Walk_choose 66 = .ok (.aload_n 3, 1) := by decide +kernel
theorem d_Walk_choose_67 : decode b_Walk_choose 67 = .ok (.getfield 92, 3) := by decide +kernel
theorem d_Walk_choose_70 : decode b_Walk_choose 70 = .ok (.invokevirtual 96, 3) := by decide +kernel
theorem d_Walk_choose_73 : decode b_Walk_choose 73 = .ok (.goto 21, 3) := by decide +kernel
theorem d_Walk_choose_76 : decode b_Walk_choose 76 = .ok (.aload_n 0, 1) := by decide +kernel
theorem d_Walk_choose_77 : decode b_Walk_choose 77 = .ok (.aload_n 2, 1) := by decide +kernel
theorem d_Walk_choose_78 : decode b_Walk_choose 78 = .ok (.aload_n 3, 1) := by decide +kernel
theorem d_Walk_choose_79 : decode b_Walk_choose 79 = .ok (.invokevirtual 100, 3) := by decide +kernel
theorem d_Walk_choose_82 : decode b_Walk_choose 82 = .ok (.goto 12, 3) := by decide +kernel
theorem d_Walk_choose_85 : decode b_Walk_choose 85 = .ok (.aload_n 0, 1) := by decide +kernel
theorem d_Walk_choose_86 : decode b_Walk_choose 86 = .ok (.aload_n 2, 1) := by decide +kernel
theorem d_Walk_choose_87 : decode b_Walk_choose 87 = .ok (.aload_n 3, 1) := by decide +kernel
theorem d_Walk_choose_88 : decode b_Walk_choose 88 = .ok (.getfield 104, 3) := by decide +kernel
theorem d_Walk_choose_91 : decode b_Walk_choose 91 = .ok (.invokevirtual 108, 3) := by decide +kernel
theorem d_Walk_choose_94 : decode b_Walk_choose 94 = .ok (.aload_n 3, 1) := by decide +kernel
theorem d_Walk_choose_95 : decode b_Walk_choose 95 = .ok (.getfield 112, 3) := by decide +kernel
theorem d_Walk_choose_98 : decode b_Walk_choose 98 = .ok (.astore_n 3, 1) := by decide +kernel
theorem d_Walk_choose_99 : decode b_Walk_choose 99 = .ok (.goto (-94), 3) := by decide +kernel
theorem d_Walk_choose_102 : decode b_Walk_choose 102 = .ok (.return_, 1) := by decide +kernel
