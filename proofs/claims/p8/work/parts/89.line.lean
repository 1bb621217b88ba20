theorem z_314 : (.fieldLink "QueryBench$Printer" 68 "QueryBench$Value" "kind" "I" : Cond) ∈ gtbl := gt_in 314 (by decide +kernel) (by decide +kernel)
theorem z_318 : (.fieldLink "QueryBench$Printer" 81 "QueryBench$Value" "number" "J" : Cond) ∈ gtbl := gt_in 318 (by decide +kernel) (by decide +kernel)
theorem z_323 : (.fieldLink "QueryBench$Printer" 84 "QueryBench$Value" "text" "[I" : Cond) ∈ gtbl := gt_in 323 (by decide +kernel) (by decide +kernel)
theorem z_326 : (.fieldLink "QueryBench$Printer" 92 "QueryBench$Value" "members" "[LQueryBench$Value;" : Cond) ∈ gtbl := gt_in 326 (by decide +kernel) (by decide +kernel)
theorem z_329 : (.fieldLink "QueryBench$Printer" 49 "QueryBench$Value" "parent" "LQueryBench$Value;" : Cond) ∈ gtbl := gt_in 329 (by decide +kernel) (by decide +kernel)
theorem z_332 : (.fieldLink "QueryBench$Printer" 53 "QueryBench$Value" "name" "[I" : Cond) ∈ gtbl := gt_in 332 (by decide +kernel) (by decide +kernel)
theorem z_334 : (.fieldLink "QueryBench$Printer" 57 "QueryBench$Value" "index" "I" : Cond) ∈ gtbl := gt_in 334 (by decide +kernel) (by decide +kernel)
theorem z_953 : (.methodLink "QueryBench$Printer" 21 ⟨"QueryBench$Printer", "path", "(LQueryBench$Value;)V"⟩ : Cond) ∈ gtbl := gt_in 953 (by decide +kernel) (by decide +kernel)
theorem z_955 : (.instanceMethod ⟨"QueryBench$Printer", "path", "(LQueryBench$Value;)V"⟩ : Cond) ∈ gtbl := gt_in 955 (by decide +kernel) (by decide +kernel)
theorem z_963 : (.methodLink "QueryBench$Printer" 60 ⟨"QueryBench$Printer", "number", "(J)V"⟩ : Cond) ∈ gtbl := gt_in 963 (by decide +kernel) (by decide +kernel)
theorem z_965 : (.instanceMethod ⟨"QueryBench$Printer", "number", "(J)V"⟩ : Cond) ∈ gtbl := gt_in 965 (by decide +kernel) (by decide +kernel)
theorem z_968 : (.methodLink "QueryBench$Printer" 64 ⟨"QueryBench$Printer", "text", "([II)V"⟩ : Cond) ∈ gtbl := gt_in 968 (by decide +kernel) (by decide +kernel)
theorem z_970 : (.instanceMethod ⟨"QueryBench$Printer", "text", "([II)V"⟩ : Cond) ∈ gtbl := gt_in 970 (by decide +kernel) (by decide +kernel)
theorem z_987 : (.methodLink "QueryBench$Printer" 29 ⟨"QueryBench$Printer", "value", "(LQueryBench$Value;I)V"⟩ : Cond) ∈ gtbl := gt_in 987 (by decide +kernel) (by decide +kernel)
theorem z_989 : (.instanceMethod ⟨"QueryBench$Printer", "value", "(LQueryBench$Value;I)V"⟩ : Cond) ∈ gtbl := gt_in 989 (by decide +kernel) (by decide +kernel)
theorem z_994 : (.methodLink "QueryBench$Printer" 86 ⟨"QueryBench$Printer", "members", "(LQueryBench$Value;I)V"⟩ : Cond) ∈ gtbl := gt_in 994 (by decide +kernel) (by decide +kernel)
theorem z_996 : (.instanceMethod ⟨"QueryBench$Printer", "members", "(LQueryBench$Value;I)V"⟩ : Cond) ∈ gtbl := gt_in 996 (by decide +kernel) (by decide +kernel)
theorem z_998 : (.methodLink "QueryBench$Printer" 89 ⟨"QueryBench$Value", "size", "()I"⟩ : Cond) ∈ gtbl := gt_in 998 (by decide +kernel) (by decide +kernel)
abbrev b_Printer_path : ByteArray := prog_5_method_5_code
def y_Printer_path : MethodName := ⟨"QueryBench$Printer", "path", "(LQueryBench$Value;)V"⟩
abbrev k_Printer_path : Cond := .code y_Printer_path b_Printer_path 4 none
theorem i_Printer_path : k_Printer_path ∈ gtbl := gt_in 956 (by decide +kernel) (by decide +kernel)
theorem d_Printer_path_0 : decode b_Printer_path 0 = .ok (.iconst 0, 1) := by decide +kernel
theorem d_Printer_path_1 : decode b_Printer_path 1 = .ok (.istore_n 2, 1) := by decide +kernel
theorem d_Printer_path_2 : decode b_Printer_path 2 = .ok (.aload_n 1, 1) := by decide +kernel
theorem d_Printer_path_3 : decode b_Printer_path 3 = .ok (.astore_n 3, 1) := by decide +kernel
theorem d_Printer_path_4 : decode b_Printer_path 4 = .ok (.aload_n 3, 1) := by decide +kernel
theorem d_Printer_path_5 : decode b_Printer_path 5 = .ok (.getfield 49, 3) := by decide +kernel
theorem d_Printer_path_8 : decode b_Printer_path 8 = .ok (.ifnull 27, 3) := by decide +kernel
theorem d_Printer_path_11 : decode b_Printer_path 11 = .ok (.iload_n 2, 1) := by decide +kernel
theorem d_Printer_path_12 : decode b_Printer_path 12 = .ok (.bipush 32, 2) := by decide +kernel
theorem d_Printer_path_14 : decode b_Printer_path 14 = .ok (.if_icmp .ge 21, 3) := by decide +kernel
theorem d_Printer_path_17 : decode b_Printer_path 17 = .ok (.aload_n 0, 1) := by decide +kernel
theorem d_Printer_path_18 : decode b_Printer_path 18 = .ok (.getfield 17, 3) := by decide +kernel
theorem d_Printer_path_21 : decode b_Printer_path 21 = .ok (.iload_n 2, 1) := by decide +kernel
theorem d_Printer_path_22 : decode b_Printer_path 22 = .ok (.aload_n 3, 1) := by decide +kernel
theorem d_Printer_path_23 : decode b_Printer_path 23 = .ok (.aastore, 1) := by decide +kernel
theorem d_Printer_path_24 : decode b_Printer_path 24 = .ok (.iinc 2 1, 3) := by decide +kernel
theorem d_Printer_path_27 : decode b_Printer_path 27 = .ok (.aload_n 3, 1) := by decide +kernel
theorem d_Printer_path_28 : decode b_Printer_path 28 = .ok (.getfield 49, 3) := by decide +kernel
theorem d_Printer_path_31 : decode b_Printer_path 31 = .ok (.astore_n 3, 1) := by decide +kernel
theorem d_Printer_path_32 : decode b_Printer_path 32 = .ok (.goto (-28), 3) := by decide +kernel
theorem d_Printer_path_35 : decode b_Printer_path 35 = .ok (.aload_n 0, 1) := by decide +kernel
theorem d_Printer_path_36 : decode b_Printer_path 36 = .ok (.bipush 36, 2) := by decide +kernel
theorem d_Printer_path_38 : decode b_Printer_path 38 = .ok (.invokevirtual 25, 3) := by decide +kernel
theorem d_Printer_path_41 : decode b_Printer_path 41 = .ok (.iload_n 2, 1) := by decide +kernel
theorem d_Printer_path_42 : decode b_Printer_path 42 = .ok (.iconst 1, 1) := by decide +kernel
theorem d_Printer_path_43 : decode b_Printer_path 43 = .ok (.isub, 1) := by decide +kernel
theorem d_Printer_path_44 : decode b_Printer_path 44 = .ok (.istore_n 3, 1) := by decide +kernel
theorem d_Printer_path_45 : decode b_Printer_path 45 = .ok (.iload_n 3, 1) := by decide +kernel
theorem d_Printer_path_46 : decode b_Printer_path 46 = .ok (.ifCond .lt 65, 3) := by decide +kernel
theorem d_Printer_path_49 : decode b_Printer_path 49 = .ok (.aload_n 0, 1) := by decide +kernel
theorem d_Printer_path_50 : decode b_Printer_path 50 = .ok (.bipush 91, 2) := by decide +kernel
theorem d_Printer_path_52 : decode b_Printer_path 52 = .ok (.invokevirtual 25, 3) := by decide +kernel
theorem d_Printer_path_55 : decode b_Printer_path 55 = .ok (.aload_n 0, 1) := by decide +kernel
theorem d_Printer_path_56 : decode b_Printer_path 56 = .ok (.getfield 17, 3) := by decide +kernel
theorem d_Printer_path_59 : decode b_Printer_path 59 = .ok (.iload_n 3, 1) := by decide +kernel
theorem d_Printer_path_60 : decode b_Printer_path 60 = .ok (.aaload, 1) := by decide +kernel
theorem d_Printer_path_61 : decode b_Printer_path 61 = .ok (.getfield 53, 3) := by decide +kernel
theorem d_Printer_path_64 : decode b_Printer_path 64 = .ok (.ifnonnull 20, 3) := by decide +kernel
theorem d_Printer_path_67 : decode b_Printer_path 67 = .ok (.aload_n 0, 1) := by decide +kernel
theorem d_Printer_path_68 : decode b_Printer_path 68 = .ok (.aload_n 0, 1) := by decide +kernel
theorem d_Printer_path_69 : decode b_Printer_path 69 = .ok (.getfield 17, 3) := by decide +kernel
theorem d_Printer_path_72 : decode b_Printer_path 72 = .ok (.iload_n 3, 1) := by decide +kernel
theorem d_Printer_path_73 : decode b_Printer_path 73 = .ok (.aaload, 1) := by decide +kernel
theorem d_Printer_path_74 : decode b_Printer_path 74 = .ok (.getfield 57, 3) := by decide +kernel
theorem d_Printer_path_77 : decode b_Printer_path 77 = .ok (.i2l, 1) := by decide +kernel
theorem d_Printer_path_78 : decode b_Printer_path 78 = .ok (.invokevirtual 60, 3) := by decide +kernel
theorem d_Printer_path_81 : decode b_Printer_path 81 = .ok (.goto 18, 3) := by decide +kernel
theorem d_Printer_path_84 : decode b_Printer_path 84 = .ok (.aload_n 0, 1) := by decide +kernel
theorem d_Printer_path_85 : decode b_Printer_path 85 = .ok (.aload_n 0, 1) := by decide +kernel
theorem d_Printer_path_86 : decode b_Printer_path 86 = .ok (.getfield 17, 3) := by decide +kernel
theorem d_Printer_path_89 : decode b_Printer_path 89 = .ok (.iload_n 3, 1) := by decide +kernel
theorem d_Printer_path_90 : decode b_Printer_path 90 = .ok (.aaload, 1) := by decide +kernel
theorem d_Printer_path_91 : decode b_Printer_path 91 = .ok (.getfield 53, 3) := by decide +kernel
theorem d_Printer_path_94 : decode b_Printer_path 94 = .ok (.bipush 39, 2) := by decide +kernel
theorem d_Printer_path_96 : decode b_Printer_path 96 = .ok (.invokevirtual 64, 3) := by decide +kernel
theorem d_Printer_path_99 : decode b_Printer_path 99 = .ok (.aload_n 0, 1) := by decide +kernel
theorem d_Printer_path_100 : decode b_Printer_path 100 = .ok (.bipush 93, 2) := by decide +kernel
theorem d_Printer_path_102 : decode b_Printer_path 102 = .ok (.invokevirtual 25, 3) := by decide +kernel
theorem d_Printer_path_105 : decode b_Printer_path 105 = .ok (.iinc 3 (-1), 3) := by decide +kernel
theorem d_Printer_path_108 : decode b_Printer_path 108 = .ok (.goto (-63), 3) := by decide +kernel
theorem d_Printer_path_111 : decode b_Printer_path 111 = .ok (.return_, 1) := by decide +kernel
abbrev b_Printer_value : ByteArray := prog_5_method_6_code
def y_Printer_value : MethodName := ⟨"QueryBench$Printer", "value", "(LQueryBench$Value;I)V"⟩
abbrev k_Printer_value : Cond := .code y_Printer_value b_Printer_value 3 none
theorem i_Printer_value : k_Printer_value ∈ gtbl := gt_in 990 (by decide +kernel) (by decide +kernel)
theorem d_Printer_value_0 : decode b_Printer_value 0 = .ok (.aload_n 1, 1) := by decide +kernel
theorem d_Printer_value_1 : decode b_Printer_value 1 = .ok (.getfield 68, 3) := by decide +kernel
theorem d_Printer_value_4 : decode b_Printer_value 4 = .ok (.tableswitch 87 0 4 #[36, 45, 54, 63, 74], 36) := by decide +kernel
theorem d_Printer_value_40 : decode b_Printer_value 40 = .ok (.aload_n 0, 1) := by decide +kernel
theorem d_Printer_value_41 : decode b_Printer_value 41 = .ok (.ldc 71, 2) := by decide +kernel
theorem d_Printer_value_43 : decode b_Printer_value 43 = .ok (.invokevirtual 73, 3) := by decide +kernel
theorem d_Printer_value_46 : decode b_Printer_value 46 = .ok (.goto 51, 3) := by decide +kernel
theorem d_Printer_value_49 : decode b_Printer_value 49 = .ok (.aload_n 0, 1) := by decide +kernel
theorem d_Printer_value_50 : decode b_Printer_value 50 = .ok (.ldc 77, 2) := by decide +kernel
theorem d_Printer_value_52 : decode b_Printer_value 52 = .ok (.invokevirtual 73, 3) := by decide +kernel
theorem d_Printer_value_55 : decode b_Printer_value 55 = .ok (.goto 42, 3) := by decide +kernel
theorem d_Printer_value_58 : decode b_Printer_value 58 = .ok (.aload_n 0, 1) := by decide +kernel
theorem d_Printer_value_59 : decode b_Printer_value 59 = .ok (.ldc 79, 2) := by decide +kernel
theorem d_Printer_value_61 : decode b_Printer_value 61 = .ok (.invokevirtual 73, 3) := by decide +kernel
theorem d_Printer_value_64 : decode b_Printer_value 64 = .ok (.goto 33, 3) := by decide +kernel
theorem d_Printer_value_67 : decode b_Printer_value 67 = .ok (.aload_n 0, 1) := by decide +kernel
theorem d_Printer_value_68 : decode b_Printer_value 68 = .ok (.aload_n 1, 1) := by decide +kernel
theorem d_Printer_value_69 : decode b_Printer_value 69 = .ok (.getfield 81, 3) := by decide +kernel
theorem d_Printer_value_72 : decode b_Printer_value 72 = .ok (.invokevirtual 60, 3) := by decide +kernel
theorem d_Printer_value_75 : decode b_Printer_value 75 = .ok (.goto 22, 3) := by decide +kernel
theorem d_Printer_value_78 : decode b_Printer_value 78 = .ok (.aload_n 0, 1) := by decide +kernel
theorem d_Printer_value_79 : decode b_Printer_value 79 = .ok (.aload_n 1, 1) := by decide +kernel
theorem d_Printer_value_80 : decode b_Printer_value 80 = .ok (.getfield 84, 3) := by decide +kernel
theorem d_Printer_value_83 : decode b_Printer_value 83 = .ok (.bipush 34, 2) := by decide +kernel
theorem d_Printer_value_85 : decode b_Printer_value 85 = .ok (.invokevirtual 64, 3) := by decide +kernel
theorem d_Printer_value_88 : decode b_Printer_value 88 = .ok (.goto 9, 3) := by decide +kernel
theorem d_Printer_value_91 : decode b_Printer_value 91 = .ok (.aload_n 0, 1) := by decide +kernel
theorem d_Printer_value_92 : decode b_Printer_value 92 = .ok (.aload_n 1, 1) := by decide +kernel
theorem d_Printer_value_93 : decode b_Printer_value 93 = .ok (.iload_n 2, 1) := by decide +kernel
theorem d_Printer_value_94 : decode b_Printer_value 94 = .ok (.invokevirtual 86, 3) := by decide +kernel
theorem d_Printer_value_97 : decode b_Printer_value 97 = .ok (.return_, 1) := by decide +kernel
abbrev b_Printer_members : ByteArray := prog_5_method_7_code
def y_Printer_members : MethodName := ⟨"QueryBench$Printer", "members", "(LQueryBench$Value;I)V"⟩
abbrev k_Printer_members : Cond := .code y_Printer_members b_Printer_members 5 none
theorem i_Printer_members : k_Printer_members ∈ gtbl := gt_in 997 (by decide +kernel) (by decide +kernel)
theorem d_Printer_members_0 : decode b_Printer_members 0 = .ok (.aload_n 1, 1) := by decide +kernel
theorem d_Printer_members_1 : decode b_Printer_members 1 = .ok (.getfield 68, 3) := by decide +kernel
theorem d_Printer_members_4 : decode b_Printer_members 4 = .ok (.bipush 6, 2) := by decide +kernel
theorem d_Printer_members_6 : decode b_Printer_members 6 = .ok (.if_icmp .ne 7, 3) := by decide +kernel
theorem d_Printer_members_9 : decode b_Printer_members 9 = .ok (.iconst 1, 1) := by decide +kernel
theorem d_Printer_members_10 : decode b_Printer_members 10 = .ok (.goto 4, 3) := by decide +kernel
theorem d_Printer_members_13 : decode b_Printer_members 13 = .ok (.iconst 0, 1) := by decide +kernel
theorem d_Printer_members_14 : decode b_Printer_members 14 = .ok (.istore_n 3, 1) := by decide +kernel
theorem d_Printer_members_15 : decode b_Printer_members 15 = .ok (.aload_n 0, 1) := by decide +kernel
theorem d_Printer_members_16 : decode b_Printer_members 16 = .ok (.iload_n 3, 1) := by decide +kernel
theorem d_Printer_members_17 : decode b_Printer_members 17 = .ok (.ifCond .eq 8, 3) := by decide +kernel
theorem d_Printer_members_20 : decode b_Printer_members 20 = .ok (.bipush 123, 2) := by decide +kernel
theorem d_Printer_members_22 : decode b_Printer_members 22 = .ok (.goto 5, 3) := by decide +kernel
theorem d_Printer_members_25 : decode b_Printer_members 25 = .ok (.bipush 91, 2) := by decide +kernel
theorem d_Printer_members_27 : decode b_Printer_members 27 = .ok (.invokevirtual 25, 3) := by decide +kernel
theorem d_Printer_members_30 : decode b_Printer_members 30 = .ok (.iconst 0, 1) := by decide +kernel
theorem d_Printer_members_31 : decode b_Printer_members 31 = .ok (.istore 4, 2) := by decide +kernel
theorem d_Printer_members_33 : decode b_Printer_members 33 = .ok (.iload 4, 2) := by decide +kernel
theorem d_Printer_members_35 : decode b_Printer_members 35 = .ok (.aload_n 1, 1) := by decide +kernel
theorem d_Printer_members_36 : decode b_Printer_members 36 = .ok (.invokevirtual 89, 3) := by decide +kernel
theorem d_Printer_members_39 : decode b_Printer_members 39 = .ok (.if_icmp .ge 66, 3) := by decide +kernel
theorem d_Printer_members_42 : decode b_Printer_members 42 = .ok (.iload_n 2, 1) := by decide +kernel
theorem d_Printer_members_43 : decode b_Printer_members 43 = .ok (.bipush 32, 2) := by decide +kernel
theorem d_Printer_members_45 : decode b_Printer_members 45 = .ok (.if_icmp .ge 60, 3) := by decide +kernel
theorem d_Printer_members_48 : decode b_Printer_members 48 = .ok (.iload 4, 2) := by decide +kernel
theorem d_Printer_members_50 : decode b_Printer_members 50 = .ok (.ifCond .le 9, 3) := by decide +kernel
theorem d_Printer_members_53 : decode b_Printer_members 53 = .ok (.aload_n 0, 1) := by decide +kernel
theorem d_Printer_members_54 : decode b_Printer_members 54 = .ok (.bipush 44, 2) := by decide +kernel
theorem d_Printer_members_56 : decode b_Printer_members 56 = .ok (.invokevirtual 25, 3) := by decide +kernel
theorem d_Printer_members_59 : decode b_Printer_members 59 = .ok (.iload_n 3, 1) := by decide +kernel
theorem d_Printer_members_60 : decode b_Printer_members 60 = .ok (.ifCond .eq 25, 3) := by decide +kernel
theorem d_Printer_members_63 : decode b_Printer_members 63 = .ok (.aload_n 0, 1) := by decide +kernel
theorem d_Printer_members_64 : decode b_Printer_members 64 = .ok (.aload_n 1, 1) := by decide +kernel
theorem d_Printer_members_65 : decode b_Printer_members 65 = .ok (.getfield 92, 3) := by decide +kernel
theorem d_Printer_members_68 : decode b_Printer_members 68 = .ok (.iload 4, 2) := by decide +kernel
theorem d_Printer_members_70 : decode b_Printer_members 70 = .ok (.aaload, 1) := by decide +kernel
theorem d_Printer_members_71 : decode b_Printer_members 71 = .ok (.getfield 53, 3) := by decide +kernel
theorem d_Printer_members_74 : decode b_Printer_members 74 = .ok (.bipush 34, 2) := by decide +kernel
theorem d_Printer_members_76 : decode b_Printer_members 76 = .ok (.invokevirtual 64, 3) := by decide +kernel
theorem d_Printer_members_79 : decode b_Printer_members 79 = .ok (.aload_n 0, 1) := by decide +kernel
theorem d_Printer_members_80 : decode b_Printer_members 80 = .ok (.bipush 58, 2) := by decide +kernel
theorem d_Printer_members_82 : decode b_Printer_members 82 = .ok (.invokevirtual 25, 3) := by decide +kernel
theorem d_Printer_members_85 : decode b_Printer_members 85 = .ok (.aload_n 0, 1) := by decide +kernel
theorem d_Printer_members_86 : decode b_Printer_members 86 = .ok (.aload_n 1, 1) := by decide +kernel
theorem d_Printer_members_87 : decode b_Printer_members 87 = .ok (.getfield 92, 3) := by decide +kernel
theorem d_Printer_members_90 : decode b_Printer_members 90 = .ok (.iload 4, 2) := by decide +kernel
theorem d_Printer_members_92 : decode b_Printer_members 92 = .ok (.aaload, 1) := by decide +kernel
theorem d_Printer_members_93 : decode b_Printer_members 93 = .ok (.iload_n 2, 1) := by decide +kernel
theorem d_Printer_members_94 : decode b_Printer_members 94 = .ok (.iconst 1, 1) := by decide +kernel
theorem d_Printer_members_95 : decode b_Printer_members 95 = .ok (.iadd, 1) := by decide +kernel
theorem d_Printer_members_96 : decode b_Printer_members 96 = .ok (.invokevirtual 29, 3) := by decide +kernel
theorem d_Printer_members_99 : decode b_Printer_members 99 = .ok (.iinc 4 1, 3) := by decide +kernel
theorem d_Printer_members_102 : decode b_Printer_members 102 = .ok (.goto (-69), 3) := by decide +kernel
theorem d_Printer_members_105 : decode b_Printer_members 105 = .ok (.aload_n 0, 1) := by decide +kernel
theorem d_Printer_members_106 : decode b_Printer_members 106 = .ok (.iload_n 3, 1) := by decide +kernel
theorem d_Printer_members_107 : decode b_Printer_members 107 = .ok (.ifCond .eq 8, 3) := by decide +kernel
theorem d_Printer_members_110 : decode b_Printer_members 110 = .ok (.bipush 125, 2) := by decide +kernel
theorem d_Printer_members_112 : decode b_Printer_members 112 = .ok (.goto 5, 3) := by decide +kernel
theorem d_Printer_members_115 : decode b_Printer_members 115 = .ok (.bipush 93, 2) := by decide +kernel
theorem d_Printer_members_117 : decode b_Printer_members 117 = .ok (.invokevirtual 25, 3) := by decide +kernel
theorem d_Printer_members_120 : decode b_Printer_members 120 = .ok (.return_, 1) := by decide +kernel
abbrev b_Printer_line : ByteArray := prog_5_method_2_code
def y_Printer_line : MethodName := ⟨"QueryBench$Printer", "line", "(LQueryBench$Value;)V"⟩
abbrev k_Printer_line : Cond := .code y_Printer_line b_Printer_line 2 none
theorem i_Printer_line : k_Printer_line ∈ gtbl := gt_in 952 (by decide +kernel) (by decide +kernel)
theorem d_Printer_line_0 : decode b_Printer_line 0 = .ok (.aload_n 0, 1) := by decide +kernel
theorem d_Printer_line_1 : decode b_Printer_line 1 = .ok (.aload_n 1, 1) := by decide +kernel
theorem d_Printer_line_2 : decode b_Printer_line 2 = .ok (.invokevirtual 21, 3) := by decide +kernel
theorem d_Printer_line_5 : decode b_Printer_line 5 = .ok (.aload_n 0, 1) := by decide +kernel
theorem d_Printer_line_6 : decode b_Printer_line 6 = .ok (.bipush 32, 2) := by decide +kernel
theorem d_Printer_line_8 : decode b_Printer_line 8 = .ok (.invokevirtual 25, 3) := by decide +kernel
theorem d_Printer_line_11 : decode b_Printer_line 11 = .ok (.aload_n 0, 1) := by decide +kernel
theorem d_Printer_line_12 : decode b_Printer_line 12 = .ok (.aload_n 1, 1) := by decide +kernel
theorem d_Printer_line_13 : decode b_Printer_line 13 = .ok (.iconst 0, 1) := by decide +kernel
theorem d_Printer_line_14 : decode b_Printer_line 14 = .ok (.invokevirtual 29, 3) := by decide +kernel
theorem d_Printer_line_17 : decode b_Printer_line 17 = .ok (.aload_n 0, 1) := by decide +kernel
theorem d_Printer_line_18 : decode b_Printer_line 18 = .ok (.bipush 10, 2) := by decide +kernel
theorem d_Printer_line_20 : decode b_Printer_line 20 = .ok (.invokevirtual 25, 3) := by decide +kernel
theorem d_Printer_line_23 : decode b_Printer_line 23 = .ok (.return_, 1) := by decide +kernel
