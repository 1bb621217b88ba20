theorem z_294 : (.methodLink "QueryBench$JsonReader" 26 ⟨"QueryBench$JsonReader", "value", "(I)LQueryBench$Value;"⟩ : Cond) ∈ gtbl := gt_in 294 (by decide +kernel) (by decide +kernel)
theorem z_296 : (.instanceMethod ⟨"QueryBench$JsonReader", "value", "(I)LQueryBench$Value;"⟩ : Cond) ∈ gtbl := gt_in 296 (by decide +kernel) (by decide +kernel)
theorem z_313 : (.fieldLink "QueryBench$JsonReader" 59 "QueryBench$Value" "kind" "I" : Cond) ∈ gtbl := gt_in 313 (by decide +kernel) (by decide +kernel)
theorem z_327 : (.fieldLink "QueryBench$JsonReader" 139 "QueryBench$Value" "members" "[LQueryBench$Value;" : Cond) ∈ gtbl := gt_in 327 (by decide +kernel) (by decide +kernel)
theorem z_330 : (.fieldLink "QueryBench$JsonReader" 123 "QueryBench$Value" "parent" "LQueryBench$Value;" : Cond) ∈ gtbl := gt_in 330 (by decide +kernel) (by decide +kernel)
theorem z_335 : (.fieldLink "QueryBench$JsonReader" 129 "QueryBench$Value" "index" "I" : Cond) ∈ gtbl := gt_in 335 (by decide +kernel) (by decide +kernel)
theorem z_401 : (.methodLink "QueryBench$JsonReader" 119 ⟨"QueryBench$JsonReader", "newName", "(LQueryBench$Value;)[I"⟩ : Cond) ∈ gtbl := gt_in 401 (by decide +kernel) (by decide +kernel)
theorem z_403 : (.instanceMethod ⟨"QueryBench$JsonReader", "newName", "(LQueryBench$Value;)[I"⟩ : Cond) ∈ gtbl := gt_in 403 (by decide +kernel) (by decide +kernel)
theorem z_447 : (.methodLink "QueryBench$JsonReader" 135 ⟨"QueryBench$JsonReader", "row", "(LQueryBench$Value;I)[LQueryBench$Value;"⟩ : Cond) ∈ gtbl := gt_in 447 (by decide +kernel) (by decide +kernel)
theorem z_448 : (.static ⟨"QueryBench$JsonReader", "row", "(LQueryBench$Value;I)[LQueryBench$Value;"⟩ : Cond) ∈ gtbl := gt_in 448 (by decide +kernel) (by decide +kernel)
abbrev b_JsonReader_value : ByteArray := prog_3_method_3_code
def y_JsonReader_value : MethodName := ⟨"QueryBench$JsonReader", "value", "(I)LQueryBench$Value;"⟩
abbrev k_JsonReader_value : Cond := .code y_JsonReader_value b_JsonReader_value 4 (some (.object "QueryBench$Value"))
theorem i_JsonReader_value : k_JsonReader_value ∈ gtbl := gt_in 297 (by decide +kernel) (by decide +kernel)
theorem d_JsonReader_value_0 : decode b_JsonReader_value 0 = .ok (.aload_n 0, 1) := by decide +kernel
theorem d_JsonReader_value_1 : decode b_JsonReader_value 1 = .ok (.getfield 9, 3) := by decide +kernel
theorem d_JsonReader_value_4 : decode b_JsonReader_value 4 = .ok (.invokevirtual 42, 3) := by decide +kernel
theorem d_JsonReader_value_7 : decode b_JsonReader_value 7 = .ok (.aload_n 0, 1) := by decide +kernel
theorem d_JsonReader_value_8 : decode b_JsonReader_value 8 = .ok (.getfield 19, 3) := by decide +kernel
theorem d_JsonReader_value_11 : decode b_JsonReader_value 11 = .ok (.istore_n 2, 1) := by decide +kernel
theorem d_JsonReader_value_12 : decode b_JsonReader_value 12 = .ok (.aload_n 0, 1) := by decide +kernel
theorem d_JsonReader_value_13 : decode b_JsonReader_value 13 = .ok (.invokevirtual 45, 3) := by decide +kernel
theorem d_JsonReader_value_16 : decode b_JsonReader_value 16 = .ok (.astore_n 3, 1) := by decide +kernel
theorem d_JsonReader_value_17 : decode b_JsonReader_value 17 = .ok (.aload_n 0, 1) := by decide +kernel
theorem d_JsonReader_value_18 : decode b_JsonReader_value 18 = .ok (.getfield 9, 3) := by decide +kernel
theorem d_JsonReader_value_21 : decode b_JsonReader_value 21 = .ok (.invokevirtual 49, 3) := by decide +kernel
theorem d_JsonReader_value_24 : decode b_JsonReader_value 24 = .ok (.lookupswitch 146 #[(34, 81), (91, 60), (102, 112), (110, 100), (116, 129), (123, 70)], 60) := by decide +kernel
theorem d_JsonReader_value_84 : decode b_JsonReader_value 84 = .ok (.aload_n 0, 1) := by decide +kernel
theorem d_JsonReader_value_85 : decode b_JsonReader_value 85 = .ok (.aload_n 3, 1) := by decide +kernel
theorem d_JsonReader_value_86 : decode b_JsonReader_value 86 = .ok (.iconst 5, 1) := by decide +kernel
theorem d_JsonReader_value_87 : decode b_JsonReader_value 87 = .ok (.iload_n 1, 1) := by decide +kernel
theorem d_JsonReader_value_88 : decode b_JsonReader_value 88 = .ok (.invokevirtual 55, 3) := by decide +kernel
theorem d_JsonReader_value_91 : decode b_JsonReader_value 91 = .ok (.goto 92, 3) := by decide +kernel
theorem d_JsonReader_value_94 : decode b_JsonReader_value 94 = .ok (.aload_n 0, 1) := by decide +kernel
theorem d_JsonReader_value_95 : decode b_JsonReader_value 95 = .ok (.aload_n 3, 1) := by decide +kernel
theorem d_JsonReader_value_96 : decode b_JsonReader_value 96 = .ok (.bipush 6, 2) := by decide +kernel
theorem d_JsonReader_value_98 : decode b_JsonReader_value 98 = .ok (.iload_n 1, 1) := by decide +kernel
theorem d_JsonReader_value_99 : decode b_JsonReader_value 99 = .ok (.invokevirtual 55, 3) := by decide +kernel
theorem d_JsonReader_value_102 : decode b_JsonReader_value 102 = .ok (.goto 81, 3) := by decide +kernel
theorem d_JsonReader_value_105 : decode b_JsonReader_value 105 = .ok (.aload_n 3, 1) := by decide +kernel
theorem d_JsonReader_value_106 : decode b_JsonReader_value 106 = .ok (.iconst 4, 1) := by decide +kernel
theorem d_JsonReader_value_107 : decode b_JsonReader_value 107 = .ok (.putfield 59, 3) := by decide +kernel
theorem d_JsonReader_value_110 : decode b_JsonReader_value 110 = .ok (.aload_n 3, 1) := by decide +kernel
theorem d_JsonReader_value_111 : decode b_JsonReader_value 111 = .ok (.aload_n 0, 1) := by decide +kernel
theorem d_JsonReader_value_112 : decode b_JsonReader_value 112 = .ok (.getfield 9, 3) := by decide +kernel
theorem d_JsonReader_value_115 : decode b_JsonReader_value 115 = .ok (.invokevirtual 62, 3) := by decide +kernel
theorem d_JsonReader_value_118 : decode b_JsonReader_value 118 = .ok (.putfield 66, 3) := by decide +kernel
theorem d_JsonReader_value_121 : decode b_JsonReader_value 121 = .ok (.goto 62, 3) := by decide +kernel
theorem d_JsonReader_value_124 : decode b_JsonReader_value 124 = .ok (.aload_n 0, 1) := by decide +kernel
theorem d_JsonReader_value_125 : decode b_JsonReader_value 125 = .ok (.getfield 9, 3) := by decide +kernel
theorem d_JsonReader_value_128 : decode b_JsonReader_value 128 = .ok (.ldc 70, 2) := by decide +kernel
theorem d_JsonReader_value_130 : decode b_JsonReader_value 130 = .ok (.invokevirtual 72, 3) := by decide +kernel
theorem d_JsonReader_value_133 : decode b_JsonReader_value 133 = .ok (.goto 50, 3) := by decide +kernel
theorem d_JsonReader_value_136 : decode b_JsonReader_value 136 = .ok (.aload_n 0, 1) := by decide +kernel
theorem d_JsonReader_value_137 : decode b_JsonReader_value 137 = .ok (.getfield 9, 3) := by decide +kernel
theorem d_JsonReader_value_140 : decode b_JsonReader_value 140 = .ok (.ldc 76, 2) := by decide +kernel
theorem d_JsonReader_value_142 : decode b_JsonReader_value 142 = .ok (.invokevirtual 72, 3) := by decide +kernel
theorem d_JsonReader_value_145 : decode b_JsonReader_value 145 = .ok (.aload_n 3, 1) := by decide +kernel
theorem d_JsonReader_value_146 : decode b_JsonReader_value 146 = .ok (.iconst 1, 1) := by decide +kernel
theorem d_JsonReader_value_147 : decode b_JsonReader_value 147 = .ok (.putfield 59, 3) := by decide +kernel
theorem d_JsonReader_value_150 : decode b_JsonReader_value 150 = .ok (.goto 33, 3) := by decide +kernel
theorem d_JsonReader_value_153 : decode b_JsonReader_value 153 = .ok (.aload_n 0, 1) := by decide +kernel
theorem d_JsonReader_value_154 : decode b_JsonReader_value 154 = .ok (.getfield 9, 3) := by decide +kernel
theorem d_JsonReader_value_157 : decode b_JsonReader_value 157 = .ok (.ldc 78, 2) := by decide +kernel
theorem d_JsonReader_value_159 : decode b_JsonReader_value 159 = .ok (.invokevirtual 72, 3) := by decide +kernel
theorem d_JsonReader_value_162 : decode b_JsonReader_value 162 = .ok (.aload_n 3, 1) := by decide +kernel
theorem d_JsonReader_value_163 : decode b_JsonReader_value 163 = .ok (.iconst 2, 1) := by decide +kernel
theorem d_JsonReader_value_164 : decode b_JsonReader_value 164 = .ok (.putfield 59, 3) := by decide +kernel
theorem d_JsonReader_value_167 : decode b_JsonReader_value 167 = .ok (.goto 16, 3) := by decide +kernel
theorem d_JsonReader_value_170 : decode b_JsonReader_value 170 = .ok (.aload_n 3, 1) := by decide +kernel
theorem d_JsonReader_value_171 : decode b_JsonReader_value 171 = .ok (.iconst 3, 1) := by decide +kernel
theorem d_JsonReader_value_172 : decode b_JsonReader_value 172 = .ok (.putfield 59, 3) := by decide +kernel
theorem d_JsonReader_value_175 : decode b_JsonReader_value 175 = .ok (.aload_n 3, 1) := by decide +kernel
theorem d_JsonReader_value_176 : decode b_JsonReader_value 176 = .ok (.aload_n 0, 1) := by decide +kernel
theorem d_JsonReader_value_177 : decode b_JsonReader_value 177 = .ok (.invokevirtual 80, 3) := by decide +kernel
theorem d_JsonReader_value_180 : decode b_JsonReader_value 180 = .ok (.putfield 84, 3) := by decide +kernel
theorem d_JsonReader_value_183 : decode b_JsonReader_value 183 = .ok (.aload_n 3, 1) := by decide +kernel
theorem d_JsonReader_value_184 : decode b_JsonReader_value 184 = .ok (.aload_n 0, 1) := by decide +kernel
theorem d_JsonReader_value_185 : decode b_JsonReader_value 185 = .ok (.getfield 19, 3) := by decide +kernel
theorem d_JsonReader_value_188 : decode b_JsonReader_value 188 = .ok (.iload_n 2, 1) := by decide +kernel
theorem d_JsonReader_value_189 : decode b_JsonReader_value 189 = .ok (.isub, 1) := by decide +kernel
theorem d_JsonReader_value_190 : decode b_JsonReader_value 190 = .ok (.putfield 87, 3) := by decide +kernel
theorem d_JsonReader_value_193 : decode b_JsonReader_value 193 = .ok (.aload_n 0, 1) := by decide +kernel
theorem d_JsonReader_value_194 : decode b_JsonReader_value 194 = .ok (.getfield 9, 3) := by decide +kernel
theorem d_JsonReader_value_197 : decode b_JsonReader_value 197 = .ok (.invokevirtual 42, 3) := by decide +kernel
theorem d_JsonReader_value_200 : decode b_JsonReader_value 200 = .ok (.aload_n 3, 1) := by decide +kernel
theorem d_JsonReader_value_201 : decode b_JsonReader_value 201 = .ok (.areturn, 1) := by decide +kernel
abbrev b_JsonReader_container : ByteArray := prog_3_method_6_code
def y_JsonReader_container : MethodName := ⟨"QueryBench$JsonReader", "container", "(LQueryBench$Value;II)V"⟩
abbrev k_JsonReader_container : Cond := .code y_JsonReader_container b_JsonReader_container 5 none
theorem i_JsonReader_container : k_JsonReader_container ∈ gtbl := gt_in 369 (by decide +kernel) (by decide +kernel)
theorem d_JsonReader_container_0 : decode b_JsonReader_container 0 = .ok (.iload_n 3, 1) := by decide +kernel
theorem d_JsonReader_container_1 : decode b_JsonReader_container 1 = .ok (.bipush 32, 2) := by decide +kernel
theorem d_JsonReader_container_3 : decode b_JsonReader_container 3 = .ok (.if_icmp .lt 17, 3) := by decide +kernel
theorem d_JsonReader_container_6 : decode b_JsonReader_container 6 = .ok (.aload_n 0, 1) := by decide +kernel
theorem d_JsonReader_container_7 : decode b_JsonReader_container 7 = .ok (.getfield 9, 3) := by decide +kernel
theorem d_JsonReader_container_10 : decode b_JsonReader_container 10 = .ok (.aload_n 0, 1) := by decide +kernel
theorem d_JsonReader_container_11 : decode b_JsonReader_container 11 = .ok (.getfield 9, 3) := by decide +kernel
theorem d_JsonReader_container_14 : decode b_JsonReader_container 14 = .ok (.getfield 30, 3) := by decide +kernel
theorem d_JsonReader_container_17 : decode b_JsonReader_container 17 = .ok (.invokevirtual 38, 3) := by decide +kernel
theorem d_JsonReader_container_20 : decode b_JsonReader_container 20 = .ok (.aload_n 1, 1) := by decide +kernel
theorem d_JsonReader_container_21 : decode b_JsonReader_container 21 = .ok (.iload_n 2, 1) := by decide +kernel
theorem d_JsonReader_container_22 : decode b_JsonReader_container 22 = .ok (.putfield 59, 3) := by decide +kernel
theorem d_JsonReader_container_25 : decode b_JsonReader_container 25 = .ok (.aload_n 0, 1) := by decide +kernel
theorem d_JsonReader_container_26 : decode b_JsonReader_container 26 = .ok (.aload_n 0, 1) := by decide +kernel
theorem d_JsonReader_container_27 : decode b_JsonReader_container 27 = .ok (.getfield 15, 3) := by decide +kernel
theorem d_JsonReader_container_30 : decode b_JsonReader_container 30 = .ok (.iload_n 3, 1) := by decide +kernel
theorem d_JsonReader_container_31 : decode b_JsonReader_container 31 = .ok (.iconst 1, 1) := by decide +kernel
theorem d_JsonReader_container_32 : decode b_JsonReader_container 32 = .ok (.iadd, 1) := by decide +kernel
theorem d_JsonReader_container_33 : decode b_JsonReader_container 33 = .ok (.invokestatic 106, 3) := by decide +kernel
theorem d_JsonReader_container_36 : decode b_JsonReader_container 36 = .ok (.putfield 15, 3) := by decide +kernel
theorem d_JsonReader_container_39 : decode b_JsonReader_container 39 = .ok (.aload_n 0, 1) := by decide +kernel
theorem d_JsonReader_container_40 : decode b_JsonReader_container 40 = .ok (.getfield 9, 3) := by decide +kernel
theorem d_JsonReader_container_43 : decode b_JsonReader_container 43 = .ok (.dup, 1) := by decide +kernel
theorem d_JsonReader_container_44 : decode b_JsonReader_container 44 = .ok (.getfield 30, 3) := by decide +kernel
theorem d_JsonReader_container_47 : decode b_JsonReader_container 47 = .ok (.iconst 1, 1) := by decide +kernel
theorem d_JsonReader_container_48 : decode b_JsonReader_container 48 = .ok (.iadd, 1) := by decide +kernel
theorem d_JsonReader_container_49 : decode b_JsonReader_container 49 = .ok (.putfield 30, 3) := by decide +kernel
theorem d_JsonReader_container_52 : decode b_JsonReader_container 52 = .ok (.aload_n 0, 1) := by decide +kernel
theorem d_JsonReader_container_53 : decode b_JsonReader_container 53 = .ok (.getfield 9, 3) := by decide +kernel
theorem d_JsonReader_container_56 : decode b_JsonReader_container 56 = .ok (.invokevirtual 42, 3) := by decide +kernel
theorem d_JsonReader_container_59 : decode b_JsonReader_container 59 = .ok (.iload_n 2, 1) := by decide +kernel
theorem d_JsonReader_container_60 : decode b_JsonReader_container 60 = .ok (.iconst 5, 1) := by decide +kernel
theorem d_JsonReader_container_61 : decode b_JsonReader_container 61 = .ok (.if_icmp .ne 8, 3) := by decide +kernel
theorem d_JsonReader_container_64 : decode b_JsonReader_container 64 = .ok (.bipush 93, 2) := by decide +kernel
theorem d_JsonReader_container_66 : decode b_JsonReader_container 66 = .ok (.goto 5, 3) := by decide +kernel
theorem d_JsonReader_container_69 : decode b_JsonReader_container 69 = .ok (.bipush 125, 2) := by decide +kernel
theorem d_JsonReader_container_71 : decode b_JsonReader_container 71 = .ok (.istore 4, 2) := by decide +kernel
theorem d_JsonReader_container_73 : decode b_JsonReader_container 73 = .ok (.aload_n 0, 1) := by decide +kernel
theorem d_JsonReader_container_74 : decode b_JsonReader_container 74 = .ok (.getfield 9, 3) := by decide +kernel
theorem d_JsonReader_container_77 : decode b_JsonReader_container 77 = .ok (.iload 4, 2) := by decide +kernel
theorem d_JsonReader_container_79 : decode b_JsonReader_container 79 = .ok (.invokevirtual 95, 3) := by decide +kernel
theorem d_JsonReader_container_82 : decode b_JsonReader_container 82 = .ok (.ifCond .ne 20, 3) := by decide +kernel
theorem d_JsonReader_container_85 : decode b_JsonReader_container 85 = .ok (.aload_n 0, 1) := by decide +kernel
theorem d_JsonReader_container_86 : decode b_JsonReader_container 86 = .ok (.aload_n 1, 1) := by decide +kernel
theorem d_JsonReader_container_87 : decode b_JsonReader_container 87 = .ok (.iload_n 3, 1) := by decide +kernel
theorem d_JsonReader_container_88 : decode b_JsonReader_container 88 = .ok (.iconst 1, 1) := by decide +kernel
theorem d_JsonReader_container_89 : decode b_JsonReader_container 89 = .ok (.iadd, 1) := by decide +kernel
theorem d_JsonReader_container_90 : decode b_JsonReader_container 90 = .ok (.invokevirtual 112, 3) := by decide +kernel
theorem d_JsonReader_container_93 : decode b_JsonReader_container 93 = .ok (.aload_n 0, 1) := by decide +kernel
theorem d_JsonReader_container_94 : decode b_JsonReader_container 94 = .ok (.getfield 9, 3) := by decide +kernel
theorem d_JsonReader_container_97 : decode b_JsonReader_container 97 = .ok (.iload 4, 2) := by decide +kernel
theorem d_JsonReader_container_99 : decode b_JsonReader_container 99 = .ok (.invokevirtual 116, 3) := by decide +kernel
theorem d_JsonReader_container_102 : decode b_JsonReader_container 102 = .ok (.return_, 1) := by decide +kernel
abbrev b_JsonReader_members : ByteArray := prog_3_method_7_code
def y_JsonReader_members : MethodName := ⟨"QueryBench$JsonReader", "members", "(LQueryBench$Value;I)V"⟩
abbrev k_JsonReader_members : Cond := .code y_JsonReader_members b_JsonReader_members 10 none
theorem i_JsonReader_members : k_JsonReader_members ∈ gtbl := gt_in 400 (by decide +kernel) (by decide +kernel)
theorem d_JsonReader_members_0 : decode b_JsonReader_members 0 = .ok (.aconst_null, 1) := by decide +kernel
theorem d_JsonReader_members_1 : decode b_JsonReader_members 1 = .ok (.astore_n 3, 1) := by decide +kernel
theorem d_JsonReader_members_2 : decode b_JsonReader_members 2 = .ok (.aconst_null, 1) := by decide +kernel
theorem d_JsonReader_members_3 : decode b_JsonReader_members 3 = .ok (.astore 4, 2) := by decide +kernel
theorem d_JsonReader_members_5 : decode b_JsonReader_members 5 = .ok (.iconst 0, 1) := by decide +kernel
theorem d_JsonReader_members_6 : decode b_JsonReader_members 6 = .ok (.istore 5, 2) := by decide +kernel
theorem d_JsonReader_members_8 : decode b_JsonReader_members 8 = .ok (.iconst 1, 1) := by decide +kernel
theorem d_JsonReader_members_9 : decode b_JsonReader_members 9 = .ok (.istore 6, 2) := by decide +kernel
theorem d_JsonReader_members_11 : decode b_JsonReader_members 11 = .ok (.iconst 0, 1) := by decide +kernel
theorem d_JsonReader_members_12 : decode b_JsonReader_members 12 = .ok (.istore 7, 2) := by decide +kernel
theorem d_JsonReader_members_14 : decode b_JsonReader_members 14 = .ok (.iload 7, 2) := by decide +kernel
theorem d_JsonReader_members_16 : decode b_JsonReader_members 16 = .ok (.sipush 4096, 3) := by decide +kernel
theorem d_JsonReader_members_19 : decode b_JsonReader_members 19 = .ok (.if_icmp .ge 97, 3) := by decide +kernel
theorem d_JsonReader_members_22 : decode b_JsonReader_members 22 = .ok (.iload 6, 2) := by decide +kernel
theorem d_JsonReader_members_24 : decode b_JsonReader_members 24 = .ok (.ifCond .eq 92, 3) := by decide +kernel
theorem d_JsonReader_members_27 : decode b_JsonReader_members 27 = .ok (.aload_n 1, 1) := by decide +kernel
theorem d_JsonReader_members_28 : decode b_JsonReader_members 28 = .ok (.getfield 59, 3) := by decide +kernel
theorem d_JsonReader_members_31 : decode b_JsonReader_members 31 = .ok (.bipush 6, 2) := by decide +kernel
theorem d_JsonReader_members_33 : decode b_JsonReader_members 33 = .ok (.if_icmp .ne 11, 3) := by decide +kernel
theorem d_JsonReader_members_36 : decode b_JsonReader_members 36 = .ok (.aload_n 0, 1) := by decide +kernel
theorem d_JsonReader_members_37 : decode b_JsonReader_members 37 = .ok (.aload_n 3, 1) := by decide +kernel
theorem d_JsonReader_members_38 : decode b_JsonReader_members 38 = .ok (.invokevirtual 119, 3) := by decide +kernel
theorem d_JsonReader_members_41 : decode b_JsonReader_members 41 = .ok (.goto 4, 3) := by decide +kernel
theorem d_JsonReader_members_44 : decode b_JsonReader_members 44 = .ok (.aconst_null, 1) := by decide +kernel
theorem d_JsonReader_members_45 : decode b_JsonReader_members 45 = .ok (.astore 8, 2) := by decide +kernel
theorem d_JsonReader_members_47 : decode b_JsonReader_members 47 = .ok (.aload_n 0, 1) := by decide +kernel
theorem d_JsonReader_members_48 : decode b_JsonReader_members 48 = .ok (.iload_n 2, 1) := by decide +kernel
theorem d_JsonReader_members_49 : decode b_JsonReader_members 49 = .ok (.invokevirtual 26, 3) := by decide +kernel
theorem d_JsonReader_members_52 : decode b_JsonReader_members 52 = .ok (.astore 9, 2) := by decide +kernel
theorem d_JsonReader_members_54 : decode b_JsonReader_members 54 = .ok (.aload 9, 2) := by decide +kernel
theorem d_JsonReader_members_56 : decode b_JsonReader_members 56 = .ok (.aload_n 1, 1) := by decide +kernel
theorem d_JsonReader_members_57 : decode b_JsonReader_members 57 = .ok (.putfield 123, 3) := by decide +kernel
theorem d_JsonReader_members_60 : decode b_JsonReader_members 60 = .ok (.aload 9, 2) := by decide +kernel
theorem d_JsonReader_members_62 : decode b_JsonReader_members 62 = .ok (.aload 8, 2) := by decide +kernel
theorem d_JsonReader_members_64 : decode b_JsonReader_members 64 = .ok (.putfield 126, 3) := by decide +kernel
theorem d_JsonReader_members_67 : decode b_JsonReader_members 67 = .ok (.aload 9, 2) := by decide +kernel
theorem d_JsonReader_members_69 : decode b_JsonReader_members 69 = .ok (.iload 5, 2) := by decide +kernel
theorem d_JsonReader_members_71 : decode b_JsonReader_members 71 = .ok (.putfield 129, 3) := by decide +kernel
theorem d_JsonReader_members_74 : decode b_JsonReader_members 74 = .ok (.iinc 5 1, 3) := by decide +kernel
theorem d_JsonReader_members_77 : decode b_JsonReader_members 77 = .ok (.aload 4, 2) := by decide +kernel
theorem d_JsonReader_members_79 : decode b_JsonReader_members 79 = .ok (.ifnonnull 9, 3) := by decide +kernel
theorem d_JsonReader_members_82 : decode b_JsonReader_members 82 = .ok (.aload 9, 2) := by decide +kernel
theorem d_JsonReader_members_84 : decode b_JsonReader_members 84 = .ok (.astore_n 3, 1) := by decide +kernel
theorem d_JsonReader_members_85 : decode b_JsonReader_members 85 = .ok (.goto 10, 3) := by decide +kernel
theorem d_JsonReader_members_88 : decode b_JsonReader_members 88 = .ok (.aload 4, 2) := by decide +kernel
theorem d_JsonReader_members_90 : decode b_JsonReader_members 90 = .ok (.aload 9, 2) := by decide +kernel
theorem d_JsonReader_members_92 : decode b_JsonReader_members 92 = .ok (.putfield 132, 3) := by decide +kernel
theorem d_JsonReader_members_95 : decode b_JsonReader_members 95 = .ok (.aload 9, 2) := by decide +kernel
theorem d_JsonReader_members_97 : decode b_JsonReader_members 97 = .ok (.astore 4, 2) := by decide +kernel
theorem d_JsonReader_members_99 : decode b_JsonReader_members 99 = .ok (.aload_n 0, 1) := by decide +kernel
theorem d_JsonReader_members_100 : decode b_JsonReader_members 100 = .ok (.getfield 9, 3) := by decide +kernel
theorem d_JsonReader_members_103 : decode b_JsonReader_members 103 = .ok (.bipush 44, 2) := by decide +kernel
theorem d_JsonReader_members_105 : decode b_JsonReader_members 105 = .ok (.invokevirtual 95, 3) := by decide +kernel
theorem d_JsonReader_members_108 : decode b_JsonReader_members 108 = .ok (.istore 6, 2) := by decide +kernel
theorem d_JsonReader_members_110 : decode b_JsonReader_members 110 = .ok (.iinc 7 1, 3) := by decide +kernel
theorem d_JsonReader_members_113 : decode b_JsonReader_members 113 = .ok (.goto (-99), 3) := by decide +kernel
theorem d_JsonReader_members_116 : decode b_JsonReader_members 116 = .ok (.aload_n 1, 1) := by decide +kernel
theorem d_JsonReader_members_117 : decode b_JsonReader_members 117 = .ok (.aload_n 3, 1) := by decide +kernel
theorem d_JsonReader_members_118 : decode b_JsonReader_members 118 = .ok (.iload 5, 2) := by decide +kernel
theorem d_JsonReader_members_120 : decode b_JsonReader_members 120 = .ok (.invokestatic 135, 3) := by decide +kernel
theorem d_JsonReader_members_123 : decode b_JsonReader_members 123 = .ok (.putfield 139, 3) := by decide +kernel
theorem d_JsonReader_members_126 : decode b_JsonReader_members 126 = .ok (.return_, 1) := by decide +kernel
/-- JsonReader: a value at a depth -/
def JVC (l : Launch) (K : Nat → Nat × Nat) (dC : Nat → ClassId) (dI : Nat → Nat → Nat) (cI cV : ClassId) (lv : Nat → Nat) (cB : ClassId) (h0 qb qu : Nat) (ln : Int32) (bf : Nat → Int32) (n jr : Nat) (k d : Nat) : Prop := ∀ (sz : Heap) (E : Nat → Nat) (L : List Nat) (f : Nat → va_E) (i : Nat) (uc pl : Int32) (ug : Nat → Int32) (dp md : Int32) (la : Option Nat) (D : Nat), PO cI cV E lv L f → oR (isV E) la → i ≤ n → dp = nI D → d ≤ D → D ≤ 32 → vx_Met l y_JsonReader_value (k_JsonReader_value :: gtbl) ({ frames := 16 + 3 * k, cells := 2 * (n - i) + 4, slots := 16 * (n - i) + 40, locals := 350 + 90 * k }) (va_Pc [.ref jr, .int (nI d)] (ml K dC dI ([(jr, .inr (1, [.ref h0, .int dp, .int md, va_rf la])), (h0, .inr (8, [.ref qb, .ref qu, .int uc, .int ln, .int (nI n), .int (nI i), .int pl])), (qb, .inl (cB, 4096, .inl bf)), (qu, .inl (cI, 4096, .inl ug))] ++ va_pl L f) [(cB, .byte), (cI, .int), (cV, .object "QueryBench$Value")] sz)) (va_Qr (fun (u : Nat × Nat × List Nat × (Nat → Nat) × (Nat → va_E) × Int32 × (Nat → Int32) × Int32 × Int32 × Nat) => JP cI cV E lv L f la i n u.1 u.2.1 u.2.2.1 u.2.2.2.1 u.2.2.2.2.1 u.2.2.2.2.2.2.2.2.2 ∧ ∃ (x : JVt k) (ct : Nat), JFx bf n k d i u.2.1 D u.2.2.2.2.2.2.2.1 x ∧ OBJ E u.2.2.2.1 la u.2.2.2.2.1 u.1 u.2.2.2.2.2.2.2.2.2 ct k x ∧ u.2.2.2.2.2.2.2.2.1 = md + nI ct) (fun u a9 t9 => mz dC dI ([(jr, .inr (1, [.ref h0, .int u.2.2.2.2.2.2.2.1, .int u.2.2.2.2.2.2.2.2.1, .ref u.2.2.2.2.2.2.2.2.2])), (h0, .inr (8, [.ref qb, .ref qu, .int u.2.2.2.2.2.1, .int ln, .int (nI n), .int (nI u.2.1), .int pl])), (qb, .inl (cB, 4096, .inl bf)), (qu, .inl (cI, 4096, .inl u.2.2.2.2.2.2.1))] ++ va_pl ((L ++ u.2.2.1)) u.2.2.2.2.1) [(cB, .byte), (cI, .int), (cV, .object "QueryBench$Value")] (va_A ([(jr, .inr (1, [.ref h0, .int dp, .int md, va_rf la])), (h0, .inr (8, [.ref qb, .ref qu, .int uc, .int ln, .int (nI n), .int (nI i), .int pl])), (qb, .inl (cB, 4096, .inl bf)), (qu, .inl (cI, 4096, .inl ug))] ++ va_pl L f) sz.size) t9 ∧ szk sz t9.heap (2 * (u.2.1 - i)) (16 * (u.2.1 - i) - 1) ∧ a9 = u.1) (va_A ([(jr, .inr (1, [.ref h0, .int dp, .int md, va_rf la])), (h0, .inr (8, [.ref qb, .ref qu, .int uc, .int ln, .int (nI n), .int (nI i), .int pl])), (qb, .inl (cB, 4096, .inl bf)), (qu, .inl (cI, 4096, .inl ug))] ++ va_pl L f) sz.size)) (vx_X (fun (u : Int32 × Int32 × Int32 × (Nat → Int32) × Int32 × Int32 × Option Nat × (Nat → va_E)) => (∀ a, E a ≠ 0 → la ≠ some a → u.2.2.2.2.2.2.2 a = f a) ∧ jV bf n k i = none) (fun En u t9 => En = UOX ∧ mz dC dI ([(jr, .inr (1, [.ref h0, .int u.2.2.2.2.1, .int u.2.2.2.2.2.1, va_rf u.2.2.2.2.2.2.1])), (h0, .inr (8, [.ref qb, .ref qu, .int u.2.1, .int ln, .int (nI n), .int u.1, .int u.2.2.1])), (qb, .inl (cB, 4096, .inl bf)), (qu, .inl (cI, 4096, .inl u.2.2.2.1))] ++ va_pl L u.2.2.2.2.2.2.2) [(cB, .byte), (cI, .int), (cV, .object "QueryBench$Value")] (va_A ([(jr, .inr (1, [.ref h0, .int dp, .int md, va_rf la])), (h0, .inr (8, [.ref qb, .ref qu, .int uc, .int ln, .int (nI n), .int (nI i), .int pl])), (qb, .inl (cB, 4096, .inl bf)), (qu, .inl (cI, 4096, .inl ug))] ++ va_pl L f) sz.size) t9) (va_A ([(jr, .inr (1, [.ref h0, .int dp, .int md, va_rf la])), (h0, .inr (8, [.ref qb, .ref qu, .int uc, .int ln, .int (nI n), .int (nI i), .int pl])), (qb, .inl (cB, 4096, .inl bf)), (qu, .inl (cI, 4096, .inl ug))] ++ va_pl L f) sz.size)) (2 * (n - i) + 4) (16 * (n - i) + 40) (va_A ([(jr, .inr (1, [.ref h0, .int dp, .int md, va_rf la])), (h0, .inr (8, [.ref qb, .ref qu, .int uc, .int ln, .int (nI n), .int (nI i), .int pl])), (qb, .inl (cB, 4096, .inl bf)), (qu, .inl (cI, 4096, .inl ug))] ++ va_pl L f) sz.size)
set_option maxHeartbeats 4000000 in
set_option maxRecDepth 100000 in
/-- JsonReader.members -/
theorem c_JsonReader_members (l : Launch) (hl9 : l.stackTraces = false) (K : Nat → Nat × Nat) (dC : Nat → ClassId) (dI : Nat → Nat → Nat) (cI cV : ClassId) (lv : Nat → Nat) (cB : ClassId) (h0 qb qu : Nat) (ln : Int32) (bf : Nat → Int32) (n jr : Nat) (hn0 : n ≤ 4096) (k d : Nat) (HV : 0 < k → JVC l K dC dI cI cV lv cB h0 qb qu ln bf n jr (k - 1) d) (hk9 : 0 < k) (sz : Heap) (E : Nat → Nat) (L : List Nat) (f : Nat → va_E) (hO : PO cI cV E lv L f) (i : Nat) (uc pl : Int32) (ug : Nat → Int32) (dp md : Int32) (it : Nat) (kd : Int32) (hkd : kd = 5 ∨ kd = 6) (hit : E it = 1) (ef0 : f it = vE kd 0 none none none none 0 none none 0) (hin : i ≤ n) (D : Nat) (hdp : dp = nI D) (hDd : d ≤ D) (hD32 : D ≤ 32) (hdk : d + k = 33) (h1i : 1 ≤ i) : vx_Met l y_JsonReader_members (k_JsonReader_members :: gtbl) ({ frames := 14 + 3 * k, cells := 2 * (n - i) + 4, slots := 16 * (n - i) + 40, locals := 290 + 90 * k }) (va_Pc [.ref jr, .ref it, .int (nI d)] (ml K dC dI ([(jr, .inr (1, [.ref h0, .int dp, .int md, .ref it])), (h0, .inr (8, [.ref qb, .ref qu, .int uc, .int ln, .int (nI n), .int (nI i), .int pl])), (qb, .inl (cB, 4096, .inl bf)), (qu, .inl (cI, 4096, .inl ug))] ++ va_pl L f) [(cB, .byte), (cI, .int), (cV, .object "QueryBench$Value")] sz)) (va_Qv (fun (u : Nat × List Nat × (Nat → Nat) × (Nat → va_E) × Int32 × (Nat → Int32) × Int32 × Int32 × Nat) => MP cI cV E lv L f it i n u.1 kd u.2.1 u.2.2.1 u.2.2.2.1 u.2.2.2.2.2.2.2.2 ∧ MFx cV bf n k d i u.1 D kd u.2.2.2.2.2.2.1 E u.2.2.1 u.2.2.2.1 it u.2.2.2.2.2.2.2.2 md u.2.2.2.2.2.2.2.1) (fun u t9 => mz dC dI ([(jr, .inr (1, [.ref h0, .int u.2.2.2.2.2.2.1, .int u.2.2.2.2.2.2.2.1, .ref u.2.2.2.2.2.2.2.2])), (h0, .inr (8, [.ref qb, .ref qu, .int u.2.2.2.2.1, .int ln, .int (nI n), .int (nI u.1), .int pl])), (qb, .inl (cB, 4096, .inl bf)), (qu, .inl (cI, 4096, .inl u.2.2.2.2.2.1))] ++ va_pl ((L ++ u.2.1)) u.2.2.2.1) [(cB, .byte), (cI, .int), (cV, .object "QueryBench$Value")] (va_A ([(jr, .inr (1, [.ref h0, .int dp, .int md, .ref it])), (h0, .inr (8, [.ref qb, .ref qu, .int uc, .int ln, .int (nI n), .int (nI i), .int pl])), (qb, .inl (cB, 4096, .inl bf)), (qu, .inl (cI, 4096, .inl ug))] ++ va_pl L f) sz.size) t9 ∧ szk sz t9.heap (2 * (u.1 - i) + 1) (16 * (u.1 - i))) (va_A ([(jr, .inr (1, [.ref h0, .int dp, .int md, .ref it])), (h0, .inr (8, [.ref qb, .ref qu, .int uc, .int ln, .int (nI n), .int (nI i), .int pl])), (qb, .inl (cB, 4096, .inl bf)), (qu, .inl (cI, 4096, .inl ug))] ++ va_pl L f) sz.size)) (vx_X (fun (u : Int32 × Int32 × Int32 × (Nat → Int32) × Int32 × Int32 × Option Nat × (Nat → va_E)) => (∀ a, E a ≠ 0 → a ≠ it → u.2.2.2.2.2.2.2 a = f a) ∧ jMem bf n (jV bf n (k - 1)) (decide (kd = 6)) 4097 i [] = none) (fun En u t9 => En = UOX ∧ mz dC dI ([(jr, .inr (1, [.ref h0, .int u.2.2.2.2.1, .int u.2.2.2.2.2.1, va_rf u.2.2.2.2.2.2.1])), (h0, .inr (8, [.ref qb, .ref qu, .int u.2.1, .int ln, .int (nI n), .int u.1, .int u.2.2.1])), (qb, .inl (cB, 4096, .inl bf)), (qu, .inl (cI, 4096, .inl u.2.2.2.1))] ++ va_pl L u.2.2.2.2.2.2.2) [(cB, .byte), (cI, .int), (cV, .object "QueryBench$Value")] (va_A ([(jr, .inr (1, [.ref h0, .int dp, .int md, .ref it])), (h0, .inr (8, [.ref qb, .ref qu, .int uc, .int ln, .int (nI n), .int (nI i), .int pl])), (qb, .inl (cB, 4096, .inl bf)), (qu, .inl (cI, 4096, .inl ug))] ++ va_pl L f) sz.size) t9) (va_A ([(jr, .inr (1, [.ref h0, .int dp, .int md, .ref it])), (h0, .inr (8, [.ref qb, .ref qu, .int uc, .int ln, .int (nI n), .int (nI i), .int pl])), (qb, .inl (cB, 4096, .inl bf)), (qu, .inl (cI, 4096, .inl ug))] ++ va_pl L f) sz.size)) (2 * (n - i) + 4) (16 * (n - i) + 40) (va_A ([(jr, .inr (1, [.ref h0, .int dp, .int md, .ref it])), (h0, .inr (8, [.ref qb, .ref qu, .int uc, .int ln, .int (nI n), .int (nI i), .int pl])), (qb, .inl (cB, 4096, .inl bf)), (qu, .inl (cI, 4096, .inl ug))] ++ va_pl L f) sz.size) := by
  refine vx_ofW (cc := b_JsonReader_members) (maxL := 10) (ret := none) (by decide) rfl ?_
  intro p e s m args below meth c s₁ B hml hex hv
  obtain ⟨rfl, ⟨hsz, hP, hK, hD0⟩, hN, hZ, hC, hV⟩ := hv
  have hx := B.exec
  have hb := B.bytes
  have hr := B.returns
  have hts0 := atoms_spec (ws := k_JsonReader_members :: gtbl) B.pre
  have hts := fun w h => hts0 w (List.mem_cons_of_mem _ h)
  have hown : s.vm.findClass R_JsonReader = some m.cls := findClass_of_methodNamed B.named
  have hlocks := B.notSynchronized
  subst hsz
  have hD := hD0.self (sz := s.heap.size)
  generalize hAe : va_A ([(jr, .inr (1, [.ref h0, .int dp, .int md, .ref it])), (h0, .inr (8, [.ref qb, .ref qu, .int uc, .int ln, .int (nI n), .int (nI i), .int pl])), (qb, .inl (cB, 4096, .inl bf)), (qu, .inl (cI, 4096, .inl ug))] ++ va_pl L f) s.heap.size = A at hD hZ hC ⊢
  have hA : ∀ q : Nat, s.heap.size ≤ q → A q := fun q h => by rw [← hAe]; exact Or.inr h
  have hS : va_S A s.heap s.heap [] := va_S.rf
  have hP : va_P (dC, dI) classes ([(jr, .inr (1, [.ref h0, .int dp, .int md, .ref it])), (h0, .inr (8, [.ref qb, .ref qu, .int uc, .int ln, .int (nI n), .int (nI i), .int pl])), (qb, .inl (cB, 4096, .inl bf)), (qu, .inl (cI, 4096, .inl ug))] ++ va_pl L f) s.heap := hP
  have hl := lv_entry ([.ref jr, .ref it, .int (nI d)]) (n := 10) (Nat.le_of_ble_eq_true rfl)
  rw [lg_entry_eq]
  generalize (lg_sl ([.ref jr, .ref it, .int (nI d)]) ++ List.replicate (10 - (lg_sl ([.ref jr, .ref it, .int (nI d)])).length) Slot.unset).toArray = ls at hl ⊢
  have hl : lv_has ls 10 [(0, .ref jr), (1, .ref it), (2, .int (nI d))] := hl
  refine lv_null hx hb d_JsonReader_members_0 ?_
  refine lv_astore_nN (lv' := [(3, .null), (0, .ref jr), (1, .ref it), (2, .int (nI d))]) hx hb d_JsonReader_members_1 rfl hl (by decide) rfl (fun ls hl => ?_)
  refine lv_null hx hb d_JsonReader_members_2 ?_
  refine lv_astoreN (lv' := [(4, .null), (3, .null), (0, .ref jr), (1, .ref it), (2, .int (nI d))]) hx hb d_JsonReader_members_3 hl (by decide) rfl (fun ls hl => ?_)
  refine lv_iconst (v := 0) hx hb d_JsonReader_members_5 (by decide) ?_
  refine lv_istore (lv' := [(5, .int 0), (4, .null), (3, .null), (0, .ref jr), (1, .ref it), (2, .int (nI d))]) hx hb d_JsonReader_members_6 hl (by decide) rfl (fun ls hl => ?_)
  refine lv_iconst (v := 1) hx hb d_JsonReader_members_8 (by decide) ?_
  refine lv_istore (lv' := [(6, .int 1), (5, .int 0), (4, .null), (3, .null), (0, .ref jr), (1, .ref it), (2, .int (nI d))]) hx hb d_JsonReader_members_9 hl (by decide) rfl (fun ls hl => ?_)
  refine lv_iconst (v := 0) hx hb d_JsonReader_members_11 (by decide) ?_
  refine lv_istore (lv' := [(7, .int 0), (6, .int 1), (5, .int 0), (4, .null), (3, .null), (0, .ref jr), (1, .ref it), (2, .int (nI d))]) hx hb d_JsonReader_members_12 hl (by decide) rfl (fun ls hl => ?_)
  obtain ⟨md0, hmd0⟩ : ∃ z, z = md := ⟨_, rfl⟩
  have hP : va_P (dC, dI) classes ([(jr, .inr (1, [.ref h0, .int dp, .int md, .ref it])), (h0, .inr (8, [.ref qb, .ref qu, .int uc, .int ln, .int (nI n), .int (nI i), .int pl])), (qb, .inl (cB, 4096, .inl bf)), (qu, .inl (cI, 4096, .inl ug))] ++ va_pl (L ++ []) f) s.heap := by rw [List.append_nil]; exact hP
  have hD : va_D A ([(jr, .inr (1, [.ref h0, .int dp, .int md, .ref it])), (h0, .inr (8, [.ref qb, .ref qu, .int uc, .int ln, .int (nI n), .int (nI i), .int pl])), (qb, .inl (cB, 4096, .inl bf)), (qu, .inl (cI, 4096, .inl ug))] ++ va_pl (L ++ []) f) := by rw [List.append_nil]; exact hD
  refine w_same (fun hq => ?_)
  refine W.widen (k := 2 * (n - i) + 4) (n := 16 * (n - i) + 40) (Nat.zero_le _) (Nat.zero_le _) ?_
  refine w_loopG (D := (dC, dI)) (cl := classes) (A := A) (H0 := s.heap) (nL := 10) 14 (σ := List Nat × Int32 × Nat × List Nat × (Nat → Nat) × (Nat → va_E) × Int32 × (Nat → Int32) × Int32 × Int32 × Nat × List (List Int32 × JVt (k - 1)) × Nat) (fun ⟨ms, mo, p, N, E1, f1, uc, ug, dp, md, lb, acc, ct⟩ H => LJ cI cV E lv L f it i n kd ms p N E1 f1 lb ∧ MI bf n k d i D kd ms f1 acc p mo dp ∧ szk s.heap H (2 * (p - i)) (16 * (p - i) - ms.length) ∧ KSd E E1 f1 it kd (k - 1) acc ms lb ct ∧ md = md0 + nI ct) (fun ⟨ms, mo, p, N, E1, f1, uc, ug, dp, md, lb, acc, ct⟩ => 4097 - ms.length) (fun ⟨ms, mo, p, N, E1, f1, uc, ug, dp, md, lb, acc, ct⟩ => [(jr, .inr (1, [.ref h0, .int dp, .int md, .ref lb])), (h0, .inr (8, [.ref qb, .ref qu, .int uc, .int ln, .int (nI n), .int (nI p), .int pl])), (qb, .inl (cB, 4096, .inl bf)), (qu, .inl (cI, 4096, .inl ug))] ++ va_pl ((L ++ N)) f1) (fun ⟨ms, mo, p, N, E1, f1, uc, ug, dp, md, lb, acc, ct⟩ => [(0, .ref jr), (1, .ref it), (2, .int (nI d)), (3, va_rf (ms[0]?)), (4, va_rf (ms[ms.length - 1]?)), (5, .int (nI ms.length)), (6, .int mo), (7, .int (nI ms.length))]) ?_ ([], 1, i, [], E, f, uc, ug, dp, md, it, [], 0) ⟨LJ.start hO hin hit ef0, MI.start hDd hdp, hq.mono (Nat.zero_le _) (Nat.zero_le _), KSd.st (refE8_v ef0), by show md = md0 + nI 0; rw [hmd0]; exact (Int32.add_zero md).symm⟩ hP hD hS (lv_sub hl [5, 6, 7, 4, 3, 2, 1, 0] rfl)
  rintro ⟨ms, mo, p, N, E1, f1, uc, ug, dp, md, lb, acc, ct⟩ H locs ls hI ih hP hD hS hl
  obtain ⟨hLJ, hMI, hIz, hKS, hmd⟩ := hI
  have hKS : KSd E E1 f1 it kd (k - 1) acc ms lb ct := hKS
  have hmd : md = md0 + nI ct := hmd
  have hMI : MI bf n k d i D kd ms f1 acc p mo dp := hMI
  have hLJ : LJ cI cV E lv L f it i n kd ms p N E1 f1 lb := hLJ
  have hIz : szk s.heap H (2 * (p - i)) (16 * (p - i) - ms.length) := hIz
  refine w_tight hIz ?_
  have hP : va_P (dC, dI) classes ([(jr, .inr (1, [.ref h0, .int dp, .int md, .ref lb])), (h0, .inr (8, [.ref qb, .ref qu, .int uc, .int ln, .int (nI n), .int (nI p), .int pl])), (qb, .inl (cB, 4096, .inl bf)), (qu, .inl (cI, 4096, .inl ug))] ++ va_pl ((L ++ N)) f1) H := hP
  have hD : va_D A ([(jr, .inr (1, [.ref h0, .int dp, .int md, .ref lb])), (h0, .inr (8, [.ref qb, .ref qu, .int uc, .int ln, .int (nI n), .int (nI p), .int pl])), (qb, .inl (cB, 4096, .inl bf)), (qu, .inl (cI, 4096, .inl ug))] ++ va_pl ((L ++ N)) f1) := hD
  have hl : lv_has ls 10 [(0, .ref jr), (1, .ref it), (2, .int (nI d)), (3, va_rf (ms[0]?)), (4, va_rf (ms[ms.length - 1]?)), (5, .int (nI ms.length)), (6, .int mo), (7, .int (nI ms.length))] := hl
  obtain ⟨hj1, hj2, hj3, hj4⟩ := hLJ.num
  have hO1 := hLJ.po
  obtain ⟨no1, hit1⟩ := hLJ.itf
  have hi1 : E1 it = 1 := (hLJ.ex it (by rw [hit]; decide)).trans hit
  rcases Nat.eq_zero_or_pos ms.length with hm | hm
  · have hm0 : ms[0]? = none := List.getElem?_eq_none_iff.mpr (by omega)
    have hmz : ms[ms.length - 1]? = none := List.getElem?_eq_none_iff.mpr (by omega)
    rw [hm0, hmz] at hl
    have hl : lv_has ls 10 [(0, .ref jr), (1, .ref it), (2, .int (nI d)), (3, .null), (4, .null), (5, .int (nI ms.length)), (6, .int mo), (7, .int (nI ms.length))] := hl
    refine lv_iload hx hb d_JsonReader_members_14 (lv_at hl 7 rfl) ?_
    refine lv_sipush (v := 4096) hx hb d_JsonReader_members_16 (by decide) ?_
    refine lv_icmp_ge (tgt := 116) hx hb d_JsonReader_members_19 (by decide) (fun c19 => ?_) (fun c19 => ?_)
    · have h4 : 4096 ≤ ms.length := by rw [show (4096 : Int32) = nI 4096 from rfl, nI_leI (by omega) (by omega)] at c19; exact c19
      exact absurd h4 (by omega)
    · have hc4 : ms.length < 4096 := by rw [show (4096 : Int32) = nI 4096 from rfl, nI_leI (by omega) (by omega)] at c19; omega
      refine lv_iload hx hb d_JsonReader_members_22 (lv_at hl 6 rfl) ?_
      refine lv_if_eq (tgt := 116) hx hb d_JsonReader_members_24 (by decide) (fun c24 => ?_) (fun c24 => ?_)
      · refine lv_aload_n hx hb d_JsonReader_members_116 rfl (lv_at hl 1 rfl) ?_
        refine lv_aload_nN hx hb d_JsonReader_members_117 rfl (lv_at hl 3 rfl) ?_
        refine lv_iload hx hb d_JsonReader_members_118 (lv_at hl 5 rfl) ?_
        have hPc := hP.part (cx := []) [] rfl
        have hDc := hD.part (cx := []) [] (by decide) rfl
        have hFc := va_freeP (cx := []) hD hS hA [] rfl
        have hKc := hK.sub (tys' := [(cI, .int), (cV, .object "QueryBench$Value")]) [1, 2] rfl
        refine w_same (fun hq0 => ?_)
        refine va_callr (va_runS (As := [.null, .int (nI ms.length)]) (rest := [.ref it]) ⟨hx, hb, hml, hown, hts⟩ (c_JsonReader_row l K dC dI H cI cV E1 lv (L ++ N) f1 hO1 none ms hm0.symm hj4 (fun a => E a = 0 ∧ isF E1 a ∧ (kd = 6 → E1 a = 3) ∧ (¬ kd = 6 → E1 a = 2)) hLJ.chn) (va_cwS 2 hts (gt_S (own := R_JsonReader) (i := 135) (y := y_JsonReader_row) i_JsonReader_row z_447 z_448 w_3) rfl rfl rfl (by decide +kernel) ⟨by show 0 + 1 ≤ 14 + 3 * k; omega, by show 8 + (5 + 11) + (0) ≤ 290 + 90 * k; omega⟩) ⟨ml_blind, fun U hU hW => ⟨rfl, ⟨hU, by rw [hU]; exact hPc, va_K.moved hW.alike hKc, hDc.weaken (fun _ _ _ _ => trivial)⟩, hN.warm hW, by rw [hU]; exact ZX.moved' hW.alike (ZX.narrow' (ZX.kept' hZ hS.2.1) hFc), by rw [hU]; exact CE.call hC hS.2.1 hFc hW, va_AO.moved hW.alike hV⟩⟩ rfl rfl hl.1 rfl (lv_room (Nat.le_of_ble_eq_true rfl)) d_JsonReader_members_120 ⟨by show (2 * (p - i)) + (1) ≤ 2 * (n - i) + 4; omega, by show (16 * (p - i) - ms.length) + (ms.length) ≤ 16 * (n - i) + 40; omega⟩) hS (fun q _ h => hFc q h) hFc (fun ⟨ra, gr⟩ ra0 t9 H1 locs ht hvm hw hB hz1 hk1 hS => ?_)
        obtain ⟨⟨hP1, hK1, hD1⟩, hz9, ha9⟩ := hB
        rw [ht] at hP1
        rw [ht] at hz9
        have ha9 : ra0 = ra := ha9
        subst ha9
        have hq0 : szk s.heap H1 ((2 * (p - i)) + 1) ((16 * (p - i) - ms.length) + ms.length) := (hq0.trans hz9).mono (Nat.le_refl _) (Nat.le_refl _)
        refine w_tight hq0 ?_
        obtain ⟨hP, hD⟩ := va_joinP (wr := [(jr, .inr (1, [.ref h0, .int dp, .int md, .ref lb])), (h0, .inr (8, [.ref qb, .ref qu, .int uc, .int ln, .int (nI n), .int (nI p), .int pl])), (qb, .inl (cB, 4096, .inl bf)), (qu, .inl (cI, 4096, .inl ug))]) (rx := [(ra0, .inl (cV, ms.length, .inr (.inr (.inr (.inr gr)))))]) (pl1 := va_pl ((L ++ N)) f1) hP hD [] [0, 1, 2, 3] rfl rfl (by decide) (by decide) hk1 hFc hP1 hD1
        generalize H1 = H at hP hS hq0 ⊢
        have hP : va_P (dC, dI) classes ([(jr, .inr (1, [.ref h0, .int dp, .int md, .ref lb])), (h0, .inr (8, [.ref qb, .ref qu, .int uc, .int ln, .int (nI n), .int (nI p), .int pl])), (qb, .inl (cB, 4096, .inl bf)), (qu, .inl (cI, 4096, .inl ug)), (ra0, .inl (cV, ms.length, .inr (.inr (.inr (.inr gr)))))] ++ va_pl ((L ++ N)) f1) H := hP
        have hD : va_D A ([(jr, .inr (1, [.ref h0, .int dp, .int md, .ref lb])), (h0, .inr (8, [.ref qb, .ref qu, .int uc, .int ln, .int (nI n), .int (nI p), .int pl])), (qb, .inl (cB, 4096, .inl bf)), (qu, .inl (cI, 4096, .inl ug)), (ra0, .inl (cV, ms.length, .inr (.inr (.inr (.inr gr)))))] ++ va_pl ((L ++ N)) f1) := hD
        have hgr : ∀ k, k < ms.length → gr k = ms[k]? := hw
        have hP : va_P (dC, dI) classes ([(jr, .inr (1, [.ref h0, .int dp, .int md, .ref lb])), (h0, .inr (8, [.ref qb, .ref qu, .int uc, .int ln, .int (nI n), .int (nI p), .int pl])), (qb, .inl (cB, 4096, .inl bf)), (qu, .inl (cI, 4096, .inl ug)), (ra0, .inl (cV, ms.length, .inr (.inr (.inr (.inr gr)))))] ++ va_pl ((L ++ N)) f1) H := hP
        have hD : va_D A ([(jr, .inr (1, [.ref h0, .int dp, .int md, .ref lb])), (h0, .inr (8, [.ref qb, .ref qu, .int uc, .int ln, .int (nI n), .int (nI p), .int pl])), (qb, .inl (cB, 4096, .inl bf)), (qu, .inl (cI, 4096, .inl ug)), (ra0, .inl (cV, ms.length, .inr (.inr (.inr (.inr gr)))))] ++ va_pl ((L ++ N)) f1) := hD
        refine vq_put (D := (dC, dI)) (ci := 9) (v := .ref ra0) (ty := .array (.object "QueryBench$Value")) (C := R_Value) (T := F_Value) (N := 10) hx hb hts in_Value t_Value t_Value_ok n_Value hown hK hP hD hS (hO1.inV (Or.inl hi1)) hit1 rfl 3 (by decide) (hts _ z_327) (fun _ h9 => h9) rfl (by decide +kernel) rfl rfl (Nat.le_of_ble_eq_true rfl) d_JsonReader_members_123 (fun H locs hP hD hS => ?_)
        have hP : va_P (dC, dI) classes ([(jr, .inr (1, [.ref h0, .int dp, .int md, .ref lb])), (h0, .inr (8, [.ref qb, .ref qu, .int uc, .int ln, .int (nI n), .int (nI p), .int pl])), (qb, .inl (cB, 4096, .inl bf)), (qu, .inl (cI, 4096, .inl ug)), (ra0, .inl (cV, ms.length, .inr (.inr (.inr (.inr gr)))))] ++ va_pl ((L ++ N)) ((va_up f1 it (vE kd 0 none (some ra0) none none 0 none no1 0)))) H := hP
        have hD : va_D A ([(jr, .inr (1, [.ref h0, .int dp, .int md, .ref lb])), (h0, .inr (8, [.ref qb, .ref qu, .int uc, .int ln, .int (nI n), .int (nI p), .int pl])), (qb, .inl (cB, 4096, .inl bf)), (qu, .inl (cI, 4096, .inl ug)), (ra0, .inl (cV, ms.length, .inr (.inr (.inr (.inr gr)))))] ++ va_pl ((L ++ N)) ((va_up f1 it (vE kd 0 none (some ra0) none none 0 none no1 0)))) := hD
        have hra0 : E1 ra0 = 0 := Classical.byContradiction (fun h => plD_new (X := [(jr, .inr (1, [.ref h0, .int dp, .int md, .ref lb])), (h0, .inr (8, [.ref qb, .ref qu, .int uc, .int ln, .int (nI n), .int (nI p), .int pl])), (qb, .inl (cB, 4096, .inl bf)), (qu, .inl (cI, 4096, .inl ug))]) hD (hO1.inL h))
        have hraL := plD_new (X := [(jr, .inr (1, [.ref h0, .int dp, .int md, .ref lb])), (h0, .inr (8, [.ref qb, .ref qu, .int uc, .int ln, .int (nI n), .int (nI p), .int pl])), (qb, .inl (cB, 4096, .inl bf)), (qu, .inl (cI, 4096, .inl ug))]) hD
        have hP := plP_push (X := [(jr, .inr (1, [.ref h0, .int dp, .int md, .ref lb])), (h0, .inr (8, [.ref qb, .ref qu, .int uc, .int ln, .int (nI n), .int (nI p), .int pl])), (qb, .inl (cB, 4096, .inl bf)), (qu, .inl (cI, 4096, .inl ug))]) hP hraL
        have hD := plD_push (X := [(jr, .inr (1, [.ref h0, .int dp, .int md, .ref lb])), (h0, .inr (8, [.ref qb, .ref qu, .int uc, .int ln, .int (nI n), .int (nI p), .int pl])), (qb, .inl (cB, 4096, .inl bf)), (qu, .inl (cI, 4096, .inl ug))]) hD hraL
        rw [List.append_assoc] at hP hD
        have hP : va_P (dC, dI) classes ([(jr, .inr (1, [.ref h0, .int dp, .int md, .ref lb])), (h0, .inr (8, [.ref qb, .ref qu, .int uc, .int ln, .int (nI n), .int (nI p), .int pl])), (qb, .inl (cB, 4096, .inl bf)), (qu, .inl (cI, 4096, .inl ug))] ++ va_pl ((L ++ (N ++ [ra0]))) ((va_up (va_up f1 it (vE kd 0 none (some ra0) none none 0 none no1 0)) ra0 (aE cV ms.length gr)))) H := hP
        have hD : va_D A ([(jr, .inr (1, [.ref h0, .int dp, .int md, .ref lb])), (h0, .inr (8, [.ref qb, .ref qu, .int uc, .int ln, .int (nI n), .int (nI p), .int pl])), (qb, .inl (cB, 4096, .inl bf)), (qu, .inl (cI, 4096, .inl ug))] ++ va_pl ((L ++ (N ++ [ra0]))) ((va_up (va_up f1 it (vE kd 0 none (some ra0) none none 0 none no1 0)) ra0 (aE cV ms.length gr)))) := hD
        refine w_same (fun hq => ?_)
        refine W.widen (k := 2 * (n - i) + 4) (n := 16 * (n - i) + 40) (by show ((2 * (p - i)) + 1) ≤ 2 * (n - i) + 4; omega) (by show ((16 * (p - i) - ms.length) + ms.length) ≤ 16 * (n - i) + 40; omega) ?_
        refine vx_ret ?_
        rcases hkd with hk5 | hk6
        · have hraI : ra0 ≠ it := fun e => by rw [e, hi1] at hra0; cases hra0
          have hMFx : MFx cV bf n k d i p D kd dp E (va_up E1 ra0 5) (va_up (va_up f1 it (vE kd 0 none (some ra0) none none 0 none no1 0)) ra0 (aE cV ms.length gr)) it lb md0 md := hMI.finx c24 ⟨ms, ct, some ra0, no1, KSd.row hO1 hKS (Or.inl hi1) hit1 ((va_up_ne _ _ (Ne.symm hraI)).trans (va_up_self _ _ _)) (fun a ha hn9 => by rw [va_up_ne _ _ (show a ≠ ra0 from fun e => ha (by rw [e]; exact hra0)), va_up_ne _ _ hn9]) (EX.new hra0), (va_up_ne _ _ (Ne.symm hraI)).trans (va_up_self _ _ _), Or.inr ⟨ra0, gr, rfl, by rw [va_up_self]; decide, hraI, va_up_self _ _ _, hgr⟩, hmd⟩
          rw [hmd0] at hMFx
          exact W.vret hx hb hr (fun t9 ht hW => ⟨⟨(p, N ++ [ra0], va_up E1 ra0 5, va_up (va_up f1 it (vE kd 0 none (some ra0) none none 0 none no1 0)) ra0 (aE cV ms.length gr), uc, ug, dp, md, lb), rfl, ⟨hLJ.fin hit hra0 hgr hit1 (Or.inl ⟨rfl, by rw [hk5]; decide⟩), hMFx⟩, ⟨by rw [ht]; exact hP, va_K.moved hW.alike hK, hD⟩, by rw [ht]; exact hq.mono (by show ((2 * (p - i)) + 1) ≤ 2 * (p - i) + 1; omega) (by show ((16 * (p - i) - ms.length) + ms.length) ≤ 16 * (p - i); omega)⟩, hS.F ht⟩) hS.2.2 d_JsonReader_members_126
        · have hraI : ra0 ≠ it := fun e => by rw [e, hi1] at hra0; cases hra0
          have hMFx : MFx cV bf n k d i p D kd dp E (va_up E1 ra0 6) (va_up (va_up f1 it (vE kd 0 none (some ra0) none none 0 none no1 0)) ra0 (aE cV ms.length gr)) it lb md0 md := hMI.finx c24 ⟨ms, ct, some ra0, no1, KSd.row hO1 hKS (Or.inl hi1) hit1 ((va_up_ne _ _ (Ne.symm hraI)).trans (va_up_self _ _ _)) (fun a ha hn9 => by rw [va_up_ne _ _ (show a ≠ ra0 from fun e => ha (by rw [e]; exact hra0)), va_up_ne _ _ hn9]) (EX.new hra0), (va_up_ne _ _ (Ne.symm hraI)).trans (va_up_self _ _ _), Or.inr ⟨ra0, gr, rfl, by rw [va_up_self]; decide, hraI, va_up_self _ _ _, hgr⟩, hmd⟩
          rw [hmd0] at hMFx
          exact W.vret hx hb hr (fun t9 ht hW => ⟨⟨(p, N ++ [ra0], va_up E1 ra0 6, va_up (va_up f1 it (vE kd 0 none (some ra0) none none 0 none no1 0)) ra0 (aE cV ms.length gr), uc, ug, dp, md, lb), rfl, ⟨hLJ.fin hit hra0 hgr hit1 (Or.inr ⟨rfl, hk6⟩), hMFx⟩, ⟨by rw [ht]; exact hP, va_K.moved hW.alike hK, hD⟩, by rw [ht]; exact hq.mono (by show ((2 * (p - i)) + 1) ≤ 2 * (p - i) + 1; omega) (by show ((16 * (p - i) - ms.length) + ms.length) ≤ 16 * (p - i); omega)⟩, hS.F ht⟩) hS.2.2 d_JsonReader_members_126
      · refine lv_aload_n hx hb d_JsonReader_members_27 rfl (lv_at hl 1 rfl) ?_
        refine vq_get (D := (dC, dI)) (ci := 9) (v := .int kd) (C := R_Value) (T := F_Value) (N := 10) hx hb hts in_Value hown hK hP (hO1.inV (Or.inl hi1)) hit1 rfl 0 (by decide) (hts _ z_313) (fun _ h9 => h9) rfl d_JsonReader_members_28 ?_
        refine lv_bipush (v := 6) hx hb d_JsonReader_members_31 (by decide) ?_
        refine lv_icmp_ne (tgt := 44) hx hb d_JsonReader_members_33 (by decide) (fun c33 => ?_) (fun c33 => ?_)
        · have hnm9 := jNm_0 (bf := bf) (n := n) (p := p) (nms := acc.map (·.1)) c33
          have hx2 : EX E1 E1 := EX.rf
          have hn2 : ∀ a, E1 a = 0 → E1 a ≠ 1 := fun a ha => by omega
          have hf2 : ∀ a, E1 a ≠ 0 → f1 a = f1 a := fun _ _ => rfl
          have hO2 := hO1
          refine lv_null hx hb d_JsonReader_members_44 ?_
          refine lv_astoreN (lv' := [(8, .null), (0, .ref jr), (1, .ref it), (2, .int (nI d)), (3, .null), (4, .null), (5, .int (nI ms.length)), (6, .int mo), (7, .int (nI ms.length))]) hx hb d_JsonReader_members_45 hl (by decide) rfl (fun ls hl => ?_)
          refine lv_aload_n hx hb d_JsonReader_members_47 rfl (lv_at hl 1 rfl) ?_
          refine lv_iload_n hx hb d_JsonReader_members_48 rfl (lv_at hl 3 rfl) ?_
          obtain ⟨D9, hD9⟩ : ∃ z, z = max D (d + dpK (dpJ (k - 1)) acc) := ⟨_, rfl⟩
          have hdp9 : dp = nI D9 := by rw [hD9]; exact hMI.2.2.1
          have hdq9 := dpK_le (dpJ_le (k - 1)) acc
          have hlbv : oR (isV E1) (some lb) := fun b h => by cases h; exact hx2.el.v hLJ.lbv
          have hPc := hP.part (cx := [(jr, .inr (1, [.ref h0, .int dp, .int md, .ref lb])), (h0, .inr (8, [.ref qb, .ref qu, .int uc, .int ln, .int (nI n), .int (nI p), .int pl])), (qb, .inl (cB, 4096, .inl bf)), (qu, .inl (cI, 4096, .inl ug))]) [0, 1, 2, 3] rfl
          have hDc := hD.part (cx := [(jr, .inr (1, [.ref h0, .int dp, .int md, .ref lb])), (h0, .inr (8, [.ref qb, .ref qu, .int uc, .int ln, .int (nI n), .int (nI p), .int pl])), (qb, .inl (cB, 4096, .inl bf)), (qu, .inl (cI, 4096, .inl ug))]) [0, 1, 2, 3] (by decide) rfl
          have hFc := va_freeP (cx := [(jr, .inr (1, [.ref h0, .int dp, .int md, .ref lb])), (h0, .inr (8, [.ref qb, .ref qu, .int uc, .int ln, .int (nI n), .int (nI p), .int pl])), (qb, .inl (cB, 4096, .inl bf)), (qu, .inl (cI, 4096, .inl ug))]) hD hS hA [0, 1, 2, 3] rfl
          have hKc := hK.sub (tys' := [(cB, .byte), (cI, .int), (cV, .object "QueryBench$Value")]) [0, 1, 2] rfl
          refine w_same (fun hq0 => ?_)
          refine vx_callr (vx_runV (As := [.int (nI d)]) (rest := []) ⟨hx, hb, hml, hown, hts⟩ (HV hk9 H E1 (L ++ N) f1 p uc pl ug dp md (some lb) D9 hO2 hlbv (by omega) hdp9 (by omega) (by omega)) (cwV 1 hts (gt_V (own := R_JsonReader) (C := R_JsonReader) (i := 26) (y := y_JsonReader_value) i_JsonReader_value z_294 z_296 (gt_sel (y := y_JsonReader_value) (n := 4) (by decide +kernel)) w_3) rfl rfl rfl (by decide +kernel) ⟨by show 16 + 3 * (k - 1) + 1 ≤ 14 + 3 * k; omega, by show 8 + (4 + 11) + (350 + 90 * (k - 1)) ≤ 290 + 90 * k; omega⟩) ⟨ml_blind, va_recv hK hP (ci := 1) (q0 := 0) rfl rfl, fun U hU hW => ⟨rfl, ⟨hU, by rw [hU]; exact hPc, va_K.moved hW.alike hKc, hDc.weaken (fun _ _ _ _ => trivial)⟩, hN.warm hW, by rw [hU]; exact ZX.moved' hW.alike (ZX.narrow' (ZX.kept' hZ hS.2.1) hFc), by rw [hU]; exact CE.call hC hS.2.1 hFc hW, va_AO.moved hW.alike hV⟩⟩ rfl rfl hl.1 rfl (lv_room (Nat.le_of_ble_eq_true rfl)) d_JsonReader_members_49 ⟨by show (2 * (p - i)) + (2 * (n - p) + 4) ≤ 2 * (n - i) + 4; omega, by show (16 * (p - i) - ms.length) + (16 * (n - p) + 40) ≤ 16 * (n - i) + 40; omega⟩) hS (fun q _ h => hFc q h) hFc (fun q _ h => hFc q h) (fun En ce q9 ⟨ax, cx, px, gx, dx, mx, lx, fx⟩ t9 H1 locs ht hvm hw hB hz1 hk1 hS hce hcv hcl => ?_) (fun ⟨v3, p3, N3, E3, f3, uc3, ug3, dp3, md3, lb3⟩ v9 t9 H1 locs ht hvm hw hB hz1 hk1 hS => ?_)
          · obtain ⟨hEn, hP1, hK1, hD1⟩ := hB
            rw [ht] at hP1
            obtain ⟨hP, hD⟩ := va_joinP (wr := []) (rx := [(jr, .inr (1, [.ref h0, .int dx, .int mx, va_rf lx])), (h0, .inr (8, [.ref qb, .ref qu, .int cx, .int ln, .int (nI n), .int ax, .int px])), (qb, .inl (cB, 4096, .inl bf)), (qu, .inl (cI, 4096, .inl gx))]) (pl1 := va_pl ((L ++ N)) fx) hP hD [0, 1, 2, 3] [] rfl rfl (by decide) (by decide) hk1 hFc hP1 hD1
            generalize H1 = H at hP hS hce ⊢
            have hP : va_P (dC, dI) classes ([(jr, .inr (1, [.ref h0, .int dx, .int mx, va_rf lx])), (h0, .inr (8, [.ref qb, .ref qu, .int cx, .int ln, .int (nI n), .int ax, .int px])), (qb, .inl (cB, 4096, .inl bf)), (qu, .inl (cI, 4096, .inl gx))] ++ va_pl ((L ++ N)) fx) H := hP
            have hD : va_D A ([(jr, .inr (1, [.ref h0, .int dx, .int mx, va_rf lx])), (h0, .inr (8, [.ref qb, .ref qu, .int cx, .int ln, .int (nI n), .int ax, .int px])), (qb, .inl (cB, 4096, .inl bf)), (qu, .inl (cI, 4096, .inl gx))] ++ va_pl ((L ++ N)) fx) := hD
            have hP := plP_pre hP
            have hD := plD_pre hD
            have hkx := hLJ.thr hx2 hf2 (show ∀ a, E1 a ≠ 0 → some lb ≠ some a → fx a = f1 a from hw.1)
            have hno := hMI.bad2 c24 hc4 hnm9 (show jV bf n (k - 1) p = none from hw.2)
            exact vx_out (fun x hx => (hex x hx).elim) hlocks hce hcv hcl (fun t9 ht2 ha => ⟨(ax, cx, px, gx, dx, mx, lx, fx), ⟨hkx, hno⟩, ⟨hEn, by rw [ht2]; exact hP, va_K.moved ha hK, hD⟩, hS.F ht2⟩) hS.2.2 (by show (2 * (p - i)) + (2 * (n - p) + 4) ≤ 2 * (n - i) + 4; omega) (by show (16 * (p - i) - ms.length) + (16 * (n - p) + 40) ≤ 16 * (n - i) + 40; omega)
          · obtain ⟨⟨hP1, hK1, hD1⟩, hz9, ha9⟩ := hB
            rw [ht] at hP1
            rw [ht] at hz9
            have ha9 : v9 = v3 := ha9
            subst ha9
            have hq0 : szk s.heap H1 ((2 * (p - i)) + 2 * (p3 - p)) ((16 * (p - i) - ms.length) + (16 * (p3 - p) - 1)) := (hq0.trans hz9).mono (Nat.le_refl _) (Nat.le_refl _)
            refine w_tight hq0 ?_
            obtain ⟨hP, hD⟩ := va_joinP (wr := []) (rx := [(jr, .inr (1, [.ref h0, .int dp3, .int md3, .ref lb3])), (h0, .inr (8, [.ref qb, .ref qu, .int uc3, .int ln, .int (nI n), .int (nI p3), .int pl])), (qb, .inl (cB, 4096, .inl bf)), (qu, .inl (cI, 4096, .inl ug3))]) (pl1 := va_pl (((L ++ N) ++ N3)) f3) hP hD [0, 1, 2, 3] [] rfl rfl (by decide) (by decide) hk1 hFc hP1 hD1
            generalize H1 = H at hP hS hq0 ⊢
            have hP : va_P (dC, dI) classes ([(jr, .inr (1, [.ref h0, .int dp3, .int md3, .ref lb3])), (h0, .inr (8, [.ref qb, .ref qu, .int uc3, .int ln, .int (nI n), .int (nI p3), .int pl])), (qb, .inl (cB, 4096, .inl bf)), (qu, .inl (cI, 4096, .inl ug3))] ++ va_pl (((L ++ N) ++ N3)) f3) H := hP
            have hD : va_D A ([(jr, .inr (1, [.ref h0, .int dp3, .int md3, .ref lb3])), (h0, .inr (8, [.ref qb, .ref qu, .int uc3, .int ln, .int (nI n), .int (nI p3), .int pl])), (qb, .inl (cB, 4096, .inl bf)), (qu, .inl (cI, 4096, .inl ug3))] ++ va_pl (((L ++ N) ++ N3)) f3) := hD
            obtain ⟨hw, xv, c3, hJF, hOB, hmd3⟩ := hw
            have hJF : JFx bf n (k - 1) d p p3 D9 dp3 xv := hJF
            obtain ⟨hjv, hdp3⟩ := hJF
            have hOB : OBJ E1 E3 (some lb) f3 v9 lb3 c3 (k - 1) xv := hOB
            have hmd3 : md3 = md0 + nI (ct + c3) := by rw [show md3 = md + nI c3 from hmd3, hmd, Int32.add_assoc]; exact congrArg (md0 + ·) (nI_add ct c3)
            rw [hD9] at hdp3
            have hJ : JP cI cV E1 lv (L ++ N) f1 (some lb) p n v9 p3 N3 E3 f3 lb3 := hw
            obtain ⟨hp3a, hp3b⟩ := hJ.num
            have hO3 := hJ.po
            have hx3 := hJ.ex
            obtain ⟨hv2, hv0, hvn⟩ := hJ.v2
            have hi3 : E3 it = 1 := by
              have q1 : E1 it ≠ 0 := by rw [hi1]; decide
              rw [hx3 it (by rw [hx2 it q1]; exact q1), hx2 it q1]
              exact hi1
            rw [List.append_assoc] at hP hD
            have hP : va_P (dC, dI) classes ([(jr, .inr (1, [.ref h0, .int dp3, .int md3, .ref lb3])), (h0, .inr (8, [.ref qb, .ref qu, .int uc3, .int ln, .int (nI n), .int (nI p3), .int pl])), (qb, .inl (cB, 4096, .inl bf)), (qu, .inl (cI, 4096, .inl ug3))] ++ va_pl ((L ++ (N ++ N3))) f3) H := hP
            have hD : va_D A ([(jr, .inr (1, [.ref h0, .int dp3, .int md3, .ref lb3])), (h0, .inr (8, [.ref qb, .ref qu, .int uc3, .int ln, .int (nI n), .int (nI p3), .int pl])), (qb, .inl (cB, 4096, .inl bf)), (qu, .inl (cI, 4096, .inl ug3))] ++ va_pl ((L ++ (N ++ N3))) f3) := hD
            obtain ⟨kv, nv, tv, mv, pv, av, iv, mv2, ov, sv, efv, hvv⟩ := hO3.val (a := v9) (Or.inr (Or.inl hv2))
            obtain rfl : mv2 = none := (nmF_v efv).symm.trans hvn
            have hvi : v9 ∈ L ++ (N ++ N3) := by rw [← List.append_assoc]; exact hO3.inL (by rw [hv2]; decide)
            refine lv_astore (lv' := [(9, .ref v9), (8, .null), (0, .ref jr), (1, .ref it), (2, .int (nI d)), (3, .null), (4, .null), (5, .int (nI ms.length)), (6, .int mo), (7, .int (nI ms.length))]) hx hb d_JsonReader_members_52 hl (by decide) rfl (fun ls hl => ?_)
            refine lv_aload hx hb d_JsonReader_members_54 (lv_at hl 0 rfl) ?_
            refine lv_aload_n hx hb d_JsonReader_members_56 rfl (lv_at hl 3 rfl) ?_
            refine vq_put (D := (dC, dI)) (ci := 9) (v := .ref it) (ty := .object "QueryBench$Value") (C := R_Value) (T := F_Value) (N := 10) hx hb hts in_Value t_Value t_Value_ok n_Value hown hK hP hD hS hvi efv rfl 4 (by decide) (hts _ z_330) (fun _ h9 => h9) rfl (by decide +kernel) rfl rfl (Nat.le_of_ble_eq_true rfl) d_JsonReader_members_57 (fun H locs hP hD hS => ?_)
            have hP : va_P (dC, dI) classes ([(jr, .inr (1, [.ref h0, .int dp3, .int md3, .ref lb3])), (h0, .inr (8, [.ref qb, .ref qu, .int uc3, .int ln, .int (nI n), .int (nI p3), .int pl])), (qb, .inl (cB, 4096, .inl bf)), (qu, .inl (cI, 4096, .inl ug3))] ++ va_pl ((L ++ (N ++ N3))) ((va_up f3 v9 (vE kv nv tv mv (some it) av iv none ov sv)))) H := hP
            have hD : va_D A ([(jr, .inr (1, [.ref h0, .int dp3, .int md3, .ref lb3])), (h0, .inr (8, [.ref qb, .ref qu, .int uc3, .int ln, .int (nI n), .int (nI p3), .int pl])), (qb, .inl (cB, 4096, .inl bf)), (qu, .inl (cI, 4096, .inl ug3))] ++ va_pl ((L ++ (N ++ N3))) ((va_up f3 v9 (vE kv nv tv mv (some it) av iv none ov sv)))) := hD
            refine lv_aload hx hb d_JsonReader_members_60 (lv_at hl 0 rfl) ?_
            refine lv_aloadN hx hb d_JsonReader_members_62 (lv_at hl 1 rfl) ?_
            refine vq_put (D := (dC, dI)) (ci := 9) (v := .null) (ty := .array .int) (C := R_Value) (T := F_Value) (N := 10) hx hb hts in_Value t_Value t_Value_ok n_Value hown hK hP hD hS hvi (va_up_self _ _ _) rfl 5 (by decide) (hts _ z_333) (fun _ h9 => h9) rfl (by decide +kernel) rfl rfl (Nat.le_of_ble_eq_true rfl) d_JsonReader_members_64 (fun H locs hP hD hS => ?_)
            rw [bx_uu] at hP hD
            have hP : va_P (dC, dI) classes ([(jr, .inr (1, [.ref h0, .int dp3, .int md3, .ref lb3])), (h0, .inr (8, [.ref qb, .ref qu, .int uc3, .int ln, .int (nI n), .int (nI p3), .int pl])), (qb, .inl (cB, 4096, .inl bf)), (qu, .inl (cI, 4096, .inl ug3))] ++ va_pl ((L ++ (N ++ N3))) ((va_up f3 v9 (vE kv nv tv mv (some it) none iv none ov sv)))) H := hP
            have hD : va_D A ([(jr, .inr (1, [.ref h0, .int dp3, .int md3, .ref lb3])), (h0, .inr (8, [.ref qb, .ref qu, .int uc3, .int ln, .int (nI n), .int (nI p3), .int pl])), (qb, .inl (cB, 4096, .inl bf)), (qu, .inl (cI, 4096, .inl ug3))] ++ va_pl ((L ++ (N ++ N3))) ((va_up f3 v9 (vE kv nv tv mv (some it) none iv none ov sv)))) := hD
            refine lv_aload hx hb d_JsonReader_members_67 (lv_at hl 0 rfl) ?_
            refine lv_iload hx hb d_JsonReader_members_69 (lv_at hl 7 rfl) ?_
            refine vq_put (D := (dC, dI)) (ci := 9) (v := .int (nI ms.length)) (ty := .int) (C := R_Value) (T := F_Value) (N := 10) hx hb hts in_Value t_Value t_Value_ok n_Value hown hK hP hD hS hvi (va_up_self _ _ _) rfl 6 (by decide) (hts _ z_335) (fun _ h9 => h9) rfl (by decide +kernel) rfl rfl (Nat.le_of_ble_eq_true rfl) d_JsonReader_members_71 (fun H locs hP hD hS => ?_)
            rw [bx_uu] at hP hD
            have hP : va_P (dC, dI) classes ([(jr, .inr (1, [.ref h0, .int dp3, .int md3, .ref lb3])), (h0, .inr (8, [.ref qb, .ref qu, .int uc3, .int ln, .int (nI n), .int (nI p3), .int pl])), (qb, .inl (cB, 4096, .inl bf)), (qu, .inl (cI, 4096, .inl ug3))] ++ va_pl ((L ++ (N ++ N3))) ((va_up f3 v9 (vE kv nv tv mv (some it) none (nI ms.length) none ov sv)))) H := hP
            have hD : va_D A ([(jr, .inr (1, [.ref h0, .int dp3, .int md3, .ref lb3])), (h0, .inr (8, [.ref qb, .ref qu, .int uc3, .int ln, .int (nI n), .int (nI p3), .int pl])), (qb, .inl (cB, 4096, .inl bf)), (qu, .inl (cI, 4096, .inl ug3))] ++ va_pl ((L ++ (N ++ N3))) ((va_up f3 v9 (vE kv nv tv mv (some it) none (nI ms.length) none ov sv)))) := hD
            refine lv_iinc (v := nI (ms.length + 1)) (lv' := [(5, .int (nI (ms.length + 1))), (9, .ref v9), (8, .null), (0, .ref jr), (1, .ref it), (2, .int (nI d)), (3, .null), (4, .null), (6, .int mo), (7, .int (nI ms.length))]) hx hb d_JsonReader_members_74 hl (k := 7) rfl (nI_1 _) (by decide) rfl (fun ls hl => ?_)
            refine lv_aloadN hx hb d_JsonReader_members_77 (lv_at hl 7 rfl) ?_
            refine lv_ifnonnullN hx hb d_JsonReader_members_79 ?_
            refine lv_aload hx hb d_JsonReader_members_82 (lv_at hl 1 rfl) ?_
            refine lv_astore_n (lv' := [(3, .ref v9), (5, .int (nI (ms.length + 1))), (9, .ref v9), (8, .null), (0, .ref jr), (1, .ref it), (2, .int (nI d)), (4, .null), (6, .int mo), (7, .int (nI ms.length))]) hx hb d_JsonReader_members_84 rfl hl (by decide) rfl (fun ls hl => ?_)
            refine lv_goto (tgt := 95) hx hb d_JsonReader_members_85 (by decide) ?_
            refine lv_aload hx hb d_JsonReader_members_95 (lv_at hl 2 rfl) ?_
            refine lv_astore (lv' := [(4, .ref v9), (3, .ref v9), (5, .int (nI (ms.length + 1))), (9, .ref v9), (8, .null), (0, .ref jr), (1, .ref it), (2, .int (nI d)), (6, .int mo), (7, .int (nI ms.length))]) hx hb d_JsonReader_members_97 hl (by decide) rfl (fun ls hl => ?_)
            refine lv_aload_n hx hb d_JsonReader_members_99 rfl (lv_at hl 5 rfl) ?_
            refine va_get (D := (dC, dI)) (ci := 1) (v := .ref h0) (C := R_JsonReader) (T := F_JsonReader) (N := 4) hx hb hts in_JsonReader hown hK hP 0 rfl rfl 0 (by decide) (hts _ w_80) (fun _ h9 => h9) rfl d_JsonReader_members_100 ?_
            refine lv_bipush (v := 44) hx hb d_JsonReader_members_103 (by decide) ?_
            have hPc := hP.sub (ws' := [(h0, .inr (8, [.ref qb, .ref qu, .int uc3, .int ln, .int (nI n), .int (nI p3), .int pl])), (qb, .inl (cB, 4096, .inl bf))]) [1, 2] rfl
            have hDc := hD.sub (ws' := [(h0, .inr (8, [.ref qb, .ref qu, .int uc3, .int ln, .int (nI n), .int (nI p3), .int pl])), (qb, .inl (cB, 4096, .inl bf))]) [1, 2] (by decide) rfl
            have hFc := va_free (wc := [(h0, .inr (8, [.ref qb, .ref qu, .int uc3, .int ln, .int (nI n), .int (nI p3), .int pl])), (qb, .inl (cB, 4096, .inl bf))]) hD hS hA [1, 2] rfl
            have hKc := hK.sub (tys' := [(cB, .byte)]) [0] rfl
            refine va_calli (va_runV (As := [.int 44]) (rest := []) ⟨hx, hb, hml, hown, hts⟩ (c_Tape_takeIf l dC dI cB h0 qb H (.ref qu) uc3 ln pl bf n p3 44 hn0 (by omega)) (cwV 1 hts (gt_V (own := R_JsonReader) (C := R_Tape) (i := 95) (y := y_Tape_takeIf) i_Tape_takeIf z_392 z_393 z_394 w_2) rfl rfl rfl (by decide +kernel) ⟨by show 1 + 1 ≤ 14 + 3 * k; omega, by show 8 + (2 + 11) + (20) ≤ 290 + 90 * k; omega⟩) ⟨mp_blind, va_recv hK hP (ci := 8) (q0 := 1) rfl rfl, fun U hU hW => ⟨rfl, hU, by rw [hU]; exact hPc, va_K.moved hW.alike hKc, hDc.weaken (fun _ _ _ _ => trivial)⟩⟩ rfl rfl hl.1 rfl (lv_room (Nat.le_of_ble_eq_true rfl)) d_JsonReader_members_105 ⟨by show ((2 * (p - i)) + 2 * (p3 - p)) + (0) ≤ 2 * (n - i) + 4; omega, by show ((16 * (p - i) - ms.length) + (16 * (p3 - p) - 1)) + (0) ≤ 16 * (n - i) + 40; omega⟩) hS (fun q _ h => hFc q h) hFc (fun r21 u21 t9 H1 locs ht hvm hw hB hz1 hk1 hS => ?_)
            obtain ⟨hP1, hK1, hD1⟩ := hB
            rw [ht] at hP1
            obtain ⟨hP, hD⟩ := va_joinQ (wr := [(jr, .inr (1, [.ref h0, .int dp3, .int md3, .ref lb3])), (qu, .inl (cI, 4096, .inl ug3))]) (w1 := [(h0, .inr (8, [.ref qb, .ref qu, .int uc3, .int ln, .int (nI n), .int (nI u21), .int pl])), (qb, .inl (cB, 4096, .inl bf))]) hP hD [1, 2] [0, 3] rfl rfl (by decide) (by decide) hk1 hFc hP1 hD1
            generalize H1 = H at hP hS ⊢
            have hP : va_P (dC, dI) classes ([(jr, .inr (1, [.ref h0, .int dp3, .int md3, .ref lb3])), (qu, .inl (cI, 4096, .inl ug3)), (h0, .inr (8, [.ref qb, .ref qu, .int uc3, .int ln, .int (nI n), .int (nI u21), .int pl])), (qb, .inl (cB, 4096, .inl bf))] ++ va_pl ((L ++ (N ++ N3))) ((va_up f3 v9 (vE kv nv tv mv (some it) none (nI ms.length) none ov sv)))) H := hP
            have hD : va_D A ([(jr, .inr (1, [.ref h0, .int dp3, .int md3, .ref lb3])), (qu, .inl (cI, 4096, .inl ug3)), (h0, .inr (8, [.ref qb, .ref qu, .int uc3, .int ln, .int (nI n), .int (nI u21), .int pl])), (qb, .inl (cB, 4096, .inl bf))] ++ va_pl ((L ++ (N ++ N3))) ((va_up f3 v9 (vE kv nv tv mv (some it) none (nI ms.length) none ov sv)))) := hD
            have hP := hP.part (cx := [(jr, .inr (1, [.ref h0, .int dp3, .int md3, .ref lb3])), (h0, .inr (8, [.ref qb, .ref qu, .int uc3, .int ln, .int (nI n), .int (nI u21), .int pl])), (qb, .inl (cB, 4096, .inl bf)), (qu, .inl (cI, 4096, .inl ug3))]) [0, 2, 3, 1] rfl
            have hD := hD.part (cx := [(jr, .inr (1, [.ref h0, .int dp3, .int md3, .ref lb3])), (h0, .inr (8, [.ref qb, .ref qu, .int uc3, .int ln, .int (nI n), .int (nI u21), .int pl])), (qb, .inl (cB, 4096, .inl bf)), (qu, .inl (cI, 4096, .inl ug3))]) [0, 2, 3, 1] (by decide) rfl
            rcases hw with ⟨ht21, hr21, hu21⟩ | ⟨ht21, hr21, hu21⟩
            · have hu21 : u21 = p3 + 1 := hu21
              subst hr21
              rw [hu21] at hP hD
              have hl21 := here_lc ht21 (by decide)
              have hP : va_P (dC, dI) classes ([(jr, .inr (1, [.ref h0, .int dp3, .int md3, .ref lb3])), (h0, .inr (8, [.ref qb, .ref qu, .int uc3, .int ln, .int (nI n), .int (nI (p3 + 1)), .int pl])), (qb, .inl (cB, 4096, .inl bf)), (qu, .inl (cI, 4096, .inl ug3))] ++ va_pl ((L ++ (N ++ N3))) ((va_up f3 v9 (vE kv nv tv mv (some it) none (nI ms.length) none ov sv)))) H := hP
              have hD : va_D A ([(jr, .inr (1, [.ref h0, .int dp3, .int md3, .ref lb3])), (h0, .inr (8, [.ref qb, .ref qu, .int uc3, .int ln, .int (nI n), .int (nI (p3 + 1)), .int pl])), (qb, .inl (cB, 4096, .inl bf)), (qu, .inl (cI, 4096, .inl ug3))] ++ va_pl ((L ++ (N ++ N3))) ((va_up f3 v9 (vE kv nv tv mv (some it) none (nI ms.length) none ov sv)))) := hD
              refine lv_istore (lv' := [(6, .int 1), (4, .ref v9), (3, .ref v9), (5, .int (nI (ms.length + 1))), (9, .ref v9), (8, .null), (0, .ref jr), (1, .ref it), (2, .int (nI d)), (7, .int (nI ms.length))]) hx hb d_JsonReader_members_108 hl (by decide) rfl (fun ls hl => ?_)
              refine lv_iinc (v := nI (ms.length + 1)) (lv' := [(7, .int (nI (ms.length + 1))), (6, .int 1), (4, .ref v9), (3, .ref v9), (5, .int (nI (ms.length + 1))), (9, .ref v9), (8, .null), (0, .ref jr), (1, .ref it), (2, .int (nI d))]) hx hb d_JsonReader_members_110 hl (k := 9) rfl (nI_1 _) (by decide) rfl (fun ls hl => ?_)
              refine lv_goto (tgt := 14) hx hb d_JsonReader_members_113 (by decide) ?_
              have hs4 : (2 = 2 ∧ ¬ kd = 6) ∨ (2 = 3 ∧ kd = 6) := Or.inl ⟨rfl, c33⟩
              obtain ⟨hE4, hO4⟩ := PO.mem1st (s := 2) (na' := none) (ix' := nI ms.length) hO3 hv2 efv (it := it) (Or.inl hi3) (fun b h => (nomatch h)) (Or.inl rfl)
              rw [List.append_assoc] at hO4
              have hLn := hLJ.next hit (by omega) hx2 hn2 hf2 hO2 hJ hs4 hE4 hO4 (fun a hav _ => va_up_ne _ _ hav) (nmF_v (va_up_self _ _ _)) (fun z hz => by rw [hmz] at hz; cases hz) (p4 := (p3 + 1)) (by omega) (by omega) (by omega)
              have hMn := hMI.next c24 hc4 hnm9 hjv hdp3 (v := v9) (f4 := (va_up f3 v9 (vE kv nv tv mv (some it) none (nI ms.length) none ov sv))) (fun h => absurd h c33) (p4 := (p3 + 1)) (mo4 := 1) (Or.inl ⟨rfl, ht21, rfl⟩)
              have hKn := KSd.next (X := []) hO1 hKS hLJ.ex hit hx2 hf2 hO3 hx3 hJ.2.2.2.2.2.1 hLJ.lbv (fun a ha => by obtain ⟨j9, hj9⟩ := List.getElem?_of_mem ha; exact ⟨(hLJ.chn j9 a hj9).2.1, (hLJ.chn j9 a hj9).2.2.1.1⟩) hOB (s := 2) (Or.inl rfl) (fun a hav _ => va_up_ne _ _ hav) ⟨kv, nv, tv, mv, pv, av, iv, none, ov, sv, some it, none, nI ms.length, efv, va_up_self _ _ _⟩ (fun z hz => by rw [hmz] at hz; cases hz) (fun h => absurd h c33) (UPf.v (nu := nv) (kd := kv) (show (va_up f3 v9 (vE kv nv tv mv (some it) none (nI ms.length) none ov sv)) v9 = vE kv nv tv mv (some it) none (nI ms.length) none ov sv from va_up_self _ _ _) (fun _ => rfl))
              have hlen : (ms ++ [v9]).length = ms.length + 1 := by rw [List.length_append]; rfl
              have hl0 : (ms ++ [v9])[0]? = some v9 := by rw [List.getElem?_append_right (by omega), show 0 - ms.length = 0 by omega]; rfl
              have hlz : (ms ++ [v9])[(ms ++ [v9]).length - 1]? = some v9 := by rw [hlen, Nat.add_sub_cancel, List.getElem?_append_right (Nat.le_refl _), Nat.sub_self]; rfl
              have hl : lv_has ls 10 [(7, .int (nI (ms ++ [v9]).length)), (6, .int 1), (4, va_rf ((ms ++ [v9])[(ms ++ [v9]).length - 1]?)), (3, va_rf ((ms ++ [v9])[0]?)), (5, .int (nI (ms ++ [v9]).length)), (9, .ref v9), (8, .null), (0, .ref jr), (1, .ref it), (2, .int (nI d))] := by rw [hl0, hlz, hlen]; exact hl
              refine w_same (fun hq => ?_)
              refine W.widen (k := 2 * (n - i) + 4) (n := 16 * (n - i) + 40) (by show ((2 * (p - i)) + 2 * (p3 - p)) ≤ 2 * (n - i) + 4; omega) (by show ((16 * (p - i) - ms.length) + (16 * (p3 - p) - 1)) ≤ 16 * (n - i) + 40; omega) ?_
              exact ih ((ms ++ [v9]), 1, (p3 + 1), N ++ N3, va_up E3 v9 2, (va_up f3 v9 (vE kv nv tv mv (some it) none (nI ms.length) none ov sv)), uc3, ug3, dp3, md3, lb3, acc ++ [([], xv)], ct + c3) _ _ _ ⟨hLn, hMn, hq.mono (by show ((2 * (p - i)) + 2 * (p3 - p)) ≤ 2 * ((p3 + 1) - i); omega) (by show ((16 * (p - i) - ms.length) + (16 * (p3 - p) - 1)) ≤ 16 * ((p3 + 1) - i) - (ms ++ [v9]).length; omega), hKn, hmd3⟩ (by show 4097 - (ms ++ [v9]).length < 4097 - ms.length; omega) hP hD hS (lv_sub hl [7, 8, 9, 3, 2, 4, 1, 0] rfl)
            · have hu21 : u21 = p3 := hu21
              subst hr21
              rw [hu21] at hP hD
              have hP : va_P (dC, dI) classes ([(jr, .inr (1, [.ref h0, .int dp3, .int md3, .ref lb3])), (h0, .inr (8, [.ref qb, .ref qu, .int uc3, .int ln, .int (nI n), .int (nI p3), .int pl])), (qb, .inl (cB, 4096, .inl bf)), (qu, .inl (cI, 4096, .inl ug3))] ++ va_pl ((L ++ (N ++ N3))) ((va_up f3 v9 (vE kv nv tv mv (some it) none (nI ms.length) none ov sv)))) H := hP
              have hD : va_D A ([(jr, .inr (1, [.ref h0, .int dp3, .int md3, .ref lb3])), (h0, .inr (8, [.ref qb, .ref qu, .int uc3, .int ln, .int (nI n), .int (nI p3), .int pl])), (qb, .inl (cB, 4096, .inl bf)), (qu, .inl (cI, 4096, .inl ug3))] ++ va_pl ((L ++ (N ++ N3))) ((va_up f3 v9 (vE kv nv tv mv (some it) none (nI ms.length) none ov sv)))) := hD
              refine lv_istore (lv' := [(6, .int 0), (4, .ref v9), (3, .ref v9), (5, .int (nI (ms.length + 1))), (9, .ref v9), (8, .null), (0, .ref jr), (1, .ref it), (2, .int (nI d)), (7, .int (nI ms.length))]) hx hb d_JsonReader_members_108 hl (by decide) rfl (fun ls hl => ?_)
              refine lv_iinc (v := nI (ms.length + 1)) (lv' := [(7, .int (nI (ms.length + 1))), (6, .int 0), (4, .ref v9), (3, .ref v9), (5, .int (nI (ms.length + 1))), (9, .ref v9), (8, .null), (0, .ref jr), (1, .ref it), (2, .int (nI d))]) hx hb d_JsonReader_members_110 hl (k := 9) rfl (nI_1 _) (by decide) rfl (fun ls hl => ?_)
              refine lv_goto (tgt := 14) hx hb d_JsonReader_members_113 (by decide) ?_
              have hs4 : (2 = 2 ∧ ¬ kd = 6) ∨ (2 = 3 ∧ kd = 6) := Or.inl ⟨rfl, c33⟩
              obtain ⟨hE4, hO4⟩ := PO.mem1st (s := 2) (na' := none) (ix' := nI ms.length) hO3 hv2 efv (it := it) (Or.inl hi3) (fun b h => (nomatch h)) (Or.inl rfl)
              rw [List.append_assoc] at hO4
              have hLn := hLJ.next hit (by omega) hx2 hn2 hf2 hO2 hJ hs4 hE4 hO4 (fun a hav _ => va_up_ne _ _ hav) (nmF_v (va_up_self _ _ _)) (fun z hz => by rw [hmz] at hz; cases hz) (p4 := p3) (by omega) (by omega) (by omega)
              have hMn := hMI.next c24 hc4 hnm9 hjv hdp3 (v := v9) (f4 := (va_up f3 v9 (vE kv nv tv mv (some it) none (nI ms.length) none ov sv))) (fun h => absurd h c33) (p4 := p3) (mo4 := 0) (Or.inr ⟨rfl, ht21, rfl⟩)
              have hKn := KSd.next (X := []) hO1 hKS hLJ.ex hit hx2 hf2 hO3 hx3 hJ.2.2.2.2.2.1 hLJ.lbv (fun a ha => by obtain ⟨j9, hj9⟩ := List.getElem?_of_mem ha; exact ⟨(hLJ.chn j9 a hj9).2.1, (hLJ.chn j9 a hj9).2.2.1.1⟩) hOB (s := 2) (Or.inl rfl) (fun a hav _ => va_up_ne _ _ hav) ⟨kv, nv, tv, mv, pv, av, iv, none, ov, sv, some it, none, nI ms.length, efv, va_up_self _ _ _⟩ (fun z hz => by rw [hmz] at hz; cases hz) (fun h => absurd h c33) (UPf.v (nu := nv) (kd := kv) (show (va_up f3 v9 (vE kv nv tv mv (some it) none (nI ms.length) none ov sv)) v9 = vE kv nv tv mv (some it) none (nI ms.length) none ov sv from va_up_self _ _ _) (fun _ => rfl))
              have hlen : (ms ++ [v9]).length = ms.length + 1 := by rw [List.length_append]; rfl
              have hl0 : (ms ++ [v9])[0]? = some v9 := by rw [List.getElem?_append_right (by omega), show 0 - ms.length = 0 by omega]; rfl
              have hlz : (ms ++ [v9])[(ms ++ [v9]).length - 1]? = some v9 := by rw [hlen, Nat.add_sub_cancel, List.getElem?_append_right (Nat.le_refl _), Nat.sub_self]; rfl
              have hl : lv_has ls 10 [(7, .int (nI (ms ++ [v9]).length)), (6, .int 0), (4, va_rf ((ms ++ [v9])[(ms ++ [v9]).length - 1]?)), (3, va_rf ((ms ++ [v9])[0]?)), (5, .int (nI (ms ++ [v9]).length)), (9, .ref v9), (8, .null), (0, .ref jr), (1, .ref it), (2, .int (nI d))] := by rw [hl0, hlz, hlen]; exact hl
              refine w_same (fun hq => ?_)
              refine W.widen (k := 2 * (n - i) + 4) (n := 16 * (n - i) + 40) (by show ((2 * (p - i)) + 2 * (p3 - p)) ≤ 2 * (n - i) + 4; omega) (by show ((16 * (p - i) - ms.length) + (16 * (p3 - p) - 1)) ≤ 16 * (n - i) + 40; omega) ?_
              exact ih ((ms ++ [v9]), 0, p3, N ++ N3, va_up E3 v9 2, (va_up f3 v9 (vE kv nv tv mv (some it) none (nI ms.length) none ov sv)), uc3, ug3, dp3, md3, lb3, acc ++ [([], xv)], ct + c3) _ _ _ ⟨hLn, hMn, hq.mono (by show ((2 * (p - i)) + 2 * (p3 - p)) ≤ 2 * (p3 - i); omega) (by show ((16 * (p - i) - ms.length) + (16 * (p3 - p) - 1)) ≤ 16 * (p3 - i) - (ms ++ [v9]).length; omega), hKn, hmd3⟩ (by show 4097 - (ms ++ [v9]).length < 4097 - ms.length; omega) hP hD hS (lv_sub hl [7, 8, 9, 3, 2, 4, 1, 0] rfl)
        · refine lv_aload_n hx hb d_JsonReader_members_36 rfl (lv_at hl 0 rfl) ?_
          refine lv_aload_nN hx hb d_JsonReader_members_37 rfl (lv_at hl 3 rfl) ?_
          have hPc := hP.part (cx := [(jr, .inr (1, [.ref h0, .int dp, .int md, .ref lb])), (h0, .inr (8, [.ref qb, .ref qu, .int uc, .int ln, .int (nI n), .int (nI p), .int pl])), (qb, .inl (cB, 4096, .inl bf)), (qu, .inl (cI, 4096, .inl ug))]) [0, 1, 2, 3] rfl
          have hDc := hD.part (cx := [(jr, .inr (1, [.ref h0, .int dp, .int md, .ref lb])), (h0, .inr (8, [.ref qb, .ref qu, .int uc, .int ln, .int (nI n), .int (nI p), .int pl])), (qb, .inl (cB, 4096, .inl bf)), (qu, .inl (cI, 4096, .inl ug))]) [0, 1, 2, 3] (by decide) rfl
          have hFc := va_freeP (cx := [(jr, .inr (1, [.ref h0, .int dp, .int md, .ref lb])), (h0, .inr (8, [.ref qb, .ref qu, .int uc, .int ln, .int (nI n), .int (nI p), .int pl])), (qb, .inl (cB, 4096, .inl bf)), (qu, .inl (cI, 4096, .inl ug))]) hD hS hA [0, 1, 2, 3] rfl
          have hKc := hK.sub (tys' := [(cB, .byte), (cI, .int), (cV, .object "QueryBench$Value")]) [0, 1, 2] rfl
          refine w_same (fun hq0 => ?_)
          refine vx_callr (vx_runV (As := [.null]) (rest := []) ⟨hx, hb, hml, hown, hts⟩ (c_JsonReader_newName l hl9 K dC dI H cI cV E1 lv (L ++ N) f1 hO1 cB h0 qb qu uc ln pl bf ug n p hn0 (by omega) jr dp md (some lb) none ms hm0.symm (fun j a h => ⟨(hLJ.chn j a h).1, (hLJ.chn j a h).2.1, (hLJ.chn j a h).2.2.1.2.2.1 c33, (hLJ.chn j a h).2.2.2⟩) (acc.map (·.1)) (hMI.2.2.2 c33)) (cwV 1 hts (gt_V (own := R_JsonReader) (C := R_JsonReader) (i := 119) (y := y_JsonReader_newName) i_JsonReader_newName z_401 z_403 (gt_sel (y := y_JsonReader_newName) (n := 4) (by decide +kernel)) w_3) rfl rfl rfl (by decide +kernel) ⟨by show 11 + 1 ≤ 14 + 3 * k; omega, by show 8 + (5 + 11) + (200) ≤ 290 + 90 * k; omega⟩) ⟨ml_blind, va_recv hK hP (ci := 1) (q0 := 0) rfl rfl, fun U hU hW => ⟨rfl, ⟨hU, by rw [hU]; exact hPc, va_K.moved hW.alike hKc, hDc.weaken (fun _ _ _ _ => trivial)⟩, hN.warm hW, by rw [hU]; exact ZX.moved' hW.alike (ZX.narrow' (ZX.kept' hZ hS.2.1) hFc), by rw [hU]; exact CE.call hC hS.2.1 hFc hW, va_AO.moved hW.alike hV⟩⟩ rfl rfl hl.1 rfl (lv_room (Nat.le_of_ble_eq_true rfl)) d_JsonReader_members_38 ⟨by show (2 * (p - i)) + (2) ≤ 2 * (n - i) + 4; omega, by show (16 * (p - i) - ms.length) + (12 + (n - p)) ≤ 16 * (n - i) + 40; omega⟩) hS (fun q _ h => hFc q h) hFc (fun q _ h => hFc q h) (fun En ce q9 ⟨ax, cx, px, gx⟩ t9 H1 locs ht hvm hw hB hz1 hk1 hS hce hcv hcl => ?_) (fun ⟨nr, p2, uc2, ug2, E2, f2⟩ nr0 t9 H1 locs ht hvm hw hB hz1 hk1 hS => ?_)
          · obtain ⟨hEn, hP1, hK1, hD1⟩ := hB
            rw [ht] at hP1
            obtain ⟨hP, hD⟩ := va_joinP (wr := []) (rx := [(jr, .inr (1, [.ref h0, .int dp, .int md, .ref lb])), (h0, .inr (8, [.ref qb, .ref qu, .int cx, .int ln, .int (nI n), .int ax, .int px])), (qb, .inl (cB, 4096, .inl bf)), (qu, .inl (cI, 4096, .inl gx))]) (pl1 := va_pl ((L ++ N)) f1) hP hD [0, 1, 2, 3] [] rfl rfl (by decide) (by decide) hk1 hFc hP1 hD1
            generalize H1 = H at hP hS hce ⊢
            have hP : va_P (dC, dI) classes ([(jr, .inr (1, [.ref h0, .int dp, .int md, .ref lb])), (h0, .inr (8, [.ref qb, .ref qu, .int cx, .int ln, .int (nI n), .int ax, .int px])), (qb, .inl (cB, 4096, .inl bf)), (qu, .inl (cI, 4096, .inl gx))] ++ va_pl ((L ++ N)) f1) H := hP
            have hD : va_D A ([(jr, .inr (1, [.ref h0, .int dp, .int md, .ref lb])), (h0, .inr (8, [.ref qb, .ref qu, .int cx, .int ln, .int (nI n), .int ax, .int px])), (qb, .inl (cB, 4096, .inl bf)), (qu, .inl (cI, 4096, .inl gx))] ++ va_pl ((L ++ N)) f1) := hD
            have hP := plP_pre hP
            have hD := plD_pre hD
            have hno := hMI.bad1 c24 hc4 (jNm_1 c33 (show jNam bf n (acc.map (·.1)) p = none from hw))
            exact vx_out (fun x hx => (hex x hx).elim) hlocks hce hcv hcl (fun t9 ht2 ha => ⟨(ax, cx, px, gx, dp, md, some lb, f1), ⟨hLJ.old, hno⟩, ⟨hEn, by rw [ht2]; exact hP, va_K.moved ha hK, hD⟩, hS.F ht2⟩) hS.2.2 (by show (2 * (p - i)) + (2) ≤ 2 * (n - i) + 4; omega) (by show (16 * (p - i) - ms.length) + (12 + (n - p)) ≤ 16 * (n - i) + 40; omega)
          · obtain ⟨⟨hP1, hK1, hD1⟩, hz9, ha9⟩ := hB
            rw [ht] at hP1
            rw [ht] at hz9
            have ha9 : nr0 = nr := ha9
            subst ha9
            have hq0 : szk s.heap H1 ((2 * (p - i)) + 1) ((16 * (p - i) - ms.length) + (p2 - p)) := (hq0.trans hz9).mono (Nat.le_refl _) (Nat.le_refl _)
            refine w_tight hq0 ?_
            obtain ⟨hP, hD⟩ := va_joinP (wr := []) (rx := [(jr, .inr (1, [.ref h0, .int dp, .int md, .ref lb])), (h0, .inr (8, [.ref qb, .ref qu, .int uc2, .int ln, .int (nI n), .int (nI p2), .int pl])), (qb, .inl (cB, 4096, .inl bf)), (qu, .inl (cI, 4096, .inl ug2))]) (pl1 := va_pl (((L ++ N) ++ [nr0])) f2) hP hD [0, 1, 2, 3] [] rfl rfl (by decide) (by decide) hk1 hFc hP1 hD1
            generalize H1 = H at hP hS hq0 ⊢
            have hP : va_P (dC, dI) classes ([(jr, .inr (1, [.ref h0, .int dp, .int md, .ref lb])), (h0, .inr (8, [.ref qb, .ref qu, .int uc2, .int ln, .int (nI n), .int (nI p2), .int pl])), (qb, .inl (cB, 4096, .inl bf)), (qu, .inl (cI, 4096, .inl ug2))] ++ va_pl (((L ++ N) ++ [nr0])) f2) H := hP
            have hD : va_D A ([(jr, .inr (1, [.ref h0, .int dp, .int md, .ref lb])), (h0, .inr (8, [.ref qb, .ref qu, .int uc2, .int ln, .int (nI n), .int (nI p2), .int pl])), (qb, .inl (cB, 4096, .inl bf)), (qu, .inl (cI, 4096, .inl ug2))] ++ va_pl (((L ++ N) ++ [nr0])) f2) := hD
            obtain ⟨hp2a, hp2b, hO2, hr0, hx2, hr4, hf2, hn2, hjn⟩ := hw
            have hnm9 := jNm_1 c33 (show jNam bf n (acc.map (·.1)) p = some (txL f2 nr0, p2) from hjn)
            have hp2a : p + 2 ≤ p2 := hp2a
            have hp2b : p2 ≤ n := hp2b
            have hr4 : E2 nr0 = 4 := hr4
            have hx2 : EX E1 E2 := hx2
            have hf2 : ∀ a, E1 a ≠ 0 → f2 a = f1 a := hf2
            have hn2 : ∀ a, E1 a = 0 → E2 a ≠ 1 := hn2
            have hO2 : PO cI cV E2 lv ((L ++ N) ++ [nr0]) f2 := hO2
            rw [List.append_assoc] at hP hD hO2
            have hP : va_P (dC, dI) classes ([(jr, .inr (1, [.ref h0, .int dp, .int md, .ref lb])), (h0, .inr (8, [.ref qb, .ref qu, .int uc2, .int ln, .int (nI n), .int (nI p2), .int pl])), (qb, .inl (cB, 4096, .inl bf)), (qu, .inl (cI, 4096, .inl ug2))] ++ va_pl ((L ++ (N ++ [nr0]))) f2) H := hP
            have hD : va_D A ([(jr, .inr (1, [.ref h0, .int dp, .int md, .ref lb])), (h0, .inr (8, [.ref qb, .ref qu, .int uc2, .int ln, .int (nI n), .int (nI p2), .int pl])), (qb, .inl (cB, 4096, .inl bf)), (qu, .inl (cI, 4096, .inl ug2))] ++ va_pl ((L ++ (N ++ [nr0]))) f2) := hD
            refine lv_goto (tgt := 45) hx hb d_JsonReader_members_41 (by decide) ?_
            refine lv_astore (lv' := [(8, .ref nr0), (0, .ref jr), (1, .ref it), (2, .int (nI d)), (3, .null), (4, .null), (5, .int (nI ms.length)), (6, .int mo), (7, .int (nI ms.length))]) hx hb d_JsonReader_members_45 hl (by decide) rfl (fun ls hl => ?_)
            refine lv_aload_n hx hb d_JsonReader_members_47 rfl (lv_at hl 1 rfl) ?_
            refine lv_iload_n hx hb d_JsonReader_members_48 rfl (lv_at hl 3 rfl) ?_
            obtain ⟨D9, hD9⟩ : ∃ z, z = max D (d + dpK (dpJ (k - 1)) acc) := ⟨_, rfl⟩
            have hdp9 : dp = nI D9 := by rw [hD9]; exact hMI.2.2.1
            have hdq9 := dpK_le (dpJ_le (k - 1)) acc
            have hlbv : oR (isV E2) (some lb) := fun b h => by cases h; exact hx2.el.v hLJ.lbv
            have hPc := hP.part (cx := [(jr, .inr (1, [.ref h0, .int dp, .int md, .ref lb])), (h0, .inr (8, [.ref qb, .ref qu, .int uc2, .int ln, .int (nI n), .int (nI p2), .int pl])), (qb, .inl (cB, 4096, .inl bf)), (qu, .inl (cI, 4096, .inl ug2))]) [0, 1, 2, 3] rfl
            have hDc := hD.part (cx := [(jr, .inr (1, [.ref h0, .int dp, .int md, .ref lb])), (h0, .inr (8, [.ref qb, .ref qu, .int uc2, .int ln, .int (nI n), .int (nI p2), .int pl])), (qb, .inl (cB, 4096, .inl bf)), (qu, .inl (cI, 4096, .inl ug2))]) [0, 1, 2, 3] (by decide) rfl
            have hFc := va_freeP (cx := [(jr, .inr (1, [.ref h0, .int dp, .int md, .ref lb])), (h0, .inr (8, [.ref qb, .ref qu, .int uc2, .int ln, .int (nI n), .int (nI p2), .int pl])), (qb, .inl (cB, 4096, .inl bf)), (qu, .inl (cI, 4096, .inl ug2))]) hD hS hA [0, 1, 2, 3] rfl
            have hKc := hK.sub (tys' := [(cB, .byte), (cI, .int), (cV, .object "QueryBench$Value")]) [0, 1, 2] rfl
            refine w_same (fun hq0 => ?_)
            refine vx_callr (vx_runV (As := [.int (nI d)]) (rest := []) ⟨hx, hb, hml, hown, hts⟩ (HV hk9 H E2 (L ++ (N ++ [nr0])) f2 p2 uc2 pl ug2 dp md (some lb) D9 hO2 hlbv (by omega) hdp9 (by omega) (by omega)) (cwV 1 hts (gt_V (own := R_JsonReader) (C := R_JsonReader) (i := 26) (y := y_JsonReader_value) i_JsonReader_value z_294 z_296 (gt_sel (y := y_JsonReader_value) (n := 4) (by decide +kernel)) w_3) rfl rfl rfl (by decide +kernel) ⟨by show 16 + 3 * (k - 1) + 1 ≤ 14 + 3 * k; omega, by show 8 + (4 + 11) + (350 + 90 * (k - 1)) ≤ 290 + 90 * k; omega⟩) ⟨ml_blind, va_recv hK hP (ci := 1) (q0 := 0) rfl rfl, fun U hU hW => ⟨rfl, ⟨hU, by rw [hU]; exact hPc, va_K.moved hW.alike hKc, hDc.weaken (fun _ _ _ _ => trivial)⟩, hN.warm hW, by rw [hU]; exact ZX.moved' hW.alike (ZX.narrow' (ZX.kept' hZ hS.2.1) hFc), by rw [hU]; exact CE.call hC hS.2.1 hFc hW, va_AO.moved hW.alike hV⟩⟩ rfl rfl hl.1 rfl (lv_room (Nat.le_of_ble_eq_true rfl)) d_JsonReader_members_49 ⟨by show ((2 * (p - i)) + 1) + (2 * (n - p2) + 4) ≤ 2 * (n - i) + 4; omega, by show ((16 * (p - i) - ms.length) + (p2 - p)) + (16 * (n - p2) + 40) ≤ 16 * (n - i) + 40; omega⟩) hS (fun q _ h => hFc q h) hFc (fun q _ h => hFc q h) (fun En ce q9 ⟨ax, cx, px, gx, dx, mx, lx, fx⟩ t9 H1 locs ht hvm hw hB hz1 hk1 hS hce hcv hcl => ?_) (fun ⟨v3, p3, N3, E3, f3, uc3, ug3, dp3, md3, lb3⟩ v9 t9 H1 locs ht hvm hw hB hz1 hk1 hS => ?_)
            · obtain ⟨hEn, hP1, hK1, hD1⟩ := hB
              rw [ht] at hP1
              obtain ⟨hP, hD⟩ := va_joinP (wr := []) (rx := [(jr, .inr (1, [.ref h0, .int dx, .int mx, va_rf lx])), (h0, .inr (8, [.ref qb, .ref qu, .int cx, .int ln, .int (nI n), .int ax, .int px])), (qb, .inl (cB, 4096, .inl bf)), (qu, .inl (cI, 4096, .inl gx))]) (pl1 := va_pl ((L ++ (N ++ [nr0]))) fx) hP hD [0, 1, 2, 3] [] rfl rfl (by decide) (by decide) hk1 hFc hP1 hD1
              generalize H1 = H at hP hS hce ⊢
              have hP : va_P (dC, dI) classes ([(jr, .inr (1, [.ref h0, .int dx, .int mx, va_rf lx])), (h0, .inr (8, [.ref qb, .ref qu, .int cx, .int ln, .int (nI n), .int ax, .int px])), (qb, .inl (cB, 4096, .inl bf)), (qu, .inl (cI, 4096, .inl gx))] ++ va_pl ((L ++ (N ++ [nr0]))) fx) H := hP
              have hD : va_D A ([(jr, .inr (1, [.ref h0, .int dx, .int mx, va_rf lx])), (h0, .inr (8, [.ref qb, .ref qu, .int cx, .int ln, .int (nI n), .int ax, .int px])), (qb, .inl (cB, 4096, .inl bf)), (qu, .inl (cI, 4096, .inl gx))] ++ va_pl ((L ++ (N ++ [nr0]))) fx) := hD
              have hP := plP_pre hP
              have hD := plD_pre hD
              have hkx := hLJ.thr hx2 hf2 (show ∀ a, E2 a ≠ 0 → some lb ≠ some a → fx a = f2 a from hw.1)
              have hno := hMI.bad2 c24 hc4 hnm9 (show jV bf n (k - 1) p2 = none from hw.2)
              exact vx_out (fun x hx => (hex x hx).elim) hlocks hce hcv hcl (fun t9 ht2 ha => ⟨(ax, cx, px, gx, dx, mx, lx, fx), ⟨hkx, hno⟩, ⟨hEn, by rw [ht2]; exact hP, va_K.moved ha hK, hD⟩, hS.F ht2⟩) hS.2.2 (by show ((2 * (p - i)) + 1) + (2 * (n - p2) + 4) ≤ 2 * (n - i) + 4; omega) (by show ((16 * (p - i) - ms.length) + (p2 - p)) + (16 * (n - p2) + 40) ≤ 16 * (n - i) + 40; omega)
            · obtain ⟨⟨hP1, hK1, hD1⟩, hz9, ha9⟩ := hB
              rw [ht] at hP1
              rw [ht] at hz9
              have ha9 : v9 = v3 := ha9
              subst ha9
              have hq0 : szk s.heap H1 (((2 * (p - i)) + 1) + 2 * (p3 - p2)) (((16 * (p - i) - ms.length) + (p2 - p)) + (16 * (p3 - p2) - 1)) := (hq0.trans hz9).mono (Nat.le_refl _) (Nat.le_refl _)
              refine w_tight hq0 ?_
              obtain ⟨hP, hD⟩ := va_joinP (wr := []) (rx := [(jr, .inr (1, [.ref h0, .int dp3, .int md3, .ref lb3])), (h0, .inr (8, [.ref qb, .ref qu, .int uc3, .int ln, .int (nI n), .int (nI p3), .int pl])), (qb, .inl (cB, 4096, .inl bf)), (qu, .inl (cI, 4096, .inl ug3))]) (pl1 := va_pl (((L ++ (N ++ [nr0])) ++ N3)) f3) hP hD [0, 1, 2, 3] [] rfl rfl (by decide) (by decide) hk1 hFc hP1 hD1
              generalize H1 = H at hP hS hq0 ⊢
              have hP : va_P (dC, dI) classes ([(jr, .inr (1, [.ref h0, .int dp3, .int md3, .ref lb3])), (h0, .inr (8, [.ref qb, .ref qu, .int uc3, .int ln, .int (nI n), .int (nI p3), .int pl])), (qb, .inl (cB, 4096, .inl bf)), (qu, .inl (cI, 4096, .inl ug3))] ++ va_pl (((L ++ (N ++ [nr0])) ++ N3)) f3) H := hP
              have hD : va_D A ([(jr, .inr (1, [.ref h0, .int dp3, .int md3, .ref lb3])), (h0, .inr (8, [.ref qb, .ref qu, .int uc3, .int ln, .int (nI n), .int (nI p3), .int pl])), (qb, .inl (cB, 4096, .inl bf)), (qu, .inl (cI, 4096, .inl ug3))] ++ va_pl (((L ++ (N ++ [nr0])) ++ N3)) f3) := hD
              obtain ⟨hw, xv, c3, hJF, hOB, hmd3⟩ := hw
              have hJF : JFx bf n (k - 1) d p2 p3 D9 dp3 xv := hJF
              obtain ⟨hjv, hdp3⟩ := hJF
              have hOB : OBJ E2 E3 (some lb) f3 v9 lb3 c3 (k - 1) xv := hOB
              have hmd3 : md3 = md0 + nI (ct + c3) := by rw [show md3 = md + nI c3 from hmd3, hmd, Int32.add_assoc]; exact congrArg (md0 + ·) (nI_add ct c3)
              rw [hD9] at hdp3
              have hJ : JP cI cV E2 lv (L ++ (N ++ [nr0])) f2 (some lb) p2 n v9 p3 N3 E3 f3 lb3 := hw
              obtain ⟨hp3a, hp3b⟩ := hJ.num
              have hO3 := hJ.po
              have hx3 := hJ.ex
              obtain ⟨hv2, hv0, hvn⟩ := hJ.v2
              have hi3 : E3 it = 1 := by
                have q1 : E1 it ≠ 0 := by rw [hi1]; decide
                rw [hx3 it (by rw [hx2 it q1]; exact q1), hx2 it q1]
                exact hi1
              rw [List.append_assoc] at hP hD
              have hP : va_P (dC, dI) classes ([(jr, .inr (1, [.ref h0, .int dp3, .int md3, .ref lb3])), (h0, .inr (8, [.ref qb, .ref qu, .int uc3, .int ln, .int (nI n), .int (nI p3), .int pl])), (qb, .inl (cB, 4096, .inl bf)), (qu, .inl (cI, 4096, .inl ug3))] ++ va_pl ((L ++ ((N ++ [nr0]) ++ N3))) f3) H := hP
              have hD : va_D A ([(jr, .inr (1, [.ref h0, .int dp3, .int md3, .ref lb3])), (h0, .inr (8, [.ref qb, .ref qu, .int uc3, .int ln, .int (nI n), .int (nI p3), .int pl])), (qb, .inl (cB, 4096, .inl bf)), (qu, .inl (cI, 4096, .inl ug3))] ++ va_pl ((L ++ ((N ++ [nr0]) ++ N3))) f3) := hD
              obtain ⟨kv, nv, tv, mv, pv, av, iv, mv2, ov, sv, efv, hvv⟩ := hO3.val (a := v9) (Or.inr (Or.inl hv2))
              obtain rfl : mv2 = none := (nmF_v efv).symm.trans hvn
              have hvi : v9 ∈ L ++ ((N ++ [nr0]) ++ N3) := by rw [← List.append_assoc]; exact hO3.inL (by rw [hv2]; decide)
              refine lv_astore (lv' := [(9, .ref v9), (8, .ref nr0), (0, .ref jr), (1, .ref it), (2, .int (nI d)), (3, .null), (4, .null), (5, .int (nI ms.length)), (6, .int mo), (7, .int (nI ms.length))]) hx hb d_JsonReader_members_52 hl (by decide) rfl (fun ls hl => ?_)
              refine lv_aload hx hb d_JsonReader_members_54 (lv_at hl 0 rfl) ?_
              refine lv_aload_n hx hb d_JsonReader_members_56 rfl (lv_at hl 3 rfl) ?_
              refine vq_put (D := (dC, dI)) (ci := 9) (v := .ref it) (ty := .object "QueryBench$Value") (C := R_Value) (T := F_Value) (N := 10) hx hb hts in_Value t_Value t_Value_ok n_Value hown hK hP hD hS hvi efv rfl 4 (by decide) (hts _ z_330) (fun _ h9 => h9) rfl (by decide +kernel) rfl rfl (Nat.le_of_ble_eq_true rfl) d_JsonReader_members_57 (fun H locs hP hD hS => ?_)
              have hP : va_P (dC, dI) classes ([(jr, .inr (1, [.ref h0, .int dp3, .int md3, .ref lb3])), (h0, .inr (8, [.ref qb, .ref qu, .int uc3, .int ln, .int (nI n), .int (nI p3), .int pl])), (qb, .inl (cB, 4096, .inl bf)), (qu, .inl (cI, 4096, .inl ug3))] ++ va_pl ((L ++ ((N ++ [nr0]) ++ N3))) ((va_up f3 v9 (vE kv nv tv mv (some it) av iv none ov sv)))) H := hP
              have hD : va_D A ([(jr, .inr (1, [.ref h0, .int dp3, .int md3, .ref lb3])), (h0, .inr (8, [.ref qb, .ref qu, .int uc3, .int ln, .int (nI n), .int (nI p3), .int pl])), (qb, .inl (cB, 4096, .inl bf)), (qu, .inl (cI, 4096, .inl ug3))] ++ va_pl ((L ++ ((N ++ [nr0]) ++ N3))) ((va_up f3 v9 (vE kv nv tv mv (some it) av iv none ov sv)))) := hD
              refine lv_aload hx hb d_JsonReader_members_60 (lv_at hl 0 rfl) ?_
              refine lv_aload hx hb d_JsonReader_members_62 (lv_at hl 1 rfl) ?_
              refine vq_put (D := (dC, dI)) (ci := 9) (v := .ref nr0) (ty := .array .int) (C := R_Value) (T := F_Value) (N := 10) hx hb hts in_Value t_Value t_Value_ok n_Value hown hK hP hD hS hvi (va_up_self _ _ _) rfl 5 (by decide) (hts _ z_333) (fun _ h9 => h9) rfl (by decide +kernel) rfl rfl (Nat.le_of_ble_eq_true rfl) d_JsonReader_members_64 (fun H locs hP hD hS => ?_)
              rw [bx_uu] at hP hD
              have hP : va_P (dC, dI) classes ([(jr, .inr (1, [.ref h0, .int dp3, .int md3, .ref lb3])), (h0, .inr (8, [.ref qb, .ref qu, .int uc3, .int ln, .int (nI n), .int (nI p3), .int pl])), (qb, .inl (cB, 4096, .inl bf)), (qu, .inl (cI, 4096, .inl ug3))] ++ va_pl ((L ++ ((N ++ [nr0]) ++ N3))) ((va_up f3 v9 (vE kv nv tv mv (some it) (some nr0) iv none ov sv)))) H := hP
              have hD : va_D A ([(jr, .inr (1, [.ref h0, .int dp3, .int md3, .ref lb3])), (h0, .inr (8, [.ref qb, .ref qu, .int uc3, .int ln, .int (nI n), .int (nI p3), .int pl])), (qb, .inl (cB, 4096, .inl bf)), (qu, .inl (cI, 4096, .inl ug3))] ++ va_pl ((L ++ ((N ++ [nr0]) ++ N3))) ((va_up f3 v9 (vE kv nv tv mv (some it) (some nr0) iv none ov sv)))) := hD
              refine lv_aload hx hb d_JsonReader_members_67 (lv_at hl 0 rfl) ?_
              refine lv_iload hx hb d_JsonReader_members_69 (lv_at hl 7 rfl) ?_
              refine vq_put (D := (dC, dI)) (ci := 9) (v := .int (nI ms.length)) (ty := .int) (C := R_Value) (T := F_Value) (N := 10) hx hb hts in_Value t_Value t_Value_ok n_Value hown hK hP hD hS hvi (va_up_self _ _ _) rfl 6 (by decide) (hts _ z_335) (fun _ h9 => h9) rfl (by decide +kernel) rfl rfl (Nat.le_of_ble_eq_true rfl) d_JsonReader_members_71 (fun H locs hP hD hS => ?_)
              rw [bx_uu] at hP hD
              have hP : va_P (dC, dI) classes ([(jr, .inr (1, [.ref h0, .int dp3, .int md3, .ref lb3])), (h0, .inr (8, [.ref qb, .ref qu, .int uc3, .int ln, .int (nI n), .int (nI p3), .int pl])), (qb, .inl (cB, 4096, .inl bf)), (qu, .inl (cI, 4096, .inl ug3))] ++ va_pl ((L ++ ((N ++ [nr0]) ++ N3))) ((va_up f3 v9 (vE kv nv tv mv (some it) (some nr0) (nI ms.length) none ov sv)))) H := hP
              have hD : va_D A ([(jr, .inr (1, [.ref h0, .int dp3, .int md3, .ref lb3])), (h0, .inr (8, [.ref qb, .ref qu, .int uc3, .int ln, .int (nI n), .int (nI p3), .int pl])), (qb, .inl (cB, 4096, .inl bf)), (qu, .inl (cI, 4096, .inl ug3))] ++ va_pl ((L ++ ((N ++ [nr0]) ++ N3))) ((va_up f3 v9 (vE kv nv tv mv (some it) (some nr0) (nI ms.length) none ov sv)))) := hD
              refine lv_iinc (v := nI (ms.length + 1)) (lv' := [(5, .int (nI (ms.length + 1))), (9, .ref v9), (8, .ref nr0), (0, .ref jr), (1, .ref it), (2, .int (nI d)), (3, .null), (4, .null), (6, .int mo), (7, .int (nI ms.length))]) hx hb d_JsonReader_members_74 hl (k := 7) rfl (nI_1 _) (by decide) rfl (fun ls hl => ?_)
              refine lv_aloadN hx hb d_JsonReader_members_77 (lv_at hl 7 rfl) ?_
              refine lv_ifnonnullN hx hb d_JsonReader_members_79 ?_
              refine lv_aload hx hb d_JsonReader_members_82 (lv_at hl 1 rfl) ?_
              refine lv_astore_n (lv' := [(3, .ref v9), (5, .int (nI (ms.length + 1))), (9, .ref v9), (8, .ref nr0), (0, .ref jr), (1, .ref it), (2, .int (nI d)), (4, .null), (6, .int mo), (7, .int (nI ms.length))]) hx hb d_JsonReader_members_84 rfl hl (by decide) rfl (fun ls hl => ?_)
              refine lv_goto (tgt := 95) hx hb d_JsonReader_members_85 (by decide) ?_
              refine lv_aload hx hb d_JsonReader_members_95 (lv_at hl 2 rfl) ?_
              refine lv_astore (lv' := [(4, .ref v9), (3, .ref v9), (5, .int (nI (ms.length + 1))), (9, .ref v9), (8, .ref nr0), (0, .ref jr), (1, .ref it), (2, .int (nI d)), (6, .int mo), (7, .int (nI ms.length))]) hx hb d_JsonReader_members_97 hl (by decide) rfl (fun ls hl => ?_)
              refine lv_aload_n hx hb d_JsonReader_members_99 rfl (lv_at hl 5 rfl) ?_
              refine va_get (D := (dC, dI)) (ci := 1) (v := .ref h0) (C := R_JsonReader) (T := F_JsonReader) (N := 4) hx hb hts in_JsonReader hown hK hP 0 rfl rfl 0 (by decide) (hts _ w_80) (fun _ h9 => h9) rfl d_JsonReader_members_100 ?_
              refine lv_bipush (v := 44) hx hb d_JsonReader_members_103 (by decide) ?_
              have hPc := hP.sub (ws' := [(h0, .inr (8, [.ref qb, .ref qu, .int uc3, .int ln, .int (nI n), .int (nI p3), .int pl])), (qb, .inl (cB, 4096, .inl bf))]) [1, 2] rfl
              have hDc := hD.sub (ws' := [(h0, .inr (8, [.ref qb, .ref qu, .int uc3, .int ln, .int (nI n), .int (nI p3), .int pl])), (qb, .inl (cB, 4096, .inl bf))]) [1, 2] (by decide) rfl
              have hFc := va_free (wc := [(h0, .inr (8, [.ref qb, .ref qu, .int uc3, .int ln, .int (nI n), .int (nI p3), .int pl])), (qb, .inl (cB, 4096, .inl bf))]) hD hS hA [1, 2] rfl
              have hKc := hK.sub (tys' := [(cB, .byte)]) [0] rfl
              refine va_calli (va_runV (As := [.int 44]) (rest := []) ⟨hx, hb, hml, hown, hts⟩ (c_Tape_takeIf l dC dI cB h0 qb H (.ref qu) uc3 ln pl bf n p3 44 hn0 (by omega)) (cwV 1 hts (gt_V (own := R_JsonReader) (C := R_Tape) (i := 95) (y := y_Tape_takeIf) i_Tape_takeIf z_392 z_393 z_394 w_2) rfl rfl rfl (by decide +kernel) ⟨by show 1 + 1 ≤ 14 + 3 * k; omega, by show 8 + (2 + 11) + (20) ≤ 290 + 90 * k; omega⟩) ⟨mp_blind, va_recv hK hP (ci := 8) (q0 := 1) rfl rfl, fun U hU hW => ⟨rfl, hU, by rw [hU]; exact hPc, va_K.moved hW.alike hKc, hDc.weaken (fun _ _ _ _ => trivial)⟩⟩ rfl rfl hl.1 rfl (lv_room (Nat.le_of_ble_eq_true rfl)) d_JsonReader_members_105 ⟨by show (((2 * (p - i)) + 1) + 2 * (p3 - p2)) + (0) ≤ 2 * (n - i) + 4; omega, by show (((16 * (p - i) - ms.length) + (p2 - p)) + (16 * (p3 - p2) - 1)) + (0) ≤ 16 * (n - i) + 40; omega⟩) hS (fun q _ h => hFc q h) hFc (fun r22 u22 t9 H1 locs ht hvm hw hB hz1 hk1 hS => ?_)
              obtain ⟨hP1, hK1, hD1⟩ := hB
              rw [ht] at hP1
              obtain ⟨hP, hD⟩ := va_joinQ (wr := [(jr, .inr (1, [.ref h0, .int dp3, .int md3, .ref lb3])), (qu, .inl (cI, 4096, .inl ug3))]) (w1 := [(h0, .inr (8, [.ref qb, .ref qu, .int uc3, .int ln, .int (nI n), .int (nI u22), .int pl])), (qb, .inl (cB, 4096, .inl bf))]) hP hD [1, 2] [0, 3] rfl rfl (by decide) (by decide) hk1 hFc hP1 hD1
              generalize H1 = H at hP hS ⊢
              have hP : va_P (dC, dI) classes ([(jr, .inr (1, [.ref h0, .int dp3, .int md3, .ref lb3])), (qu, .inl (cI, 4096, .inl ug3)), (h0, .inr (8, [.ref qb, .ref qu, .int uc3, .int ln, .int (nI n), .int (nI u22), .int pl])), (qb, .inl (cB, 4096, .inl bf))] ++ va_pl ((L ++ ((N ++ [nr0]) ++ N3))) ((va_up f3 v9 (vE kv nv tv mv (some it) (some nr0) (nI ms.length) none ov sv)))) H := hP
              have hD : va_D A ([(jr, .inr (1, [.ref h0, .int dp3, .int md3, .ref lb3])), (qu, .inl (cI, 4096, .inl ug3)), (h0, .inr (8, [.ref qb, .ref qu, .int uc3, .int ln, .int (nI n), .int (nI u22), .int pl])), (qb, .inl (cB, 4096, .inl bf))] ++ va_pl ((L ++ ((N ++ [nr0]) ++ N3))) ((va_up f3 v9 (vE kv nv tv mv (some it) (some nr0) (nI ms.length) none ov sv)))) := hD
              have hP := hP.part (cx := [(jr, .inr (1, [.ref h0, .int dp3, .int md3, .ref lb3])), (h0, .inr (8, [.ref qb, .ref qu, .int uc3, .int ln, .int (nI n), .int (nI u22), .int pl])), (qb, .inl (cB, 4096, .inl bf)), (qu, .inl (cI, 4096, .inl ug3))]) [0, 2, 3, 1] rfl
              have hD := hD.part (cx := [(jr, .inr (1, [.ref h0, .int dp3, .int md3, .ref lb3])), (h0, .inr (8, [.ref qb, .ref qu, .int uc3, .int ln, .int (nI n), .int (nI u22), .int pl])), (qb, .inl (cB, 4096, .inl bf)), (qu, .inl (cI, 4096, .inl ug3))]) [0, 2, 3, 1] (by decide) rfl
              rcases hw with ⟨ht22, hr22, hu22⟩ | ⟨ht22, hr22, hu22⟩
              · have hu22 : u22 = p3 + 1 := hu22
                subst hr22
                rw [hu22] at hP hD
                have hl22 := here_lc ht22 (by decide)
                have hP : va_P (dC, dI) classes ([(jr, .inr (1, [.ref h0, .int dp3, .int md3, .ref lb3])), (h0, .inr (8, [.ref qb, .ref qu, .int uc3, .int ln, .int (nI n), .int (nI (p3 + 1)), .int pl])), (qb, .inl (cB, 4096, .inl bf)), (qu, .inl (cI, 4096, .inl ug3))] ++ va_pl ((L ++ ((N ++ [nr0]) ++ N3))) ((va_up f3 v9 (vE kv nv tv mv (some it) (some nr0) (nI ms.length) none ov sv)))) H := hP
                have hD : va_D A ([(jr, .inr (1, [.ref h0, .int dp3, .int md3, .ref lb3])), (h0, .inr (8, [.ref qb, .ref qu, .int uc3, .int ln, .int (nI n), .int (nI (p3 + 1)), .int pl])), (qb, .inl (cB, 4096, .inl bf)), (qu, .inl (cI, 4096, .inl ug3))] ++ va_pl ((L ++ ((N ++ [nr0]) ++ N3))) ((va_up f3 v9 (vE kv nv tv mv (some it) (some nr0) (nI ms.length) none ov sv)))) := hD
                refine lv_istore (lv' := [(6, .int 1), (4, .ref v9), (3, .ref v9), (5, .int (nI (ms.length + 1))), (9, .ref v9), (8, .ref nr0), (0, .ref jr), (1, .ref it), (2, .int (nI d)), (7, .int (nI ms.length))]) hx hb d_JsonReader_members_108 hl (by decide) rfl (fun ls hl => ?_)
                refine lv_iinc (v := nI (ms.length + 1)) (lv' := [(7, .int (nI (ms.length + 1))), (6, .int 1), (4, .ref v9), (3, .ref v9), (5, .int (nI (ms.length + 1))), (9, .ref v9), (8, .ref nr0), (0, .ref jr), (1, .ref it), (2, .int (nI d))]) hx hb d_JsonReader_members_110 hl (k := 9) rfl (nI_1 _) (by decide) rfl (fun ls hl => ?_)
                refine lv_goto (tgt := 14) hx hb d_JsonReader_members_113 (by decide) ?_
                have hs4 : (3 = 2 ∧ ¬ kd = 6) ∨ (3 = 3 ∧ kd = 6) := Or.inr ⟨rfl, c33⟩
                obtain ⟨hE4, hO4⟩ := PO.mem1st (s := 3) (na' := (some nr0)) (ix' := nI ms.length) hO3 hv2 efv (it := it) (Or.inl hi3) (fun b h => by cases h; exact (hJ.ex nr0 (by rw [hr4]; decide)).trans hr4) (Or.inr ⟨rfl, fun h => by cases h⟩)
                rw [List.append_assoc] at hO4
                have hLn := hLJ.next hit (by omega) hx2 hn2 hf2 hO2 hJ hs4 hE4 hO4 (fun a hav _ => va_up_ne _ _ hav) (nmF_v (va_up_self _ _ _)) (fun z hz => by rw [hmz] at hz; cases hz) (p4 := (p3 + 1)) (by omega) (by omega) (by omega)
                have hnv : nr0 ≠ v9 := fun e => by rw [e, hv0] at hr4; cases hr4
                have hnl : some lb ≠ some nr0 := fun e => by
                  have e := Option.some.inj e
                  have h9 := hx2.el.v hLJ.lbv
                  rw [e] at h9
                  rcases h9 with h9 | h9 | h9 <;> omega
                have hn3 : f3 nr0 = f2 nr0 := hJ.2.2.2.2.2.1.2 nr0 (by omega) hnl
                have hf4 : (va_up f3 v9 (vE kv nv tv mv (some it) (some nr0) (nI ms.length) none ov sv)) nr0 = f2 nr0 := by rw [va_up_ne _ _ hnv]; exact hn3
                have ef4 : (va_up f3 v9 (vE kv nv tv mv (some it) (some nr0) (nI ms.length) none ov sv)) v9 = vE kv nv tv mv (some it) (some nr0) (nI ms.length) none ov sv := va_up_self _ _ _
                have hnmv : nmL (va_up f3 v9 (vE kv nv tv mv (some it) (some nr0) (nI ms.length) none ov sv)) v9 = some (txL f2 nr0) := by
                  rw [nmL_v ef4]
                  show some (txL (va_up f3 v9 (vE kv nv tv mv (some it) (some nr0) (nI ms.length) none ov sv)) nr0) = _
                  rw [txL_eq hf4]
                have hMn := hMI.next c24 hc4 hnm9 hjv hdp3 (v := v9) (f4 := (va_up f3 v9 (vE kv nv tv mv (some it) (some nr0) (nI ms.length) none ov sv))) (fun _ => NMs.next hLJ (hMI.2.2.2 c33) hx2 hf2 hJ (fun a hav _ => va_up_ne _ _ hav) (fun z hz => by rw [hmz] at hz; cases hz) hnmv) (p4 := (p3 + 1)) (mo4 := 1) (Or.inl ⟨rfl, ht22, rfl⟩)
                have hKn := KSd.next (X := txL f2 nr0) hO1 hKS hLJ.ex hit hx2 hf2 hO3 hx3 hJ.2.2.2.2.2.1 hLJ.lbv (fun a ha => by obtain ⟨j9, hj9⟩ := List.getElem?_of_mem ha; exact ⟨(hLJ.chn j9 a hj9).2.1, (hLJ.chn j9 a hj9).2.2.1.1⟩) hOB (s := 3) (Or.inr rfl) (fun a hav _ => va_up_ne _ _ hav) ⟨kv, nv, tv, mv, pv, av, iv, none, ov, sv, some it, (some nr0), nI ms.length, efv, va_up_self _ _ _⟩ (fun z hz => by rw [hmz] at hz; cases hz) (fun _ => hnmv) (UPf.v (nu := nv) (kd := kv) (show (va_up f3 v9 (vE kv nv tv mv (some it) (some nr0) (nI ms.length) none ov sv)) v9 = vE kv nv tv mv (some it) (some nr0) (nI ms.length) none ov sv from va_up_self _ _ _) (fun h => absurd c33 h))
                have hlen : (ms ++ [v9]).length = ms.length + 1 := by rw [List.length_append]; rfl
                have hl0 : (ms ++ [v9])[0]? = some v9 := by rw [List.getElem?_append_right (by omega), show 0 - ms.length = 0 by omega]; rfl
                have hlz : (ms ++ [v9])[(ms ++ [v9]).length - 1]? = some v9 := by rw [hlen, Nat.add_sub_cancel, List.getElem?_append_right (Nat.le_refl _), Nat.sub_self]; rfl
                have hl : lv_has ls 10 [(7, .int (nI (ms ++ [v9]).length)), (6, .int 1), (4, va_rf ((ms ++ [v9])[(ms ++ [v9]).length - 1]?)), (3, va_rf ((ms ++ [v9])[0]?)), (5, .int (nI (ms ++ [v9]).length)), (9, .ref v9), (8, .ref nr0), (0, .ref jr), (1, .ref it), (2, .int (nI d))] := by rw [hl0, hlz, hlen]; exact hl
                refine w_same (fun hq => ?_)
                refine W.widen (k := 2 * (n - i) + 4) (n := 16 * (n - i) + 40) (by show (((2 * (p - i)) + 1) + 2 * (p3 - p2)) ≤ 2 * (n - i) + 4; omega) (by show (((16 * (p - i) - ms.length) + (p2 - p)) + (16 * (p3 - p2) - 1)) ≤ 16 * (n - i) + 40; omega) ?_
                exact ih ((ms ++ [v9]), 1, (p3 + 1), (N ++ [nr0]) ++ N3, va_up E3 v9 3, (va_up f3 v9 (vE kv nv tv mv (some it) (some nr0) (nI ms.length) none ov sv)), uc3, ug3, dp3, md3, lb3, acc ++ [(txL f2 nr0, xv)], ct + c3) _ _ _ ⟨hLn, hMn, hq.mono (by show (((2 * (p - i)) + 1) + 2 * (p3 - p2)) ≤ 2 * ((p3 + 1) - i); omega) (by show (((16 * (p - i) - ms.length) + (p2 - p)) + (16 * (p3 - p2) - 1)) ≤ 16 * ((p3 + 1) - i) - (ms ++ [v9]).length; omega), hKn, hmd3⟩ (by show 4097 - (ms ++ [v9]).length < 4097 - ms.length; omega) hP hD hS (lv_sub hl [7, 8, 9, 3, 2, 4, 1, 0] rfl)
              · have hu22 : u22 = p3 := hu22
                subst hr22
                rw [hu22] at hP hD
                have hP : va_P (dC, dI) classes ([(jr, .inr (1, [.ref h0, .int dp3, .int md3, .ref lb3])), (h0, .inr (8, [.ref qb, .ref qu, .int uc3, .int ln, .int (nI n), .int (nI p3), .int pl])), (qb, .inl (cB, 4096, .inl bf)), (qu, .inl (cI, 4096, .inl ug3))] ++ va_pl ((L ++ ((N ++ [nr0]) ++ N3))) ((va_up f3 v9 (vE kv nv tv mv (some it) (some nr0) (nI ms.length) none ov sv)))) H := hP
                have hD : va_D A ([(jr, .inr (1, [.ref h0, .int dp3, .int md3, .ref lb3])), (h0, .inr (8, [.ref qb, .ref qu, .int uc3, .int ln, .int (nI n), .int (nI p3), .int pl])), (qb, .inl (cB, 4096, .inl bf)), (qu, .inl (cI, 4096, .inl ug3))] ++ va_pl ((L ++ ((N ++ [nr0]) ++ N3))) ((va_up f3 v9 (vE kv nv tv mv (some it) (some nr0) (nI ms.length) none ov sv)))) := hD
                refine lv_istore (lv' := [(6, .int 0), (4, .ref v9), (3, .ref v9), (5, .int (nI (ms.length + 1))), (9, .ref v9), (8, .ref nr0), (0, .ref jr), (1, .ref it), (2, .int (nI d)), (7, .int (nI ms.length))]) hx hb d_JsonReader_members_108 hl (by decide) rfl (fun ls hl => ?_)
                refine lv_iinc (v := nI (ms.length + 1)) (lv' := [(7, .int (nI (ms.length + 1))), (6, .int 0), (4, .ref v9), (3, .ref v9), (5, .int (nI (ms.length + 1))), (9, .ref v9), (8, .ref nr0), (0, .ref jr), (1, .ref it), (2, .int (nI d))]) hx hb d_JsonReader_members_110 hl (k := 9) rfl (nI_1 _) (by decide) rfl (fun ls hl => ?_)
                refine lv_goto (tgt := 14) hx hb d_JsonReader_members_113 (by decide) ?_
                have hs4 : (3 = 2 ∧ ¬ kd = 6) ∨ (3 = 3 ∧ kd = 6) := Or.inr ⟨rfl, c33⟩
                obtain ⟨hE4, hO4⟩ := PO.mem1st (s := 3) (na' := (some nr0)) (ix' := nI ms.length) hO3 hv2 efv (it := it) (Or.inl hi3) (fun b h => by cases h; exact (hJ.ex nr0 (by rw [hr4]; decide)).trans hr4) (Or.inr ⟨rfl, fun h => by cases h⟩)
                rw [List.append_assoc] at hO4
                have hLn := hLJ.next hit (by omega) hx2 hn2 hf2 hO2 hJ hs4 hE4 hO4 (fun a hav _ => va_up_ne _ _ hav) (nmF_v (va_up_self _ _ _)) (fun z hz => by rw [hmz] at hz; cases hz) (p4 := p3) (by omega) (by omega) (by omega)
                have hnv : nr0 ≠ v9 := fun e => by rw [e, hv0] at hr4; cases hr4
                have hnl : some lb ≠ some nr0 := fun e => by
                  have e := Option.some.inj e
                  have h9 := hx2.el.v hLJ.lbv
                  rw [e] at h9
                  rcases h9 with h9 | h9 | h9 <;> omega
                have hn3 : f3 nr0 = f2 nr0 := hJ.2.2.2.2.2.1.2 nr0 (by omega) hnl
                have hf4 : (va_up f3 v9 (vE kv nv tv mv (some it) (some nr0) (nI ms.length) none ov sv)) nr0 = f2 nr0 := by rw [va_up_ne _ _ hnv]; exact hn3
                have ef4 : (va_up f3 v9 (vE kv nv tv mv (some it) (some nr0) (nI ms.length) none ov sv)) v9 = vE kv nv tv mv (some it) (some nr0) (nI ms.length) none ov sv := va_up_self _ _ _
                have hnmv : nmL (va_up f3 v9 (vE kv nv tv mv (some it) (some nr0) (nI ms.length) none ov sv)) v9 = some (txL f2 nr0) := by
                  rw [nmL_v ef4]
                  show some (txL (va_up f3 v9 (vE kv nv tv mv (some it) (some nr0) (nI ms.length) none ov sv)) nr0) = _
                  rw [txL_eq hf4]
                have hMn := hMI.next c24 hc4 hnm9 hjv hdp3 (v := v9) (f4 := (va_up f3 v9 (vE kv nv tv mv (some it) (some nr0) (nI ms.length) none ov sv))) (fun _ => NMs.next hLJ (hMI.2.2.2 c33) hx2 hf2 hJ (fun a hav _ => va_up_ne _ _ hav) (fun z hz => by rw [hmz] at hz; cases hz) hnmv) (p4 := p3) (mo4 := 0) (Or.inr ⟨rfl, ht22, rfl⟩)
                have hKn := KSd.next (X := txL f2 nr0) hO1 hKS hLJ.ex hit hx2 hf2 hO3 hx3 hJ.2.2.2.2.2.1 hLJ.lbv (fun a ha => by obtain ⟨j9, hj9⟩ := List.getElem?_of_mem ha; exact ⟨(hLJ.chn j9 a hj9).2.1, (hLJ.chn j9 a hj9).2.2.1.1⟩) hOB (s := 3) (Or.inr rfl) (fun a hav _ => va_up_ne _ _ hav) ⟨kv, nv, tv, mv, pv, av, iv, none, ov, sv, some it, (some nr0), nI ms.length, efv, va_up_self _ _ _⟩ (fun z hz => by rw [hmz] at hz; cases hz) (fun _ => hnmv) (UPf.v (nu := nv) (kd := kv) (show (va_up f3 v9 (vE kv nv tv mv (some it) (some nr0) (nI ms.length) none ov sv)) v9 = vE kv nv tv mv (some it) (some nr0) (nI ms.length) none ov sv from va_up_self _ _ _) (fun h => absurd c33 h))
                have hlen : (ms ++ [v9]).length = ms.length + 1 := by rw [List.length_append]; rfl
                have hl0 : (ms ++ [v9])[0]? = some v9 := by rw [List.getElem?_append_right (by omega), show 0 - ms.length = 0 by omega]; rfl
                have hlz : (ms ++ [v9])[(ms ++ [v9]).length - 1]? = some v9 := by rw [hlen, Nat.add_sub_cancel, List.getElem?_append_right (Nat.le_refl _), Nat.sub_self]; rfl
                have hl : lv_has ls 10 [(7, .int (nI (ms ++ [v9]).length)), (6, .int 0), (4, va_rf ((ms ++ [v9])[(ms ++ [v9]).length - 1]?)), (3, va_rf ((ms ++ [v9])[0]?)), (5, .int (nI (ms ++ [v9]).length)), (9, .ref v9), (8, .ref nr0), (0, .ref jr), (1, .ref it), (2, .int (nI d))] := by rw [hl0, hlz, hlen]; exact hl
                refine w_same (fun hq => ?_)
                refine W.widen (k := 2 * (n - i) + 4) (n := 16 * (n - i) + 40) (by show (((2 * (p - i)) + 1) + 2 * (p3 - p2)) ≤ 2 * (n - i) + 4; omega) (by show (((16 * (p - i) - ms.length) + (p2 - p)) + (16 * (p3 - p2) - 1)) ≤ 16 * (n - i) + 40; omega) ?_
                exact ih ((ms ++ [v9]), 0, p3, (N ++ [nr0]) ++ N3, va_up E3 v9 3, (va_up f3 v9 (vE kv nv tv mv (some it) (some nr0) (nI ms.length) none ov sv)), uc3, ug3, dp3, md3, lb3, acc ++ [(txL f2 nr0, xv)], ct + c3) _ _ _ ⟨hLn, hMn, hq.mono (by show (((2 * (p - i)) + 1) + 2 * (p3 - p2)) ≤ 2 * (p3 - i); omega) (by show (((16 * (p - i) - ms.length) + (p2 - p)) + (16 * (p3 - p2) - 1)) ≤ 16 * (p3 - i) - (ms ++ [v9]).length; omega), hKn, hmd3⟩ (by show 4097 - (ms ++ [v9]).length < 4097 - ms.length; omega) hP hD hS (lv_sub hl [7, 8, 9, 3, 2, 4, 1, 0] rfl)
  · obtain ⟨m0, hm0⟩ : ∃ z, ms[0]? = some z := ⟨_, List.getElem?_eq_getElem hm⟩
    obtain ⟨mz, hmz⟩ : ∃ z, ms[ms.length - 1]? = some z := ⟨_, List.getElem?_eq_getElem (by omega)⟩
    rw [hm0, hmz] at hl
    have hl : lv_has ls 10 [(0, .ref jr), (1, .ref it), (2, .int (nI d)), (3, .ref m0), (4, .ref mz), (5, .int (nI ms.length)), (6, .int mo), (7, .int (nI ms.length))] := hl
    refine lv_iload hx hb d_JsonReader_members_14 (lv_at hl 7 rfl) ?_
    refine lv_sipush (v := 4096) hx hb d_JsonReader_members_16 (by decide) ?_
    refine lv_icmp_ge (tgt := 116) hx hb d_JsonReader_members_19 (by decide) (fun c19 => ?_) (fun c19 => ?_)
    · have h4 : 4096 ≤ ms.length := by rw [show (4096 : Int32) = nI 4096 from rfl, nI_leI (by omega) (by omega)] at c19; exact c19
      exact absurd h4 (by omega)
    · have hc4 : ms.length < 4096 := by rw [show (4096 : Int32) = nI 4096 from rfl, nI_leI (by omega) (by omega)] at c19; omega
      refine lv_iload hx hb d_JsonReader_members_22 (lv_at hl 6 rfl) ?_
      refine lv_if_eq (tgt := 116) hx hb d_JsonReader_members_24 (by decide) (fun c24 => ?_) (fun c24 => ?_)
      · refine lv_aload_n hx hb d_JsonReader_members_116 rfl (lv_at hl 1 rfl) ?_
        refine lv_aload_n hx hb d_JsonReader_members_117 rfl (lv_at hl 3 rfl) ?_
        refine lv_iload hx hb d_JsonReader_members_118 (lv_at hl 5 rfl) ?_
        have hPc := hP.part (cx := []) [] rfl
        have hDc := hD.part (cx := []) [] (by decide) rfl
        have hFc := va_freeP (cx := []) hD hS hA [] rfl
        have hKc := hK.sub (tys' := [(cI, .int), (cV, .object "QueryBench$Value")]) [1, 2] rfl
        refine w_same (fun hq0 => ?_)
        refine va_callr (va_runS (As := [.ref m0, .int (nI ms.length)]) (rest := [.ref it]) ⟨hx, hb, hml, hown, hts⟩ (c_JsonReader_row l K dC dI H cI cV E1 lv (L ++ N) f1 hO1 (some m0) ms hm0.symm hj4 (fun a => E a = 0 ∧ isF E1 a ∧ (kd = 6 → E1 a = 3) ∧ (¬ kd = 6 → E1 a = 2)) hLJ.chn) (va_cwS 2 hts (gt_S (own := R_JsonReader) (i := 135) (y := y_JsonReader_row) i_JsonReader_row z_447 z_448 w_3) rfl rfl rfl (by decide +kernel) ⟨by show 0 + 1 ≤ 14 + 3 * k; omega, by show 8 + (5 + 11) + (0) ≤ 290 + 90 * k; omega⟩) ⟨ml_blind, fun U hU hW => ⟨rfl, ⟨hU, by rw [hU]; exact hPc, va_K.moved hW.alike hKc, hDc.weaken (fun _ _ _ _ => trivial)⟩, hN.warm hW, by rw [hU]; exact ZX.moved' hW.alike (ZX.narrow' (ZX.kept' hZ hS.2.1) hFc), by rw [hU]; exact CE.call hC hS.2.1 hFc hW, va_AO.moved hW.alike hV⟩⟩ rfl rfl hl.1 rfl (lv_room (Nat.le_of_ble_eq_true rfl)) d_JsonReader_members_120 ⟨by show (2 * (p - i)) + (1) ≤ 2 * (n - i) + 4; omega, by show (16 * (p - i) - ms.length) + (ms.length) ≤ 16 * (n - i) + 40; omega⟩) hS (fun q _ h => hFc q h) hFc (fun ⟨ra, gr⟩ ra0 t9 H1 locs ht hvm hw hB hz1 hk1 hS => ?_)
        obtain ⟨⟨hP1, hK1, hD1⟩, hz9, ha9⟩ := hB
        rw [ht] at hP1
        rw [ht] at hz9
        have ha9 : ra0 = ra := ha9
        subst ha9
        have hq0 : szk s.heap H1 ((2 * (p - i)) + 1) ((16 * (p - i) - ms.length) + ms.length) := (hq0.trans hz9).mono (Nat.le_refl _) (Nat.le_refl _)
        refine w_tight hq0 ?_
        obtain ⟨hP, hD⟩ := va_joinP (wr := [(jr, .inr (1, [.ref h0, .int dp, .int md, .ref lb])), (h0, .inr (8, [.ref qb, .ref qu, .int uc, .int ln, .int (nI n), .int (nI p), .int pl])), (qb, .inl (cB, 4096, .inl bf)), (qu, .inl (cI, 4096, .inl ug))]) (rx := [(ra0, .inl (cV, ms.length, .inr (.inr (.inr (.inr gr)))))]) (pl1 := va_pl ((L ++ N)) f1) hP hD [] [0, 1, 2, 3] rfl rfl (by decide) (by decide) hk1 hFc hP1 hD1
        generalize H1 = H at hP hS hq0 ⊢
        have hP : va_P (dC, dI) classes ([(jr, .inr (1, [.ref h0, .int dp, .int md, .ref lb])), (h0, .inr (8, [.ref qb, .ref qu, .int uc, .int ln, .int (nI n), .int (nI p), .int pl])), (qb, .inl (cB, 4096, .inl bf)), (qu, .inl (cI, 4096, .inl ug)), (ra0, .inl (cV, ms.length, .inr (.inr (.inr (.inr gr)))))] ++ va_pl ((L ++ N)) f1) H := hP
        have hD : va_D A ([(jr, .inr (1, [.ref h0, .int dp, .int md, .ref lb])), (h0, .inr (8, [.ref qb, .ref qu, .int uc, .int ln, .int (nI n), .int (nI p), .int pl])), (qb, .inl (cB, 4096, .inl bf)), (qu, .inl (cI, 4096, .inl ug)), (ra0, .inl (cV, ms.length, .inr (.inr (.inr (.inr gr)))))] ++ va_pl ((L ++ N)) f1) := hD
        have hgr : ∀ k, k < ms.length → gr k = ms[k]? := hw
        have hP : va_P (dC, dI) classes ([(jr, .inr (1, [.ref h0, .int dp, .int md, .ref lb])), (h0, .inr (8, [.ref qb, .ref qu, .int uc, .int ln, .int (nI n), .int (nI p), .int pl])), (qb, .inl (cB, 4096, .inl bf)), (qu, .inl (cI, 4096, .inl ug)), (ra0, .inl (cV, ms.length, .inr (.inr (.inr (.inr gr)))))] ++ va_pl ((L ++ N)) f1) H := hP
        have hD : va_D A ([(jr, .inr (1, [.ref h0, .int dp, .int md, .ref lb])), (h0, .inr (8, [.ref qb, .ref qu, .int uc, .int ln, .int (nI n), .int (nI p), .int pl])), (qb, .inl (cB, 4096, .inl bf)), (qu, .inl (cI, 4096, .inl ug)), (ra0, .inl (cV, ms.length, .inr (.inr (.inr (.inr gr)))))] ++ va_pl ((L ++ N)) f1) := hD
        refine vq_put (D := (dC, dI)) (ci := 9) (v := .ref ra0) (ty := .array (.object "QueryBench$Value")) (C := R_Value) (T := F_Value) (N := 10) hx hb hts in_Value t_Value t_Value_ok n_Value hown hK hP hD hS (hO1.inV (Or.inl hi1)) hit1 rfl 3 (by decide) (hts _ z_327) (fun _ h9 => h9) rfl (by decide +kernel) rfl rfl (Nat.le_of_ble_eq_true rfl) d_JsonReader_members_123 (fun H locs hP hD hS => ?_)
        have hP : va_P (dC, dI) classes ([(jr, .inr (1, [.ref h0, .int dp, .int md, .ref lb])), (h0, .inr (8, [.ref qb, .ref qu, .int uc, .int ln, .int (nI n), .int (nI p), .int pl])), (qb, .inl (cB, 4096, .inl bf)), (qu, .inl (cI, 4096, .inl ug)), (ra0, .inl (cV, ms.length, .inr (.inr (.inr (.inr gr)))))] ++ va_pl ((L ++ N)) ((va_up f1 it (vE kd 0 none (some ra0) none none 0 none no1 0)))) H := hP
        have hD : va_D A ([(jr, .inr (1, [.ref h0, .int dp, .int md, .ref lb])), (h0, .inr (8, [.ref qb, .ref qu, .int uc, .int ln, .int (nI n), .int (nI p), .int pl])), (qb, .inl (cB, 4096, .inl bf)), (qu, .inl (cI, 4096, .inl ug)), (ra0, .inl (cV, ms.length, .inr (.inr (.inr (.inr gr)))))] ++ va_pl ((L ++ N)) ((va_up f1 it (vE kd 0 none (some ra0) none none 0 none no1 0)))) := hD
        have hra0 : E1 ra0 = 0 := Classical.byContradiction (fun h => plD_new (X := [(jr, .inr (1, [.ref h0, .int dp, .int md, .ref lb])), (h0, .inr (8, [.ref qb, .ref qu, .int uc, .int ln, .int (nI n), .int (nI p), .int pl])), (qb, .inl (cB, 4096, .inl bf)), (qu, .inl (cI, 4096, .inl ug))]) hD (hO1.inL h))
        have hraL := plD_new (X := [(jr, .inr (1, [.ref h0, .int dp, .int md, .ref lb])), (h0, .inr (8, [.ref qb, .ref qu, .int uc, .int ln, .int (nI n), .int (nI p), .int pl])), (qb, .inl (cB, 4096, .inl bf)), (qu, .inl (cI, 4096, .inl ug))]) hD
        have hP := plP_push (X := [(jr, .inr (1, [.ref h0, .int dp, .int md, .ref lb])), (h0, .inr (8, [.ref qb, .ref qu, .int uc, .int ln, .int (nI n), .int (nI p), .int pl])), (qb, .inl (cB, 4096, .inl bf)), (qu, .inl (cI, 4096, .inl ug))]) hP hraL
        have hD := plD_push (X := [(jr, .inr (1, [.ref h0, .int dp, .int md, .ref lb])), (h0, .inr (8, [.ref qb, .ref qu, .int uc, .int ln, .int (nI n), .int (nI p), .int pl])), (qb, .inl (cB, 4096, .inl bf)), (qu, .inl (cI, 4096, .inl ug))]) hD hraL
        rw [List.append_assoc] at hP hD
        have hP : va_P (dC, dI) classes ([(jr, .inr (1, [.ref h0, .int dp, .int md, .ref lb])), (h0, .inr (8, [.ref qb, .ref qu, .int uc, .int ln, .int (nI n), .int (nI p), .int pl])), (qb, .inl (cB, 4096, .inl bf)), (qu, .inl (cI, 4096, .inl ug))] ++ va_pl ((L ++ (N ++ [ra0]))) ((va_up (va_up f1 it (vE kd 0 none (some ra0) none none 0 none no1 0)) ra0 (aE cV ms.length gr)))) H := hP
        have hD : va_D A ([(jr, .inr (1, [.ref h0, .int dp, .int md, .ref lb])), (h0, .inr (8, [.ref qb, .ref qu, .int uc, .int ln, .int (nI n), .int (nI p), .int pl])), (qb, .inl (cB, 4096, .inl bf)), (qu, .inl (cI, 4096, .inl ug))] ++ va_pl ((L ++ (N ++ [ra0]))) ((va_up (va_up f1 it (vE kd 0 none (some ra0) none none 0 none no1 0)) ra0 (aE cV ms.length gr)))) := hD
        refine w_same (fun hq => ?_)
        refine W.widen (k := 2 * (n - i) + 4) (n := 16 * (n - i) + 40) (by show ((2 * (p - i)) + 1) ≤ 2 * (n - i) + 4; omega) (by show ((16 * (p - i) - ms.length) + ms.length) ≤ 16 * (n - i) + 40; omega) ?_
        refine vx_ret ?_
        rcases hkd with hk5 | hk6
        · have hraI : ra0 ≠ it := fun e => by rw [e, hi1] at hra0; cases hra0
          have hMFx : MFx cV bf n k d i p D kd dp E (va_up E1 ra0 5) (va_up (va_up f1 it (vE kd 0 none (some ra0) none none 0 none no1 0)) ra0 (aE cV ms.length gr)) it lb md0 md := hMI.finx c24 ⟨ms, ct, some ra0, no1, KSd.row hO1 hKS (Or.inl hi1) hit1 ((va_up_ne _ _ (Ne.symm hraI)).trans (va_up_self _ _ _)) (fun a ha hn9 => by rw [va_up_ne _ _ (show a ≠ ra0 from fun e => ha (by rw [e]; exact hra0)), va_up_ne _ _ hn9]) (EX.new hra0), (va_up_ne _ _ (Ne.symm hraI)).trans (va_up_self _ _ _), Or.inr ⟨ra0, gr, rfl, by rw [va_up_self]; decide, hraI, va_up_self _ _ _, hgr⟩, hmd⟩
          rw [hmd0] at hMFx
          exact W.vret hx hb hr (fun t9 ht hW => ⟨⟨(p, N ++ [ra0], va_up E1 ra0 5, va_up (va_up f1 it (vE kd 0 none (some ra0) none none 0 none no1 0)) ra0 (aE cV ms.length gr), uc, ug, dp, md, lb), rfl, ⟨hLJ.fin hit hra0 hgr hit1 (Or.inl ⟨rfl, by rw [hk5]; decide⟩), hMFx⟩, ⟨by rw [ht]; exact hP, va_K.moved hW.alike hK, hD⟩, by rw [ht]; exact hq.mono (by show ((2 * (p - i)) + 1) ≤ 2 * (p - i) + 1; omega) (by show ((16 * (p - i) - ms.length) + ms.length) ≤ 16 * (p - i); omega)⟩, hS.F ht⟩) hS.2.2 d_JsonReader_members_126
        · have hraI : ra0 ≠ it := fun e => by rw [e, hi1] at hra0; cases hra0
          have hMFx : MFx cV bf n k d i p D kd dp E (va_up E1 ra0 6) (va_up (va_up f1 it (vE kd 0 none (some ra0) none none 0 none no1 0)) ra0 (aE cV ms.length gr)) it lb md0 md := hMI.finx c24 ⟨ms, ct, some ra0, no1, KSd.row hO1 hKS (Or.inl hi1) hit1 ((va_up_ne _ _ (Ne.symm hraI)).trans (va_up_self _ _ _)) (fun a ha hn9 => by rw [va_up_ne _ _ (show a ≠ ra0 from fun e => ha (by rw [e]; exact hra0)), va_up_ne _ _ hn9]) (EX.new hra0), (va_up_ne _ _ (Ne.symm hraI)).trans (va_up_self _ _ _), Or.inr ⟨ra0, gr, rfl, by rw [va_up_self]; decide, hraI, va_up_self _ _ _, hgr⟩, hmd⟩
          rw [hmd0] at hMFx
          exact W.vret hx hb hr (fun t9 ht hW => ⟨⟨(p, N ++ [ra0], va_up E1 ra0 6, va_up (va_up f1 it (vE kd 0 none (some ra0) none none 0 none no1 0)) ra0 (aE cV ms.length gr), uc, ug, dp, md, lb), rfl, ⟨hLJ.fin hit hra0 hgr hit1 (Or.inr ⟨rfl, hk6⟩), hMFx⟩, ⟨by rw [ht]; exact hP, va_K.moved hW.alike hK, hD⟩, by rw [ht]; exact hq.mono (by show ((2 * (p - i)) + 1) ≤ 2 * (p - i) + 1; omega) (by show ((16 * (p - i) - ms.length) + ms.length) ≤ 16 * (p - i); omega)⟩, hS.F ht⟩) hS.2.2 d_JsonReader_members_126
      · refine lv_aload_n hx hb d_JsonReader_members_27 rfl (lv_at hl 1 rfl) ?_
        refine vq_get (D := (dC, dI)) (ci := 9) (v := .int kd) (C := R_Value) (T := F_Value) (N := 10) hx hb hts in_Value hown hK hP (hO1.inV (Or.inl hi1)) hit1 rfl 0 (by decide) (hts _ z_313) (fun _ h9 => h9) rfl d_JsonReader_members_28 ?_
        refine lv_bipush (v := 6) hx hb d_JsonReader_members_31 (by decide) ?_
        refine lv_icmp_ne (tgt := 44) hx hb d_JsonReader_members_33 (by decide) (fun c33 => ?_) (fun c33 => ?_)
        · have hnm9 := jNm_0 (bf := bf) (n := n) (p := p) (nms := acc.map (·.1)) c33
          have hx2 : EX E1 E1 := EX.rf
          have hn2 : ∀ a, E1 a = 0 → E1 a ≠ 1 := fun a ha => by omega
          have hf2 : ∀ a, E1 a ≠ 0 → f1 a = f1 a := fun _ _ => rfl
          have hO2 := hO1
          refine lv_null hx hb d_JsonReader_members_44 ?_
          refine lv_astoreN (lv' := [(8, .null), (0, .ref jr), (1, .ref it), (2, .int (nI d)), (3, .ref m0), (4, .ref mz), (5, .int (nI ms.length)), (6, .int mo), (7, .int (nI ms.length))]) hx hb d_JsonReader_members_45 hl (by decide) rfl (fun ls hl => ?_)
          refine lv_aload_n hx hb d_JsonReader_members_47 rfl (lv_at hl 1 rfl) ?_
          refine lv_iload_n hx hb d_JsonReader_members_48 rfl (lv_at hl 3 rfl) ?_
          obtain ⟨D9, hD9⟩ : ∃ z, z = max D (d + dpK (dpJ (k - 1)) acc) := ⟨_, rfl⟩
          have hdp9 : dp = nI D9 := by rw [hD9]; exact hMI.2.2.1
          have hdq9 := dpK_le (dpJ_le (k - 1)) acc
          have hlbv : oR (isV E1) (some lb) := fun b h => by cases h; exact hx2.el.v hLJ.lbv
          have hPc := hP.part (cx := [(jr, .inr (1, [.ref h0, .int dp, .int md, .ref lb])), (h0, .inr (8, [.ref qb, .ref qu, .int uc, .int ln, .int (nI n), .int (nI p), .int pl])), (qb, .inl (cB, 4096, .inl bf)), (qu, .inl (cI, 4096, .inl ug))]) [0, 1, 2, 3] rfl
          have hDc := hD.part (cx := [(jr, .inr (1, [.ref h0, .int dp, .int md, .ref lb])), (h0, .inr (8, [.ref qb, .ref qu, .int uc, .int ln, .int (nI n), .int (nI p), .int pl])), (qb, .inl (cB, 4096, .inl bf)), (qu, .inl (cI, 4096, .inl ug))]) [0, 1, 2, 3] (by decide) rfl
          have hFc := va_freeP (cx := [(jr, .inr (1, [.ref h0, .int dp, .int md, .ref lb])), (h0, .inr (8, [.ref qb, .ref qu, .int uc, .int ln, .int (nI n), .int (nI p), .int pl])), (qb, .inl (cB, 4096, .inl bf)), (qu, .inl (cI, 4096, .inl ug))]) hD hS hA [0, 1, 2, 3] rfl
          have hKc := hK.sub (tys' := [(cB, .byte), (cI, .int), (cV, .object "QueryBench$Value")]) [0, 1, 2] rfl
          refine w_same (fun hq0 => ?_)
          refine vx_callr (vx_runV (As := [.int (nI d)]) (rest := []) ⟨hx, hb, hml, hown, hts⟩ (HV hk9 H E1 (L ++ N) f1 p uc pl ug dp md (some lb) D9 hO2 hlbv (by omega) hdp9 (by omega) (by omega)) (cwV 1 hts (gt_V (own := R_JsonReader) (C := R_JsonReader) (i := 26) (y := y_JsonReader_value) i_JsonReader_value z_294 z_296 (gt_sel (y := y_JsonReader_value) (n := 4) (by decide +kernel)) w_3) rfl rfl rfl (by decide +kernel) ⟨by show 16 + 3 * (k - 1) + 1 ≤ 14 + 3 * k; omega, by show 8 + (4 + 11) + (350 + 90 * (k - 1)) ≤ 290 + 90 * k; omega⟩) ⟨ml_blind, va_recv hK hP (ci := 1) (q0 := 0) rfl rfl, fun U hU hW => ⟨rfl, ⟨hU, by rw [hU]; exact hPc, va_K.moved hW.alike hKc, hDc.weaken (fun _ _ _ _ => trivial)⟩, hN.warm hW, by rw [hU]; exact ZX.moved' hW.alike (ZX.narrow' (ZX.kept' hZ hS.2.1) hFc), by rw [hU]; exact CE.call hC hS.2.1 hFc hW, va_AO.moved hW.alike hV⟩⟩ rfl rfl hl.1 rfl (lv_room (Nat.le_of_ble_eq_true rfl)) d_JsonReader_members_49 ⟨by show (2 * (p - i)) + (2 * (n - p) + 4) ≤ 2 * (n - i) + 4; omega, by show (16 * (p - i) - ms.length) + (16 * (n - p) + 40) ≤ 16 * (n - i) + 40; omega⟩) hS (fun q _ h => hFc q h) hFc (fun q _ h => hFc q h) (fun En ce q9 ⟨ax, cx, px, gx, dx, mx, lx, fx⟩ t9 H1 locs ht hvm hw hB hz1 hk1 hS hce hcv hcl => ?_) (fun ⟨v3, p3, N3, E3, f3, uc3, ug3, dp3, md3, lb3⟩ v9 t9 H1 locs ht hvm hw hB hz1 hk1 hS => ?_)
          · obtain ⟨hEn, hP1, hK1, hD1⟩ := hB
            rw [ht] at hP1
            obtain ⟨hP, hD⟩ := va_joinP (wr := []) (rx := [(jr, .inr (1, [.ref h0, .int dx, .int mx, va_rf lx])), (h0, .inr (8, [.ref qb, .ref qu, .int cx, .int ln, .int (nI n), .int ax, .int px])), (qb, .inl (cB, 4096, .inl bf)), (qu, .inl (cI, 4096, .inl gx))]) (pl1 := va_pl ((L ++ N)) fx) hP hD [0, 1, 2, 3] [] rfl rfl (by decide) (by decide) hk1 hFc hP1 hD1
            generalize H1 = H at hP hS hce ⊢
            have hP : va_P (dC, dI) classes ([(jr, .inr (1, [.ref h0, .int dx, .int mx, va_rf lx])), (h0, .inr (8, [.ref qb, .ref qu, .int cx, .int ln, .int (nI n), .int ax, .int px])), (qb, .inl (cB, 4096, .inl bf)), (qu, .inl (cI, 4096, .inl gx))] ++ va_pl ((L ++ N)) fx) H := hP
            have hD : va_D A ([(jr, .inr (1, [.ref h0, .int dx, .int mx, va_rf lx])), (h0, .inr (8, [.ref qb, .ref qu, .int cx, .int ln, .int (nI n), .int ax, .int px])), (qb, .inl (cB, 4096, .inl bf)), (qu, .inl (cI, 4096, .inl gx))] ++ va_pl ((L ++ N)) fx) := hD
            have hP := plP_pre hP
            have hD := plD_pre hD
            have hkx := hLJ.thr hx2 hf2 (show ∀ a, E1 a ≠ 0 → some lb ≠ some a → fx a = f1 a from hw.1)
            have hno := hMI.bad2 c24 hc4 hnm9 (show jV bf n (k - 1) p = none from hw.2)
            exact vx_out (fun x hx => (hex x hx).elim) hlocks hce hcv hcl (fun t9 ht2 ha => ⟨(ax, cx, px, gx, dx, mx, lx, fx), ⟨hkx, hno⟩, ⟨hEn, by rw [ht2]; exact hP, va_K.moved ha hK, hD⟩, hS.F ht2⟩) hS.2.2 (by show (2 * (p - i)) + (2 * (n - p) + 4) ≤ 2 * (n - i) + 4; omega) (by show (16 * (p - i) - ms.length) + (16 * (n - p) + 40) ≤ 16 * (n - i) + 40; omega)
          · obtain ⟨⟨hP1, hK1, hD1⟩, hz9, ha9⟩ := hB
            rw [ht] at hP1
            rw [ht] at hz9
            have ha9 : v9 = v3 := ha9
            subst ha9
            have hq0 : szk s.heap H1 ((2 * (p - i)) + 2 * (p3 - p)) ((16 * (p - i) - ms.length) + (16 * (p3 - p) - 1)) := (hq0.trans hz9).mono (Nat.le_refl _) (Nat.le_refl _)
            refine w_tight hq0 ?_
            obtain ⟨hP, hD⟩ := va_joinP (wr := []) (rx := [(jr, .inr (1, [.ref h0, .int dp3, .int md3, .ref lb3])), (h0, .inr (8, [.ref qb, .ref qu, .int uc3, .int ln, .int (nI n), .int (nI p3), .int pl])), (qb, .inl (cB, 4096, .inl bf)), (qu, .inl (cI, 4096, .inl ug3))]) (pl1 := va_pl (((L ++ N) ++ N3)) f3) hP hD [0, 1, 2, 3] [] rfl rfl (by decide) (by decide) hk1 hFc hP1 hD1
            generalize H1 = H at hP hS hq0 ⊢
            have hP : va_P (dC, dI) classes ([(jr, .inr (1, [.ref h0, .int dp3, .int md3, .ref lb3])), (h0, .inr (8, [.ref qb, .ref qu, .int uc3, .int ln, .int (nI n), .int (nI p3), .int pl])), (qb, .inl (cB, 4096, .inl bf)), (qu, .inl (cI, 4096, .inl ug3))] ++ va_pl (((L ++ N) ++ N3)) f3) H := hP
            have hD : va_D A ([(jr, .inr (1, [.ref h0, .int dp3, .int md3, .ref lb3])), (h0, .inr (8, [.ref qb, .ref qu, .int uc3, .int ln, .int (nI n), .int (nI p3), .int pl])), (qb, .inl (cB, 4096, .inl bf)), (qu, .inl (cI, 4096, .inl ug3))] ++ va_pl (((L ++ N) ++ N3)) f3) := hD
            obtain ⟨hw, xv, c3, hJF, hOB, hmd3⟩ := hw
            have hJF : JFx bf n (k - 1) d p p3 D9 dp3 xv := hJF
            obtain ⟨hjv, hdp3⟩ := hJF
            have hOB : OBJ E1 E3 (some lb) f3 v9 lb3 c3 (k - 1) xv := hOB
            have hmd3 : md3 = md0 + nI (ct + c3) := by rw [show md3 = md + nI c3 from hmd3, hmd, Int32.add_assoc]; exact congrArg (md0 + ·) (nI_add ct c3)
            rw [hD9] at hdp3
            have hJ : JP cI cV E1 lv (L ++ N) f1 (some lb) p n v9 p3 N3 E3 f3 lb3 := hw
            obtain ⟨hp3a, hp3b⟩ := hJ.num
            have hO3 := hJ.po
            have hx3 := hJ.ex
            obtain ⟨hv2, hv0, hvn⟩ := hJ.v2
            have hi3 : E3 it = 1 := by
              have q1 : E1 it ≠ 0 := by rw [hi1]; decide
              rw [hx3 it (by rw [hx2 it q1]; exact q1), hx2 it q1]
              exact hi1
            rw [List.append_assoc] at hP hD
            have hP : va_P (dC, dI) classes ([(jr, .inr (1, [.ref h0, .int dp3, .int md3, .ref lb3])), (h0, .inr (8, [.ref qb, .ref qu, .int uc3, .int ln, .int (nI n), .int (nI p3), .int pl])), (qb, .inl (cB, 4096, .inl bf)), (qu, .inl (cI, 4096, .inl ug3))] ++ va_pl ((L ++ (N ++ N3))) f3) H := hP
            have hD : va_D A ([(jr, .inr (1, [.ref h0, .int dp3, .int md3, .ref lb3])), (h0, .inr (8, [.ref qb, .ref qu, .int uc3, .int ln, .int (nI n), .int (nI p3), .int pl])), (qb, .inl (cB, 4096, .inl bf)), (qu, .inl (cI, 4096, .inl ug3))] ++ va_pl ((L ++ (N ++ N3))) f3) := hD
            obtain ⟨kv, nv, tv, mv, pv, av, iv, mv2, ov, sv, efv, hvv⟩ := hO3.val (a := v9) (Or.inr (Or.inl hv2))
            obtain rfl : mv2 = none := (nmF_v efv).symm.trans hvn
            have hvi : v9 ∈ L ++ (N ++ N3) := by rw [← List.append_assoc]; exact hO3.inL (by rw [hv2]; decide)
            have hz0 := hLJ.chn _ _ hmz
            have hz2 : E1 mz ≠ 0 := by rw [hx2 mz hz0.1]; exact hz0.1
            have hzE : E3 mz = E1 mz := (hx3 mz hz2).trans (hx2 mz hz0.1)
            have hzv : mz ≠ v9 := fun e => hz2 (e ▸ hv0)
            obtain ⟨kz, nz, tz, ez, pz, az, iz, mz2, oz, sz9, efz, hvz⟩ := hO3.val (hx3.el.v (hx2.el.v hz0.2.1))
            have hzi : mz ∈ L ++ (N ++ N3) := by rw [← List.append_assoc]; exact hO3.inV (hx3.el.v (hx2.el.v hz0.2.1))
            have hz23 : E3 mz ≠ 3 := by rw [hzE, hz0.2.2.1.2.2.2 c33]; decide
            refine lv_astore (lv' := [(9, .ref v9), (8, .null), (0, .ref jr), (1, .ref it), (2, .int (nI d)), (3, .ref m0), (4, .ref mz), (5, .int (nI ms.length)), (6, .int mo), (7, .int (nI ms.length))]) hx hb d_JsonReader_members_52 hl (by decide) rfl (fun ls hl => ?_)
            refine lv_aload hx hb d_JsonReader_members_54 (lv_at hl 0 rfl) ?_
            refine lv_aload_n hx hb d_JsonReader_members_56 rfl (lv_at hl 3 rfl) ?_
            refine vq_put (D := (dC, dI)) (ci := 9) (v := .ref it) (ty := .object "QueryBench$Value") (C := R_Value) (T := F_Value) (N := 10) hx hb hts in_Value t_Value t_Value_ok n_Value hown hK hP hD hS hvi efv rfl 4 (by decide) (hts _ z_330) (fun _ h9 => h9) rfl (by decide +kernel) rfl rfl (Nat.le_of_ble_eq_true rfl) d_JsonReader_members_57 (fun H locs hP hD hS => ?_)
            have hP : va_P (dC, dI) classes ([(jr, .inr (1, [.ref h0, .int dp3, .int md3, .ref lb3])), (h0, .inr (8, [.ref qb, .ref qu, .int uc3, .int ln, .int (nI n), .int (nI p3), .int pl])), (qb, .inl (cB, 4096, .inl bf)), (qu, .inl (cI, 4096, .inl ug3))] ++ va_pl ((L ++ (N ++ N3))) ((va_up f3 v9 (vE kv nv tv mv (some it) av iv none ov sv)))) H := hP
            have hD : va_D A ([(jr, .inr (1, [.ref h0, .int dp3, .int md3, .ref lb3])), (h0, .inr (8, [.ref qb, .ref qu, .int uc3, .int ln, .int (nI n), .int (nI p3), .int pl])), (qb, .inl (cB, 4096, .inl bf)), (qu, .inl (cI, 4096, .inl ug3))] ++ va_pl ((L ++ (N ++ N3))) ((va_up f3 v9 (vE kv nv tv mv (some it) av iv none ov sv)))) := hD
            refine lv_aload hx hb d_JsonReader_members_60 (lv_at hl 0 rfl) ?_
            refine lv_aloadN hx hb d_JsonReader_members_62 (lv_at hl 1 rfl) ?_
            refine vq_put (D := (dC, dI)) (ci := 9) (v := .null) (ty := .array .int) (C := R_Value) (T := F_Value) (N := 10) hx hb hts in_Value t_Value t_Value_ok n_Value hown hK hP hD hS hvi (va_up_self _ _ _) rfl 5 (by decide) (hts _ z_333) (fun _ h9 => h9) rfl (by decide +kernel) rfl rfl (Nat.le_of_ble_eq_true rfl) d_JsonReader_members_64 (fun H locs hP hD hS => ?_)
            rw [bx_uu] at hP hD
            have hP : va_P (dC, dI) classes ([(jr, .inr (1, [.ref h0, .int dp3, .int md3, .ref lb3])), (h0, .inr (8, [.ref qb, .ref qu, .int uc3, .int ln, .int (nI n), .int (nI p3), .int pl])), (qb, .inl (cB, 4096, .inl bf)), (qu, .inl (cI, 4096, .inl ug3))] ++ va_pl ((L ++ (N ++ N3))) ((va_up f3 v9 (vE kv nv tv mv (some it) none iv none ov sv)))) H := hP
            have hD : va_D A ([(jr, .inr (1, [.ref h0, .int dp3, .int md3, .ref lb3])), (h0, .inr (8, [.ref qb, .ref qu, .int uc3, .int ln, .int (nI n), .int (nI p3), .int pl])), (qb, .inl (cB, 4096, .inl bf)), (qu, .inl (cI, 4096, .inl ug3))] ++ va_pl ((L ++ (N ++ N3))) ((va_up f3 v9 (vE kv nv tv mv (some it) none iv none ov sv)))) := hD
            refine lv_aload hx hb d_JsonReader_members_67 (lv_at hl 0 rfl) ?_
            refine lv_iload hx hb d_JsonReader_members_69 (lv_at hl 7 rfl) ?_
            refine vq_put (D := (dC, dI)) (ci := 9) (v := .int (nI ms.length)) (ty := .int) (C := R_Value) (T := F_Value) (N := 10) hx hb hts in_Value t_Value t_Value_ok n_Value hown hK hP hD hS hvi (va_up_self _ _ _) rfl 6 (by decide) (hts _ z_335) (fun _ h9 => h9) rfl (by decide +kernel) rfl rfl (Nat.le_of_ble_eq_true rfl) d_JsonReader_members_71 (fun H locs hP hD hS => ?_)
            rw [bx_uu] at hP hD
            have hP : va_P (dC, dI) classes ([(jr, .inr (1, [.ref h0, .int dp3, .int md3, .ref lb3])), (h0, .inr (8, [.ref qb, .ref qu, .int uc3, .int ln, .int (nI n), .int (nI p3), .int pl])), (qb, .inl (cB, 4096, .inl bf)), (qu, .inl (cI, 4096, .inl ug3))] ++ va_pl ((L ++ (N ++ N3))) ((va_up f3 v9 (vE kv nv tv mv (some it) none (nI ms.length) none ov sv)))) H := hP
            have hD : va_D A ([(jr, .inr (1, [.ref h0, .int dp3, .int md3, .ref lb3])), (h0, .inr (8, [.ref qb, .ref qu, .int uc3, .int ln, .int (nI n), .int (nI p3), .int pl])), (qb, .inl (cB, 4096, .inl bf)), (qu, .inl (cI, 4096, .inl ug3))] ++ va_pl ((L ++ (N ++ N3))) ((va_up f3 v9 (vE kv nv tv mv (some it) none (nI ms.length) none ov sv)))) := hD
            refine lv_iinc (v := nI (ms.length + 1)) (lv' := [(5, .int (nI (ms.length + 1))), (9, .ref v9), (8, .null), (0, .ref jr), (1, .ref it), (2, .int (nI d)), (3, .ref m0), (4, .ref mz), (6, .int mo), (7, .int (nI ms.length))]) hx hb d_JsonReader_members_74 hl (k := 7) rfl (nI_1 _) (by decide) rfl (fun ls hl => ?_)
            refine lv_aload hx hb d_JsonReader_members_77 (lv_at hl 7 rfl) ?_
            refine lv_ifnonnull (tgt := 88) hx hb d_JsonReader_members_79 (by decide) ?_
            refine lv_aload hx hb d_JsonReader_members_88 (lv_at hl 7 rfl) ?_
            refine lv_aload hx hb d_JsonReader_members_90 (lv_at hl 1 rfl) ?_
            refine vq_put (D := (dC, dI)) (ci := 9) (v := .ref v9) (ty := .object "QueryBench$Value") (C := R_Value) (T := F_Value) (N := 10) hx hb hts in_Value t_Value t_Value_ok n_Value hown hK hP hD hS hzi ((va_up_ne _ _ hzv).trans efz) rfl 7 (by decide) (hts _ z_336) (fun _ h9 => h9) rfl (by decide +kernel) rfl rfl (Nat.le_of_ble_eq_true rfl) d_JsonReader_members_92 (fun H locs hP hD hS => ?_)
            have hP : va_P (dC, dI) classes ([(jr, .inr (1, [.ref h0, .int dp3, .int md3, .ref lb3])), (h0, .inr (8, [.ref qb, .ref qu, .int uc3, .int ln, .int (nI n), .int (nI p3), .int pl])), (qb, .inl (cB, 4096, .inl bf)), (qu, .inl (cI, 4096, .inl ug3))] ++ va_pl ((L ++ (N ++ N3))) ((va_up (va_up f3 v9 (vE kv nv tv mv (some it) none (nI ms.length) none ov sv)) mz (vE kz nz tz ez pz az iz (some v9) oz sz9)))) H := hP
            have hD : va_D A ([(jr, .inr (1, [.ref h0, .int dp3, .int md3, .ref lb3])), (h0, .inr (8, [.ref qb, .ref qu, .int uc3, .int ln, .int (nI n), .int (nI p3), .int pl])), (qb, .inl (cB, 4096, .inl bf)), (qu, .inl (cI, 4096, .inl ug3))] ++ va_pl ((L ++ (N ++ N3))) ((va_up (va_up f3 v9 (vE kv nv tv mv (some it) none (nI ms.length) none ov sv)) mz (vE kz nz tz ez pz az iz (some v9) oz sz9)))) := hD
            refine lv_aload hx hb d_JsonReader_members_95 (lv_at hl 1 rfl) ?_
            refine lv_astore (lv' := [(4, .ref v9), (5, .int (nI (ms.length + 1))), (9, .ref v9), (8, .null), (0, .ref jr), (1, .ref it), (2, .int (nI d)), (3, .ref m0), (6, .int mo), (7, .int (nI ms.length))]) hx hb d_JsonReader_members_97 hl (by decide) rfl (fun ls hl => ?_)
            refine lv_aload_n hx hb d_JsonReader_members_99 rfl (lv_at hl 4 rfl) ?_
            refine va_get (D := (dC, dI)) (ci := 1) (v := .ref h0) (C := R_JsonReader) (T := F_JsonReader) (N := 4) hx hb hts in_JsonReader hown hK hP 0 rfl rfl 0 (by decide) (hts _ w_80) (fun _ h9 => h9) rfl d_JsonReader_members_100 ?_
            refine lv_bipush (v := 44) hx hb d_JsonReader_members_103 (by decide) ?_
            have hPc := hP.sub (ws' := [(h0, .inr (8, [.ref qb, .ref qu, .int uc3, .int ln, .int (nI n), .int (nI p3), .int pl])), (qb, .inl (cB, 4096, .inl bf))]) [1, 2] rfl
            have hDc := hD.sub (ws' := [(h0, .inr (8, [.ref qb, .ref qu, .int uc3, .int ln, .int (nI n), .int (nI p3), .int pl])), (qb, .inl (cB, 4096, .inl bf))]) [1, 2] (by decide) rfl
            have hFc := va_free (wc := [(h0, .inr (8, [.ref qb, .ref qu, .int uc3, .int ln, .int (nI n), .int (nI p3), .int pl])), (qb, .inl (cB, 4096, .inl bf))]) hD hS hA [1, 2] rfl
            have hKc := hK.sub (tys' := [(cB, .byte)]) [0] rfl
            refine va_calli (va_runV (As := [.int 44]) (rest := []) ⟨hx, hb, hml, hown, hts⟩ (c_Tape_takeIf l dC dI cB h0 qb H (.ref qu) uc3 ln pl bf n p3 44 hn0 (by omega)) (cwV 1 hts (gt_V (own := R_JsonReader) (C := R_Tape) (i := 95) (y := y_Tape_takeIf) i_Tape_takeIf z_392 z_393 z_394 w_2) rfl rfl rfl (by decide +kernel) ⟨by show 1 + 1 ≤ 14 + 3 * k; omega, by show 8 + (2 + 11) + (20) ≤ 290 + 90 * k; omega⟩) ⟨mp_blind, va_recv hK hP (ci := 8) (q0 := 1) rfl rfl, fun U hU hW => ⟨rfl, hU, by rw [hU]; exact hPc, va_K.moved hW.alike hKc, hDc.weaken (fun _ _ _ _ => trivial)⟩⟩ rfl rfl hl.1 rfl (lv_room (Nat.le_of_ble_eq_true rfl)) d_JsonReader_members_105 ⟨by show ((2 * (p - i)) + 2 * (p3 - p)) + (0) ≤ 2 * (n - i) + 4; omega, by show ((16 * (p - i) - ms.length) + (16 * (p3 - p) - 1)) + (0) ≤ 16 * (n - i) + 40; omega⟩) hS (fun q _ h => hFc q h) hFc (fun r23 u23 t9 H1 locs ht hvm hw hB hz1 hk1 hS => ?_)
            obtain ⟨hP1, hK1, hD1⟩ := hB
            rw [ht] at hP1
            obtain ⟨hP, hD⟩ := va_joinQ (wr := [(jr, .inr (1, [.ref h0, .int dp3, .int md3, .ref lb3])), (qu, .inl (cI, 4096, .inl ug3))]) (w1 := [(h0, .inr (8, [.ref qb, .ref qu, .int uc3, .int ln, .int (nI n), .int (nI u23), .int pl])), (qb, .inl (cB, 4096, .inl bf))]) hP hD [1, 2] [0, 3] rfl rfl (by decide) (by decide) hk1 hFc hP1 hD1
            generalize H1 = H at hP hS ⊢
            have hP : va_P (dC, dI) classes ([(jr, .inr (1, [.ref h0, .int dp3, .int md3, .ref lb3])), (qu, .inl (cI, 4096, .inl ug3)), (h0, .inr (8, [.ref qb, .ref qu, .int uc3, .int ln, .int (nI n), .int (nI u23), .int pl])), (qb, .inl (cB, 4096, .inl bf))] ++ va_pl ((L ++ (N ++ N3))) ((va_up (va_up f3 v9 (vE kv nv tv mv (some it) none (nI ms.length) none ov sv)) mz (vE kz nz tz ez pz az iz (some v9) oz sz9)))) H := hP
            have hD : va_D A ([(jr, .inr (1, [.ref h0, .int dp3, .int md3, .ref lb3])), (qu, .inl (cI, 4096, .inl ug3)), (h0, .inr (8, [.ref qb, .ref qu, .int uc3, .int ln, .int (nI n), .int (nI u23), .int pl])), (qb, .inl (cB, 4096, .inl bf))] ++ va_pl ((L ++ (N ++ N3))) ((va_up (va_up f3 v9 (vE kv nv tv mv (some it) none (nI ms.length) none ov sv)) mz (vE kz nz tz ez pz az iz (some v9) oz sz9)))) := hD
            have hP := hP.part (cx := [(jr, .inr (1, [.ref h0, .int dp3, .int md3, .ref lb3])), (h0, .inr (8, [.ref qb, .ref qu, .int uc3, .int ln, .int (nI n), .int (nI u23), .int pl])), (qb, .inl (cB, 4096, .inl bf)), (qu, .inl (cI, 4096, .inl ug3))]) [0, 2, 3, 1] rfl
            have hD := hD.part (cx := [(jr, .inr (1, [.ref h0, .int dp3, .int md3, .ref lb3])), (h0, .inr (8, [.ref qb, .ref qu, .int uc3, .int ln, .int (nI n), .int (nI u23), .int pl])), (qb, .inl (cB, 4096, .inl bf)), (qu, .inl (cI, 4096, .inl ug3))]) [0, 2, 3, 1] (by decide) rfl
            rcases hw with ⟨ht23, hr23, hu23⟩ | ⟨ht23, hr23, hu23⟩
            · have hu23 : u23 = p3 + 1 := hu23
              subst hr23
              rw [hu23] at hP hD
              have hl23 := here_lc ht23 (by decide)
              have hP : va_P (dC, dI) classes ([(jr, .inr (1, [.ref h0, .int dp3, .int md3, .ref lb3])), (h0, .inr (8, [.ref qb, .ref qu, .int uc3, .int ln, .int (nI n), .int (nI (p3 + 1)), .int pl])), (qb, .inl (cB, 4096, .inl bf)), (qu, .inl (cI, 4096, .inl ug3))] ++ va_pl ((L ++ (N ++ N3))) ((va_up (va_up f3 v9 (vE kv nv tv mv (some it) none (nI ms.length) none ov sv)) mz (vE kz nz tz ez pz az iz (some v9) oz sz9)))) H := hP
              have hD : va_D A ([(jr, .inr (1, [.ref h0, .int dp3, .int md3, .ref lb3])), (h0, .inr (8, [.ref qb, .ref qu, .int uc3, .int ln, .int (nI n), .int (nI (p3 + 1)), .int pl])), (qb, .inl (cB, 4096, .inl bf)), (qu, .inl (cI, 4096, .inl ug3))] ++ va_pl ((L ++ (N ++ N3))) ((va_up (va_up f3 v9 (vE kv nv tv mv (some it) none (nI ms.length) none ov sv)) mz (vE kz nz tz ez pz az iz (some v9) oz sz9)))) := hD
              refine lv_istore (lv' := [(6, .int 1), (4, .ref v9), (5, .int (nI (ms.length + 1))), (9, .ref v9), (8, .null), (0, .ref jr), (1, .ref it), (2, .int (nI d)), (3, .ref m0), (7, .int (nI ms.length))]) hx hb d_JsonReader_members_108 hl (by decide) rfl (fun ls hl => ?_)
              refine lv_iinc (v := nI (ms.length + 1)) (lv' := [(7, .int (nI (ms.length + 1))), (6, .int 1), (4, .ref v9), (5, .int (nI (ms.length + 1))), (9, .ref v9), (8, .null), (0, .ref jr), (1, .ref it), (2, .int (nI d)), (3, .ref m0)]) hx hb d_JsonReader_members_110 hl (k := 9) rfl (nI_1 _) (by decide) rfl (fun ls hl => ?_)
              refine lv_goto (tgt := 14) hx hb d_JsonReader_members_113 (by decide) ?_
              have hs4 : (2 = 2 ∧ ¬ kd = 6) ∨ (2 = 3 ∧ kd = 6) := Or.inl ⟨rfl, c33⟩
              obtain ⟨hE4, hO4⟩ := PO.mem1st (s := 2) (na' := none) (ix' := nI ms.length) hO3 hv2 efv (it := it) (Or.inl hi3) (fun b h => (nomatch h)) (Or.inl rfl)
              rw [List.append_assoc] at hO4
              have hEz : va_up E3 v9 2 mz = 3 → va_up E3 v9 2 v9 = 3 := fun h9 => absurd h9 (by rw [va_up_ne _ _ hzv]; exact hz23)
              have hO5 := PO.linkz hO4 (hE4.v (hx3.el.v (hx2.el.v hz0.2.1))) (hE4.v (Or.inr (Or.inl hv2))) ((va_up_ne _ _ hzv).trans efz) hEz
              have e9 : nmF (va_up (va_up f3 v9 (vE kv nv tv mv (some it) none (nI ms.length) none ov sv)) mz (vE kz nz tz ez pz az iz (some v9) oz sz9)) v9 = none := by
                have e8 : nmF (va_up (va_up f3 v9 (vE kv nv tv mv (some it) none (nI ms.length) none ov sv)) mz (vE kz nz tz ez pz az iz (some v9) oz sz9)) v9 = nmF (va_up f3 v9 (vE kv nv tv mv (some it) none (nI ms.length) none ov sv)) v9 := by unfold nmF; rw [va_up_ne _ _ (Ne.symm hzv)]
                rw [e8]
                exact nmF_v (va_up_self _ _ _)
              have hLn := hLJ.next hit (by omega) hx2 hn2 hf2 hO2 hJ hs4 hE4 hO5 (fun a hav haz => by rw [va_up_ne _ _ (show a ≠ mz from fun e => haz (by rw [e]; exact hmz)), va_up_ne _ _ hav]) e9 (fun z hz => by obtain rfl := Option.some.inj (hmz.symm.trans hz); exact nmF_v (va_up_self _ _ _)) (p4 := (p3 + 1)) (by omega) (by omega) (by omega)
              have hMn := hMI.next c24 hc4 hnm9 hjv hdp3 (v := v9) (f4 := (va_up (va_up f3 v9 (vE kv nv tv mv (some it) none (nI ms.length) none ov sv)) mz (vE kz nz tz ez pz az iz (some v9) oz sz9))) (fun h => absurd h c33) (p4 := (p3 + 1)) (mo4 := 1) (Or.inl ⟨rfl, ht23, rfl⟩)
              have hKn := KSd.next (X := []) hO1 hKS hLJ.ex hit hx2 hf2 hO3 hx3 hJ.2.2.2.2.2.1 hLJ.lbv (fun a ha => by obtain ⟨j9, hj9⟩ := List.getElem?_of_mem ha; exact ⟨(hLJ.chn j9 a hj9).2.1, (hLJ.chn j9 a hj9).2.2.1.1⟩) hOB (s := 2) (Or.inl rfl) (fun a hav haz => by rw [va_up_ne _ _ (show a ≠ mz from fun e => haz (by rw [e]; exact hmz)), va_up_ne _ _ hav]) ⟨kv, nv, tv, mv, pv, av, iv, none, ov, sv, some it, none, nI ms.length, efv, (va_up_ne _ _ (Ne.symm hzv)).trans (va_up_self _ _ _)⟩ (fun z hz => by obtain rfl := Option.some.inj (hmz.symm.trans hz); exact ⟨kz, nz, tz, ez, pz, az, iz, mz2, some v9, oz, sz9, efz, va_up_self _ _ _⟩) (fun h => absurd h c33) (UPf.v (nu := nv) (kd := kv) (show (va_up (va_up f3 v9 (vE kv nv tv mv (some it) none (nI ms.length) none ov sv)) mz (vE kz nz tz ez pz az iz (some v9) oz sz9)) v9 = vE kv nv tv mv (some it) none (nI ms.length) none ov sv from (va_up_ne _ _ (Ne.symm hzv)).trans (va_up_self _ _ _)) (fun _ => rfl))
              have hlen : (ms ++ [v9]).length = ms.length + 1 := by rw [List.length_append]; rfl
              have hl0 : (ms ++ [v9])[0]? = some m0 := by rw [List.getElem?_append_left hm]; exact hm0
              have hlz : (ms ++ [v9])[(ms ++ [v9]).length - 1]? = some v9 := by rw [hlen, Nat.add_sub_cancel, List.getElem?_append_right (Nat.le_refl _), Nat.sub_self]; rfl
              have hl : lv_has ls 10 [(7, .int (nI (ms ++ [v9]).length)), (6, .int 1), (4, va_rf ((ms ++ [v9])[(ms ++ [v9]).length - 1]?)), (5, .int (nI (ms ++ [v9]).length)), (9, .ref v9), (8, .null), (0, .ref jr), (1, .ref it), (2, .int (nI d)), (3, va_rf ((ms ++ [v9])[0]?))] := by rw [hl0, hlz, hlen]; exact hl
              refine w_same (fun hq => ?_)
              refine W.widen (k := 2 * (n - i) + 4) (n := 16 * (n - i) + 40) (by show ((2 * (p - i)) + 2 * (p3 - p)) ≤ 2 * (n - i) + 4; omega) (by show ((16 * (p - i) - ms.length) + (16 * (p3 - p) - 1)) ≤ 16 * (n - i) + 40; omega) ?_
              exact ih ((ms ++ [v9]), 1, (p3 + 1), N ++ N3, va_up E3 v9 2, (va_up (va_up f3 v9 (vE kv nv tv mv (some it) none (nI ms.length) none ov sv)) mz (vE kz nz tz ez pz az iz (some v9) oz sz9)), uc3, ug3, dp3, md3, lb3, acc ++ [([], xv)], ct + c3) _ _ _ ⟨hLn, hMn, hq.mono (by show ((2 * (p - i)) + 2 * (p3 - p)) ≤ 2 * ((p3 + 1) - i); omega) (by show ((16 * (p - i) - ms.length) + (16 * (p3 - p) - 1)) ≤ 16 * ((p3 + 1) - i) - (ms ++ [v9]).length; omega), hKn, hmd3⟩ (by show 4097 - (ms ++ [v9]).length < 4097 - ms.length; omega) hP hD hS (lv_sub hl [6, 7, 8, 9, 2, 3, 1, 0] rfl)
            · have hu23 : u23 = p3 := hu23
              subst hr23
              rw [hu23] at hP hD
              have hP : va_P (dC, dI) classes ([(jr, .inr (1, [.ref h0, .int dp3, .int md3, .ref lb3])), (h0, .inr (8, [.ref qb, .ref qu, .int uc3, .int ln, .int (nI n), .int (nI p3), .int pl])), (qb, .inl (cB, 4096, .inl bf)), (qu, .inl (cI, 4096, .inl ug3))] ++ va_pl ((L ++ (N ++ N3))) ((va_up (va_up f3 v9 (vE kv nv tv mv (some it) none (nI ms.length) none ov sv)) mz (vE kz nz tz ez pz az iz (some v9) oz sz9)))) H := hP
              have hD : va_D A ([(jr, .inr (1, [.ref h0, .int dp3, .int md3, .ref lb3])), (h0, .inr (8, [.ref qb, .ref qu, .int uc3, .int ln, .int (nI n), .int (nI p3), .int pl])), (qb, .inl (cB, 4096, .inl bf)), (qu, .inl (cI, 4096, .inl ug3))] ++ va_pl ((L ++ (N ++ N3))) ((va_up (va_up f3 v9 (vE kv nv tv mv (some it) none (nI ms.length) none ov sv)) mz (vE kz nz tz ez pz az iz (some v9) oz sz9)))) := hD
              refine lv_istore (lv' := [(6, .int 0), (4, .ref v9), (5, .int (nI (ms.length + 1))), (9, .ref v9), (8, .null), (0, .ref jr), (1, .ref it), (2, .int (nI d)), (3, .ref m0), (7, .int (nI ms.length))]) hx hb d_JsonReader_members_108 hl (by decide) rfl (fun ls hl => ?_)
              refine lv_iinc (v := nI (ms.length + 1)) (lv' := [(7, .int (nI (ms.length + 1))), (6, .int 0), (4, .ref v9), (5, .int (nI (ms.length + 1))), (9, .ref v9), (8, .null), (0, .ref jr), (1, .ref it), (2, .int (nI d)), (3, .ref m0)]) hx hb d_JsonReader_members_110 hl (k := 9) rfl (nI_1 _) (by decide) rfl (fun ls hl => ?_)
              refine lv_goto (tgt := 14) hx hb d_JsonReader_members_113 (by decide) ?_
              have hs4 : (2 = 2 ∧ ¬ kd = 6) ∨ (2 = 3 ∧ kd = 6) := Or.inl ⟨rfl, c33⟩
              obtain ⟨hE4, hO4⟩ := PO.mem1st (s := 2) (na' := none) (ix' := nI ms.length) hO3 hv2 efv (it := it) (Or.inl hi3) (fun b h => (nomatch h)) (Or.inl rfl)
              rw [List.append_assoc] at hO4
              have hEz : va_up E3 v9 2 mz = 3 → va_up E3 v9 2 v9 = 3 := fun h9 => absurd h9 (by rw [va_up_ne _ _ hzv]; exact hz23)
              have hO5 := PO.linkz hO4 (hE4.v (hx3.el.v (hx2.el.v hz0.2.1))) (hE4.v (Or.inr (Or.inl hv2))) ((va_up_ne _ _ hzv).trans efz) hEz
              have e9 : nmF (va_up (va_up f3 v9 (vE kv nv tv mv (some it) none (nI ms.length) none ov sv)) mz (vE kz nz tz ez pz az iz (some v9) oz sz9)) v9 = none := by
                have e8 : nmF (va_up (va_up f3 v9 (vE kv nv tv mv (some it) none (nI ms.length) none ov sv)) mz (vE kz nz tz ez pz az iz (some v9) oz sz9)) v9 = nmF (va_up f3 v9 (vE kv nv tv mv (some it) none (nI ms.length) none ov sv)) v9 := by unfold nmF; rw [va_up_ne _ _ (Ne.symm hzv)]
                rw [e8]
                exact nmF_v (va_up_self _ _ _)
              have hLn := hLJ.next hit (by omega) hx2 hn2 hf2 hO2 hJ hs4 hE4 hO5 (fun a hav haz => by rw [va_up_ne _ _ (show a ≠ mz from fun e => haz (by rw [e]; exact hmz)), va_up_ne _ _ hav]) e9 (fun z hz => by obtain rfl := Option.some.inj (hmz.symm.trans hz); exact nmF_v (va_up_self _ _ _)) (p4 := p3) (by omega) (by omega) (by omega)
              have hMn := hMI.next c24 hc4 hnm9 hjv hdp3 (v := v9) (f4 := (va_up (va_up f3 v9 (vE kv nv tv mv (some it) none (nI ms.length) none ov sv)) mz (vE kz nz tz ez pz az iz (some v9) oz sz9))) (fun h => absurd h c33) (p4 := p3) (mo4 := 0) (Or.inr ⟨rfl, ht23, rfl⟩)
              have hKn := KSd.next (X := []) hO1 hKS hLJ.ex hit hx2 hf2 hO3 hx3 hJ.2.2.2.2.2.1 hLJ.lbv (fun a ha => by obtain ⟨j9, hj9⟩ := List.getElem?_of_mem ha; exact ⟨(hLJ.chn j9 a hj9).2.1, (hLJ.chn j9 a hj9).2.2.1.1⟩) hOB (s := 2) (Or.inl rfl) (fun a hav haz => by rw [va_up_ne _ _ (show a ≠ mz from fun e => haz (by rw [e]; exact hmz)), va_up_ne _ _ hav]) ⟨kv, nv, tv, mv, pv, av, iv, none, ov, sv, some it, none, nI ms.length, efv, (va_up_ne _ _ (Ne.symm hzv)).trans (va_up_self _ _ _)⟩ (fun z hz => by obtain rfl := Option.some.inj (hmz.symm.trans hz); exact ⟨kz, nz, tz, ez, pz, az, iz, mz2, some v9, oz, sz9, efz, va_up_self _ _ _⟩) (fun h => absurd h c33) (UPf.v (nu := nv) (kd := kv) (show (va_up (va_up f3 v9 (vE kv nv tv mv (some it) none (nI ms.length) none ov sv)) mz (vE kz nz tz ez pz az iz (some v9) oz sz9)) v9 = vE kv nv tv mv (some it) none (nI ms.length) none ov sv from (va_up_ne _ _ (Ne.symm hzv)).trans (va_up_self _ _ _)) (fun _ => rfl))
              have hlen : (ms ++ [v9]).length = ms.length + 1 := by rw [List.length_append]; rfl
              have hl0 : (ms ++ [v9])[0]? = some m0 := by rw [List.getElem?_append_left hm]; exact hm0
              have hlz : (ms ++ [v9])[(ms ++ [v9]).length - 1]? = some v9 := by rw [hlen, Nat.add_sub_cancel, List.getElem?_append_right (Nat.le_refl _), Nat.sub_self]; rfl
              have hl : lv_has ls 10 [(7, .int (nI (ms ++ [v9]).length)), (6, .int 0), (4, va_rf ((ms ++ [v9])[(ms ++ [v9]).length - 1]?)), (5, .int (nI (ms ++ [v9]).length)), (9, .ref v9), (8, .null), (0, .ref jr), (1, .ref it), (2, .int (nI d)), (3, va_rf ((ms ++ [v9])[0]?))] := by rw [hl0, hlz, hlen]; exact hl
              refine w_same (fun hq => ?_)
              refine W.widen (k := 2 * (n - i) + 4) (n := 16 * (n - i) + 40) (by show ((2 * (p - i)) + 2 * (p3 - p)) ≤ 2 * (n - i) + 4; omega) (by show ((16 * (p - i) - ms.length) + (16 * (p3 - p) - 1)) ≤ 16 * (n - i) + 40; omega) ?_
              exact ih ((ms ++ [v9]), 0, p3, N ++ N3, va_up E3 v9 2, (va_up (va_up f3 v9 (vE kv nv tv mv (some it) none (nI ms.length) none ov sv)) mz (vE kz nz tz ez pz az iz (some v9) oz sz9)), uc3, ug3, dp3, md3, lb3, acc ++ [([], xv)], ct + c3) _ _ _ ⟨hLn, hMn, hq.mono (by show ((2 * (p - i)) + 2 * (p3 - p)) ≤ 2 * (p3 - i); omega) (by show ((16 * (p - i) - ms.length) + (16 * (p3 - p) - 1)) ≤ 16 * (p3 - i) - (ms ++ [v9]).length; omega), hKn, hmd3⟩ (by show 4097 - (ms ++ [v9]).length < 4097 - ms.length; omega) hP hD hS (lv_sub hl [6, 7, 8, 9, 2, 3, 1, 0] rfl)
        · refine lv_aload_n hx hb d_JsonReader_members_36 rfl (lv_at hl 0 rfl) ?_
          refine lv_aload_n hx hb d_JsonReader_members_37 rfl (lv_at hl 3 rfl) ?_
          have hPc := hP.part (cx := [(jr, .inr (1, [.ref h0, .int dp, .int md, .ref lb])), (h0, .inr (8, [.ref qb, .ref qu, .int uc, .int ln, .int (nI n), .int (nI p), .int pl])), (qb, .inl (cB, 4096, .inl bf)), (qu, .inl (cI, 4096, .inl ug))]) [0, 1, 2, 3] rfl
          have hDc := hD.part (cx := [(jr, .inr (1, [.ref h0, .int dp, .int md, .ref lb])), (h0, .inr (8, [.ref qb, .ref qu, .int uc, .int ln, .int (nI n), .int (nI p), .int pl])), (qb, .inl (cB, 4096, .inl bf)), (qu, .inl (cI, 4096, .inl ug))]) [0, 1, 2, 3] (by decide) rfl
          have hFc := va_freeP (cx := [(jr, .inr (1, [.ref h0, .int dp, .int md, .ref lb])), (h0, .inr (8, [.ref qb, .ref qu, .int uc, .int ln, .int (nI n), .int (nI p), .int pl])), (qb, .inl (cB, 4096, .inl bf)), (qu, .inl (cI, 4096, .inl ug))]) hD hS hA [0, 1, 2, 3] rfl
          have hKc := hK.sub (tys' := [(cB, .byte), (cI, .int), (cV, .object "QueryBench$Value")]) [0, 1, 2] rfl
          refine w_same (fun hq0 => ?_)
          refine vx_callr (vx_runV (As := [.ref m0]) (rest := []) ⟨hx, hb, hml, hown, hts⟩ (c_JsonReader_newName l hl9 K dC dI H cI cV E1 lv (L ++ N) f1 hO1 cB h0 qb qu uc ln pl bf ug n p hn0 (by omega) jr dp md (some lb) (some m0) ms hm0.symm (fun j a h => ⟨(hLJ.chn j a h).1, (hLJ.chn j a h).2.1, (hLJ.chn j a h).2.2.1.2.2.1 c33, (hLJ.chn j a h).2.2.2⟩) (acc.map (·.1)) (hMI.2.2.2 c33)) (cwV 1 hts (gt_V (own := R_JsonReader) (C := R_JsonReader) (i := 119) (y := y_JsonReader_newName) i_JsonReader_newName z_401 z_403 (gt_sel (y := y_JsonReader_newName) (n := 4) (by decide +kernel)) w_3) rfl rfl rfl (by decide +kernel) ⟨by show 11 + 1 ≤ 14 + 3 * k; omega, by show 8 + (5 + 11) + (200) ≤ 290 + 90 * k; omega⟩) ⟨ml_blind, va_recv hK hP (ci := 1) (q0 := 0) rfl rfl, fun U hU hW => ⟨rfl, ⟨hU, by rw [hU]; exact hPc, va_K.moved hW.alike hKc, hDc.weaken (fun _ _ _ _ => trivial)⟩, hN.warm hW, by rw [hU]; exact ZX.moved' hW.alike (ZX.narrow' (ZX.kept' hZ hS.2.1) hFc), by rw [hU]; exact CE.call hC hS.2.1 hFc hW, va_AO.moved hW.alike hV⟩⟩ rfl rfl hl.1 rfl (lv_room (Nat.le_of_ble_eq_true rfl)) d_JsonReader_members_38 ⟨by show (2 * (p - i)) + (2) ≤ 2 * (n - i) + 4; omega, by show (16 * (p - i) - ms.length) + (12 + (n - p)) ≤ 16 * (n - i) + 40; omega⟩) hS (fun q _ h => hFc q h) hFc (fun q _ h => hFc q h) (fun En ce q9 ⟨ax, cx, px, gx⟩ t9 H1 locs ht hvm hw hB hz1 hk1 hS hce hcv hcl => ?_) (fun ⟨nr, p2, uc2, ug2, E2, f2⟩ nr0 t9 H1 locs ht hvm hw hB hz1 hk1 hS => ?_)
          · obtain ⟨hEn, hP1, hK1, hD1⟩ := hB
            rw [ht] at hP1
            obtain ⟨hP, hD⟩ := va_joinP (wr := []) (rx := [(jr, .inr (1, [.ref h0, .int dp, .int md, .ref lb])), (h0, .inr (8, [.ref qb, .ref qu, .int cx, .int ln, .int (nI n), .int ax, .int px])), (qb, .inl (cB, 4096, .inl bf)), (qu, .inl (cI, 4096, .inl gx))]) (pl1 := va_pl ((L ++ N)) f1) hP hD [0, 1, 2, 3] [] rfl rfl (by decide) (by decide) hk1 hFc hP1 hD1
            generalize H1 = H at hP hS hce ⊢
            have hP : va_P (dC, dI) classes ([(jr, .inr (1, [.ref h0, .int dp, .int md, .ref lb])), (h0, .inr (8, [.ref qb, .ref qu, .int cx, .int ln, .int (nI n), .int ax, .int px])), (qb, .inl (cB, 4096, .inl bf)), (qu, .inl (cI, 4096, .inl gx))] ++ va_pl ((L ++ N)) f1) H := hP
            have hD : va_D A ([(jr, .inr (1, [.ref h0, .int dp, .int md, .ref lb])), (h0, .inr (8, [.ref qb, .ref qu, .int cx, .int ln, .int (nI n), .int ax, .int px])), (qb, .inl (cB, 4096, .inl bf)), (qu, .inl (cI, 4096, .inl gx))] ++ va_pl ((L ++ N)) f1) := hD
            have hP := plP_pre hP
            have hD := plD_pre hD
            have hno := hMI.bad1 c24 hc4 (jNm_1 c33 (show jNam bf n (acc.map (·.1)) p = none from hw))
            exact vx_out (fun x hx => (hex x hx).elim) hlocks hce hcv hcl (fun t9 ht2 ha => ⟨(ax, cx, px, gx, dp, md, some lb, f1), ⟨hLJ.old, hno⟩, ⟨hEn, by rw [ht2]; exact hP, va_K.moved ha hK, hD⟩, hS.F ht2⟩) hS.2.2 (by show (2 * (p - i)) + (2) ≤ 2 * (n - i) + 4; omega) (by show (16 * (p - i) - ms.length) + (12 + (n - p)) ≤ 16 * (n - i) + 40; omega)
          · obtain ⟨⟨hP1, hK1, hD1⟩, hz9, ha9⟩ := hB
            rw [ht] at hP1
            rw [ht] at hz9
            have ha9 : nr0 = nr := ha9
            subst ha9
            have hq0 : szk s.heap H1 ((2 * (p - i)) + 1) ((16 * (p - i) - ms.length) + (p2 - p)) := (hq0.trans hz9).mono (Nat.le_refl _) (Nat.le_refl _)
            refine w_tight hq0 ?_
            obtain ⟨hP, hD⟩ := va_joinP (wr := []) (rx := [(jr, .inr (1, [.ref h0, .int dp, .int md, .ref lb])), (h0, .inr (8, [.ref qb, .ref qu, .int uc2, .int ln, .int (nI n), .int (nI p2), .int pl])), (qb, .inl (cB, 4096, .inl bf)), (qu, .inl (cI, 4096, .inl ug2))]) (pl1 := va_pl (((L ++ N) ++ [nr0])) f2) hP hD [0, 1, 2, 3] [] rfl rfl (by decide) (by decide) hk1 hFc hP1 hD1
            generalize H1 = H at hP hS hq0 ⊢
            have hP : va_P (dC, dI) classes ([(jr, .inr (1, [.ref h0, .int dp, .int md, .ref lb])), (h0, .inr (8, [.ref qb, .ref qu, .int uc2, .int ln, .int (nI n), .int (nI p2), .int pl])), (qb, .inl (cB, 4096, .inl bf)), (qu, .inl (cI, 4096, .inl ug2))] ++ va_pl (((L ++ N) ++ [nr0])) f2) H := hP
            have hD : va_D A ([(jr, .inr (1, [.ref h0, .int dp, .int md, .ref lb])), (h0, .inr (8, [.ref qb, .ref qu, .int uc2, .int ln, .int (nI n), .int (nI p2), .int pl])), (qb, .inl (cB, 4096, .inl bf)), (qu, .inl (cI, 4096, .inl ug2))] ++ va_pl (((L ++ N) ++ [nr0])) f2) := hD
            obtain ⟨hp2a, hp2b, hO2, hr0, hx2, hr4, hf2, hn2, hjn⟩ := hw
            have hnm9 := jNm_1 c33 (show jNam bf n (acc.map (·.1)) p = some (txL f2 nr0, p2) from hjn)
            have hp2a : p + 2 ≤ p2 := hp2a
            have hp2b : p2 ≤ n := hp2b
            have hr4 : E2 nr0 = 4 := hr4
            have hx2 : EX E1 E2 := hx2
            have hf2 : ∀ a, E1 a ≠ 0 → f2 a = f1 a := hf2
            have hn2 : ∀ a, E1 a = 0 → E2 a ≠ 1 := hn2
            have hO2 : PO cI cV E2 lv ((L ++ N) ++ [nr0]) f2 := hO2
            rw [List.append_assoc] at hP hD hO2
            have hP : va_P (dC, dI) classes ([(jr, .inr (1, [.ref h0, .int dp, .int md, .ref lb])), (h0, .inr (8, [.ref qb, .ref qu, .int uc2, .int ln, .int (nI n), .int (nI p2), .int pl])), (qb, .inl (cB, 4096, .inl bf)), (qu, .inl (cI, 4096, .inl ug2))] ++ va_pl ((L ++ (N ++ [nr0]))) f2) H := hP
            have hD : va_D A ([(jr, .inr (1, [.ref h0, .int dp, .int md, .ref lb])), (h0, .inr (8, [.ref qb, .ref qu, .int uc2, .int ln, .int (nI n), .int (nI p2), .int pl])), (qb, .inl (cB, 4096, .inl bf)), (qu, .inl (cI, 4096, .inl ug2))] ++ va_pl ((L ++ (N ++ [nr0]))) f2) := hD
            refine lv_goto (tgt := 45) hx hb d_JsonReader_members_41 (by decide) ?_
            refine lv_astore (lv' := [(8, .ref nr0), (0, .ref jr), (1, .ref it), (2, .int (nI d)), (3, .ref m0), (4, .ref mz), (5, .int (nI ms.length)), (6, .int mo), (7, .int (nI ms.length))]) hx hb d_JsonReader_members_45 hl (by decide) rfl (fun ls hl => ?_)
            refine lv_aload_n hx hb d_JsonReader_members_47 rfl (lv_at hl 1 rfl) ?_
            refine lv_iload_n hx hb d_JsonReader_members_48 rfl (lv_at hl 3 rfl) ?_
            obtain ⟨D9, hD9⟩ : ∃ z, z = max D (d + dpK (dpJ (k - 1)) acc) := ⟨_, rfl⟩
            have hdp9 : dp = nI D9 := by rw [hD9]; exact hMI.2.2.1
            have hdq9 := dpK_le (dpJ_le (k - 1)) acc
            have hlbv : oR (isV E2) (some lb) := fun b h => by cases h; exact hx2.el.v hLJ.lbv
            have hPc := hP.part (cx := [(jr, .inr (1, [.ref h0, .int dp, .int md, .ref lb])), (h0, .inr (8, [.ref qb, .ref qu, .int uc2, .int ln, .int (nI n), .int (nI p2), .int pl])), (qb, .inl (cB, 4096, .inl bf)), (qu, .inl (cI, 4096, .inl ug2))]) [0, 1, 2, 3] rfl
            have hDc := hD.part (cx := [(jr, .inr (1, [.ref h0, .int dp, .int md, .ref lb])), (h0, .inr (8, [.ref qb, .ref qu, .int uc2, .int ln, .int (nI n), .int (nI p2), .int pl])), (qb, .inl (cB, 4096, .inl bf)), (qu, .inl (cI, 4096, .inl ug2))]) [0, 1, 2, 3] (by decide) rfl
            have hFc := va_freeP (cx := [(jr, .inr (1, [.ref h0, .int dp, .int md, .ref lb])), (h0, .inr (8, [.ref qb, .ref qu, .int uc2, .int ln, .int (nI n), .int (nI p2), .int pl])), (qb, .inl (cB, 4096, .inl bf)), (qu, .inl (cI, 4096, .inl ug2))]) hD hS hA [0, 1, 2, 3] rfl
            have hKc := hK.sub (tys' := [(cB, .byte), (cI, .int), (cV, .object "QueryBench$Value")]) [0, 1, 2] rfl
            refine w_same (fun hq0 => ?_)
            refine vx_callr (vx_runV (As := [.int (nI d)]) (rest := []) ⟨hx, hb, hml, hown, hts⟩ (HV hk9 H E2 (L ++ (N ++ [nr0])) f2 p2 uc2 pl ug2 dp md (some lb) D9 hO2 hlbv (by omega) hdp9 (by omega) (by omega)) (cwV 1 hts (gt_V (own := R_JsonReader) (C := R_JsonReader) (i := 26) (y := y_JsonReader_value) i_JsonReader_value z_294 z_296 (gt_sel (y := y_JsonReader_value) (n := 4) (by decide +kernel)) w_3) rfl rfl rfl (by decide +kernel) ⟨by show 16 + 3 * (k - 1) + 1 ≤ 14 + 3 * k; omega, by show 8 + (4 + 11) + (350 + 90 * (k - 1)) ≤ 290 + 90 * k; omega⟩) ⟨ml_blind, va_recv hK hP (ci := 1) (q0 := 0) rfl rfl, fun U hU hW => ⟨rfl, ⟨hU, by rw [hU]; exact hPc, va_K.moved hW.alike hKc, hDc.weaken (fun _ _ _ _ => trivial)⟩, hN.warm hW, by rw [hU]; exact ZX.moved' hW.alike (ZX.narrow' (ZX.kept' hZ hS.2.1) hFc), by rw [hU]; exact CE.call hC hS.2.1 hFc hW, va_AO.moved hW.alike hV⟩⟩ rfl rfl hl.1 rfl (lv_room (Nat.le_of_ble_eq_true rfl)) d_JsonReader_members_49 ⟨by show ((2 * (p - i)) + 1) + (2 * (n - p2) + 4) ≤ 2 * (n - i) + 4; omega, by show ((16 * (p - i) - ms.length) + (p2 - p)) + (16 * (n - p2) + 40) ≤ 16 * (n - i) + 40; omega⟩) hS (fun q _ h => hFc q h) hFc (fun q _ h => hFc q h) (fun En ce q9 ⟨ax, cx, px, gx, dx, mx, lx, fx⟩ t9 H1 locs ht hvm hw hB hz1 hk1 hS hce hcv hcl => ?_) (fun ⟨v3, p3, N3, E3, f3, uc3, ug3, dp3, md3, lb3⟩ v9 t9 H1 locs ht hvm hw hB hz1 hk1 hS => ?_)
            · obtain ⟨hEn, hP1, hK1, hD1⟩ := hB
              rw [ht] at hP1
              obtain ⟨hP, hD⟩ := va_joinP (wr := []) (rx := [(jr, .inr (1, [.ref h0, .int dx, .int mx, va_rf lx])), (h0, .inr (8, [.ref qb, .ref qu, .int cx, .int ln, .int (nI n), .int ax, .int px])), (qb, .inl (cB, 4096, .inl bf)), (qu, .inl (cI, 4096, .inl gx))]) (pl1 := va_pl ((L ++ (N ++ [nr0]))) fx) hP hD [0, 1, 2, 3] [] rfl rfl (by decide) (by decide) hk1 hFc hP1 hD1
              generalize H1 = H at hP hS hce ⊢
              have hP : va_P (dC, dI) classes ([(jr, .inr (1, [.ref h0, .int dx, .int mx, va_rf lx])), (h0, .inr (8, [.ref qb, .ref qu, .int cx, .int ln, .int (nI n), .int ax, .int px])), (qb, .inl (cB, 4096, .inl bf)), (qu, .inl (cI, 4096, .inl gx))] ++ va_pl ((L ++ (N ++ [nr0]))) fx) H := hP
              have hD : va_D A ([(jr, .inr (1, [.ref h0, .int dx, .int mx, va_rf lx])), (h0, .inr (8, [.ref qb, .ref qu, .int cx, .int ln, .int (nI n), .int ax, .int px])), (qb, .inl (cB, 4096, .inl bf)), (qu, .inl (cI, 4096, .inl gx))] ++ va_pl ((L ++ (N ++ [nr0]))) fx) := hD
              have hP := plP_pre hP
              have hD := plD_pre hD
              have hkx := hLJ.thr hx2 hf2 (show ∀ a, E2 a ≠ 0 → some lb ≠ some a → fx a = f2 a from hw.1)
              have hno := hMI.bad2 c24 hc4 hnm9 (show jV bf n (k - 1) p2 = none from hw.2)
              exact vx_out (fun x hx => (hex x hx).elim) hlocks hce hcv hcl (fun t9 ht2 ha => ⟨(ax, cx, px, gx, dx, mx, lx, fx), ⟨hkx, hno⟩, ⟨hEn, by rw [ht2]; exact hP, va_K.moved ha hK, hD⟩, hS.F ht2⟩) hS.2.2 (by show ((2 * (p - i)) + 1) + (2 * (n - p2) + 4) ≤ 2 * (n - i) + 4; omega) (by show ((16 * (p - i) - ms.length) + (p2 - p)) + (16 * (n - p2) + 40) ≤ 16 * (n - i) + 40; omega)
            · obtain ⟨⟨hP1, hK1, hD1⟩, hz9, ha9⟩ := hB
              rw [ht] at hP1
              rw [ht] at hz9
              have ha9 : v9 = v3 := ha9
              subst ha9
              have hq0 : szk s.heap H1 (((2 * (p - i)) + 1) + 2 * (p3 - p2)) (((16 * (p - i) - ms.length) + (p2 - p)) + (16 * (p3 - p2) - 1)) := (hq0.trans hz9).mono (Nat.le_refl _) (Nat.le_refl _)
              refine w_tight hq0 ?_
              obtain ⟨hP, hD⟩ := va_joinP (wr := []) (rx := [(jr, .inr (1, [.ref h0, .int dp3, .int md3, .ref lb3])), (h0, .inr (8, [.ref qb, .ref qu, .int uc3, .int ln, .int (nI n), .int (nI p3), .int pl])), (qb, .inl (cB, 4096, .inl bf)), (qu, .inl (cI, 4096, .inl ug3))]) (pl1 := va_pl (((L ++ (N ++ [nr0])) ++ N3)) f3) hP hD [0, 1, 2, 3] [] rfl rfl (by decide) (by decide) hk1 hFc hP1 hD1
              generalize H1 = H at hP hS hq0 ⊢
              have hP : va_P (dC, dI) classes ([(jr, .inr (1, [.ref h0, .int dp3, .int md3, .ref lb3])), (h0, .inr (8, [.ref qb, .ref qu, .int uc3, .int ln, .int (nI n), .int (nI p3), .int pl])), (qb, .inl (cB, 4096, .inl bf)), (qu, .inl (cI, 4096, .inl ug3))] ++ va_pl (((L ++ (N ++ [nr0])) ++ N3)) f3) H := hP
              have hD : va_D A ([(jr, .inr (1, [.ref h0, .int dp3, .int md3, .ref lb3])), (h0, .inr (8, [.ref qb, .ref qu, .int uc3, .int ln, .int (nI n), .int (nI p3), .int pl])), (qb, .inl (cB, 4096, .inl bf)), (qu, .inl (cI, 4096, .inl ug3))] ++ va_pl (((L ++ (N ++ [nr0])) ++ N3)) f3) := hD
              obtain ⟨hw, xv, c3, hJF, hOB, hmd3⟩ := hw
              have hJF : JFx bf n (k - 1) d p2 p3 D9 dp3 xv := hJF
              obtain ⟨hjv, hdp3⟩ := hJF
              have hOB : OBJ E2 E3 (some lb) f3 v9 lb3 c3 (k - 1) xv := hOB
              have hmd3 : md3 = md0 + nI (ct + c3) := by rw [show md3 = md + nI c3 from hmd3, hmd, Int32.add_assoc]; exact congrArg (md0 + ·) (nI_add ct c3)
              rw [hD9] at hdp3
              have hJ : JP cI cV E2 lv (L ++ (N ++ [nr0])) f2 (some lb) p2 n v9 p3 N3 E3 f3 lb3 := hw
              obtain ⟨hp3a, hp3b⟩ := hJ.num
              have hO3 := hJ.po
              have hx3 := hJ.ex
              obtain ⟨hv2, hv0, hvn⟩ := hJ.v2
              have hi3 : E3 it = 1 := by
                have q1 : E1 it ≠ 0 := by rw [hi1]; decide
                rw [hx3 it (by rw [hx2 it q1]; exact q1), hx2 it q1]
                exact hi1
              rw [List.append_assoc] at hP hD
              have hP : va_P (dC, dI) classes ([(jr, .inr (1, [.ref h0, .int dp3, .int md3, .ref lb3])), (h0, .inr (8, [.ref qb, .ref qu, .int uc3, .int ln, .int (nI n), .int (nI p3), .int pl])), (qb, .inl (cB, 4096, .inl bf)), (qu, .inl (cI, 4096, .inl ug3))] ++ va_pl ((L ++ ((N ++ [nr0]) ++ N3))) f3) H := hP
              have hD : va_D A ([(jr, .inr (1, [.ref h0, .int dp3, .int md3, .ref lb3])), (h0, .inr (8, [.ref qb, .ref qu, .int uc3, .int ln, .int (nI n), .int (nI p3), .int pl])), (qb, .inl (cB, 4096, .inl bf)), (qu, .inl (cI, 4096, .inl ug3))] ++ va_pl ((L ++ ((N ++ [nr0]) ++ N3))) f3) := hD
              obtain ⟨kv, nv, tv, mv, pv, av, iv, mv2, ov, sv, efv, hvv⟩ := hO3.val (a := v9) (Or.inr (Or.inl hv2))
              obtain rfl : mv2 = none := (nmF_v efv).symm.trans hvn
              have hvi : v9 ∈ L ++ ((N ++ [nr0]) ++ N3) := by rw [← List.append_assoc]; exact hO3.inL (by rw [hv2]; decide)
              have hz0 := hLJ.chn _ _ hmz
              have hz2 : E2 mz ≠ 0 := by rw [hx2 mz hz0.1]; exact hz0.1
              have hzE : E3 mz = E1 mz := (hx3 mz hz2).trans (hx2 mz hz0.1)
              have hzv : mz ≠ v9 := fun e => hz2 (e ▸ hv0)
              obtain ⟨kz, nz, tz, ez, pz, az, iz, mz2, oz, sz9, efz, hvz⟩ := hO3.val (hx3.el.v (hx2.el.v hz0.2.1))
              have hzi : mz ∈ L ++ ((N ++ [nr0]) ++ N3) := by rw [← List.append_assoc]; exact hO3.inV (hx3.el.v (hx2.el.v hz0.2.1))
              refine lv_astore (lv' := [(9, .ref v9), (8, .ref nr0), (0, .ref jr), (1, .ref it), (2, .int (nI d)), (3, .ref m0), (4, .ref mz), (5, .int (nI ms.length)), (6, .int mo), (7, .int (nI ms.length))]) hx hb d_JsonReader_members_52 hl (by decide) rfl (fun ls hl => ?_)
              refine lv_aload hx hb d_JsonReader_members_54 (lv_at hl 0 rfl) ?_
              refine lv_aload_n hx hb d_JsonReader_members_56 rfl (lv_at hl 3 rfl) ?_
              refine vq_put (D := (dC, dI)) (ci := 9) (v := .ref it) (ty := .object "QueryBench$Value") (C := R_Value) (T := F_Value) (N := 10) hx hb hts in_Value t_Value t_Value_ok n_Value hown hK hP hD hS hvi efv rfl 4 (by decide) (hts _ z_330) (fun _ h9 => h9) rfl (by decide +kernel) rfl rfl (Nat.le_of_ble_eq_true rfl) d_JsonReader_members_57 (fun H locs hP hD hS => ?_)
              have hP : va_P (dC, dI) classes ([(jr, .inr (1, [.ref h0, .int dp3, .int md3, .ref lb3])), (h0, .inr (8, [.ref qb, .ref qu, .int uc3, .int ln, .int (nI n), .int (nI p3), .int pl])), (qb, .inl (cB, 4096, .inl bf)), (qu, .inl (cI, 4096, .inl ug3))] ++ va_pl ((L ++ ((N ++ [nr0]) ++ N3))) ((va_up f3 v9 (vE kv nv tv mv (some it) av iv none ov sv)))) H := hP
              have hD : va_D A ([(jr, .inr (1, [.ref h0, .int dp3, .int md3, .ref lb3])), (h0, .inr (8, [.ref qb, .ref qu, .int uc3, .int ln, .int (nI n), .int (nI p3), .int pl])), (qb, .inl (cB, 4096, .inl bf)), (qu, .inl (cI, 4096, .inl ug3))] ++ va_pl ((L ++ ((N ++ [nr0]) ++ N3))) ((va_up f3 v9 (vE kv nv tv mv (some it) av iv none ov sv)))) := hD
              refine lv_aload hx hb d_JsonReader_members_60 (lv_at hl 0 rfl) ?_
              refine lv_aload hx hb d_JsonReader_members_62 (lv_at hl 1 rfl) ?_
              refine vq_put (D := (dC, dI)) (ci := 9) (v := .ref nr0) (ty := .array .int) (C := R_Value) (T := F_Value) (N := 10) hx hb hts in_Value t_Value t_Value_ok n_Value hown hK hP hD hS hvi (va_up_self _ _ _) rfl 5 (by decide) (hts _ z_333) (fun _ h9 => h9) rfl (by decide +kernel) rfl rfl (Nat.le_of_ble_eq_true rfl) d_JsonReader_members_64 (fun H locs hP hD hS => ?_)
              rw [bx_uu] at hP hD
              have hP : va_P (dC, dI) classes ([(jr, .inr (1, [.ref h0, .int dp3, .int md3, .ref lb3])), (h0, .inr (8, [.ref qb, .ref qu, .int uc3, .int ln, .int (nI n), .int (nI p3), .int pl])), (qb, .inl (cB, 4096, .inl bf)), (qu, .inl (cI, 4096, .inl ug3))] ++ va_pl ((L ++ ((N ++ [nr0]) ++ N3))) ((va_up f3 v9 (vE kv nv tv mv (some it) (some nr0) iv none ov sv)))) H := hP
              have hD : va_D A ([(jr, .inr (1, [.ref h0, .int dp3, .int md3, .ref lb3])), (h0, .inr (8, [.ref qb, .ref qu, .int uc3, .int ln, .int (nI n), .int (nI p3), .int pl])), (qb, .inl (cB, 4096, .inl bf)), (qu, .inl (cI, 4096, .inl ug3))] ++ va_pl ((L ++ ((N ++ [nr0]) ++ N3))) ((va_up f3 v9 (vE kv nv tv mv (some it) (some nr0) iv none ov sv)))) := hD
              refine lv_aload hx hb d_JsonReader_members_67 (lv_at hl 0 rfl) ?_
              refine lv_iload hx hb d_JsonReader_members_69 (lv_at hl 7 rfl) ?_
              refine vq_put (D := (dC, dI)) (ci := 9) (v := .int (nI ms.length)) (ty := .int) (C := R_Value) (T := F_Value) (N := 10) hx hb hts in_Value t_Value t_Value_ok n_Value hown hK hP hD hS hvi (va_up_self _ _ _) rfl 6 (by decide) (hts _ z_335) (fun _ h9 => h9) rfl (by decide +kernel) rfl rfl (Nat.le_of_ble_eq_true rfl) d_JsonReader_members_71 (fun H locs hP hD hS => ?_)
              rw [bx_uu] at hP hD
              have hP : va_P (dC, dI) classes ([(jr, .inr (1, [.ref h0, .int dp3, .int md3, .ref lb3])), (h0, .inr (8, [.ref qb, .ref qu, .int uc3, .int ln, .int (nI n), .int (nI p3), .int pl])), (qb, .inl (cB, 4096, .inl bf)), (qu, .inl (cI, 4096, .inl ug3))] ++ va_pl ((L ++ ((N ++ [nr0]) ++ N3))) ((va_up f3 v9 (vE kv nv tv mv (some it) (some nr0) (nI ms.length) none ov sv)))) H := hP
              have hD : va_D A ([(jr, .inr (1, [.ref h0, .int dp3, .int md3, .ref lb3])), (h0, .inr (8, [.ref qb, .ref qu, .int uc3, .int ln, .int (nI n), .int (nI p3), .int pl])), (qb, .inl (cB, 4096, .inl bf)), (qu, .inl (cI, 4096, .inl ug3))] ++ va_pl ((L ++ ((N ++ [nr0]) ++ N3))) ((va_up f3 v9 (vE kv nv tv mv (some it) (some nr0) (nI ms.length) none ov sv)))) := hD
              refine lv_iinc (v := nI (ms.length + 1)) (lv' := [(5, .int (nI (ms.length + 1))), (9, .ref v9), (8, .ref nr0), (0, .ref jr), (1, .ref it), (2, .int (nI d)), (3, .ref m0), (4, .ref mz), (6, .int mo), (7, .int (nI ms.length))]) hx hb d_JsonReader_members_74 hl (k := 7) rfl (nI_1 _) (by decide) rfl (fun ls hl => ?_)
              refine lv_aload hx hb d_JsonReader_members_77 (lv_at hl 7 rfl) ?_
              refine lv_ifnonnull (tgt := 88) hx hb d_JsonReader_members_79 (by decide) ?_
              refine lv_aload hx hb d_JsonReader_members_88 (lv_at hl 7 rfl) ?_
              refine lv_aload hx hb d_JsonReader_members_90 (lv_at hl 1 rfl) ?_
              refine vq_put (D := (dC, dI)) (ci := 9) (v := .ref v9) (ty := .object "QueryBench$Value") (C := R_Value) (T := F_Value) (N := 10) hx hb hts in_Value t_Value t_Value_ok n_Value hown hK hP hD hS hzi ((va_up_ne _ _ hzv).trans efz) rfl 7 (by decide) (hts _ z_336) (fun _ h9 => h9) rfl (by decide +kernel) rfl rfl (Nat.le_of_ble_eq_true rfl) d_JsonReader_members_92 (fun H locs hP hD hS => ?_)
              have hP : va_P (dC, dI) classes ([(jr, .inr (1, [.ref h0, .int dp3, .int md3, .ref lb3])), (h0, .inr (8, [.ref qb, .ref qu, .int uc3, .int ln, .int (nI n), .int (nI p3), .int pl])), (qb, .inl (cB, 4096, .inl bf)), (qu, .inl (cI, 4096, .inl ug3))] ++ va_pl ((L ++ ((N ++ [nr0]) ++ N3))) ((va_up (va_up f3 v9 (vE kv nv tv mv (some it) (some nr0) (nI ms.length) none ov sv)) mz (vE kz nz tz ez pz az iz (some v9) oz sz9)))) H := hP
              have hD : va_D A ([(jr, .inr (1, [.ref h0, .int dp3, .int md3, .ref lb3])), (h0, .inr (8, [.ref qb, .ref qu, .int uc3, .int ln, .int (nI n), .int (nI p3), .int pl])), (qb, .inl (cB, 4096, .inl bf)), (qu, .inl (cI, 4096, .inl ug3))] ++ va_pl ((L ++ ((N ++ [nr0]) ++ N3))) ((va_up (va_up f3 v9 (vE kv nv tv mv (some it) (some nr0) (nI ms.length) none ov sv)) mz (vE kz nz tz ez pz az iz (some v9) oz sz9)))) := hD
              refine lv_aload hx hb d_JsonReader_members_95 (lv_at hl 1 rfl) ?_
              refine lv_astore (lv' := [(4, .ref v9), (5, .int (nI (ms.length + 1))), (9, .ref v9), (8, .ref nr0), (0, .ref jr), (1, .ref it), (2, .int (nI d)), (3, .ref m0), (6, .int mo), (7, .int (nI ms.length))]) hx hb d_JsonReader_members_97 hl (by decide) rfl (fun ls hl => ?_)
              refine lv_aload_n hx hb d_JsonReader_members_99 rfl (lv_at hl 4 rfl) ?_
              refine va_get (D := (dC, dI)) (ci := 1) (v := .ref h0) (C := R_JsonReader) (T := F_JsonReader) (N := 4) hx hb hts in_JsonReader hown hK hP 0 rfl rfl 0 (by decide) (hts _ w_80) (fun _ h9 => h9) rfl d_JsonReader_members_100 ?_
              refine lv_bipush (v := 44) hx hb d_JsonReader_members_103 (by decide) ?_
              have hPc := hP.sub (ws' := [(h0, .inr (8, [.ref qb, .ref qu, .int uc3, .int ln, .int (nI n), .int (nI p3), .int pl])), (qb, .inl (cB, 4096, .inl bf))]) [1, 2] rfl
              have hDc := hD.sub (ws' := [(h0, .inr (8, [.ref qb, .ref qu, .int uc3, .int ln, .int (nI n), .int (nI p3), .int pl])), (qb, .inl (cB, 4096, .inl bf))]) [1, 2] (by decide) rfl
              have hFc := va_free (wc := [(h0, .inr (8, [.ref qb, .ref qu, .int uc3, .int ln, .int (nI n), .int (nI p3), .int pl])), (qb, .inl (cB, 4096, .inl bf))]) hD hS hA [1, 2] rfl
              have hKc := hK.sub (tys' := [(cB, .byte)]) [0] rfl
              refine va_calli (va_runV (As := [.int 44]) (rest := []) ⟨hx, hb, hml, hown, hts⟩ (c_Tape_takeIf l dC dI cB h0 qb H (.ref qu) uc3 ln pl bf n p3 44 hn0 (by omega)) (cwV 1 hts (gt_V (own := R_JsonReader) (C := R_Tape) (i := 95) (y := y_Tape_takeIf) i_Tape_takeIf z_392 z_393 z_394 w_2) rfl rfl rfl (by decide +kernel) ⟨by show 1 + 1 ≤ 14 + 3 * k; omega, by show 8 + (2 + 11) + (20) ≤ 290 + 90 * k; omega⟩) ⟨mp_blind, va_recv hK hP (ci := 8) (q0 := 1) rfl rfl, fun U hU hW => ⟨rfl, hU, by rw [hU]; exact hPc, va_K.moved hW.alike hKc, hDc.weaken (fun _ _ _ _ => trivial)⟩⟩ rfl rfl hl.1 rfl (lv_room (Nat.le_of_ble_eq_true rfl)) d_JsonReader_members_105 ⟨by show (((2 * (p - i)) + 1) + 2 * (p3 - p2)) + (0) ≤ 2 * (n - i) + 4; omega, by show (((16 * (p - i) - ms.length) + (p2 - p)) + (16 * (p3 - p2) - 1)) + (0) ≤ 16 * (n - i) + 40; omega⟩) hS (fun q _ h => hFc q h) hFc (fun r24 u24 t9 H1 locs ht hvm hw hB hz1 hk1 hS => ?_)
              obtain ⟨hP1, hK1, hD1⟩ := hB
              rw [ht] at hP1
              obtain ⟨hP, hD⟩ := va_joinQ (wr := [(jr, .inr (1, [.ref h0, .int dp3, .int md3, .ref lb3])), (qu, .inl (cI, 4096, .inl ug3))]) (w1 := [(h0, .inr (8, [.ref qb, .ref qu, .int uc3, .int ln, .int (nI n), .int (nI u24), .int pl])), (qb, .inl (cB, 4096, .inl bf))]) hP hD [1, 2] [0, 3] rfl rfl (by decide) (by decide) hk1 hFc hP1 hD1
              generalize H1 = H at hP hS ⊢
              have hP : va_P (dC, dI) classes ([(jr, .inr (1, [.ref h0, .int dp3, .int md3, .ref lb3])), (qu, .inl (cI, 4096, .inl ug3)), (h0, .inr (8, [.ref qb, .ref qu, .int uc3, .int ln, .int (nI n), .int (nI u24), .int pl])), (qb, .inl (cB, 4096, .inl bf))] ++ va_pl ((L ++ ((N ++ [nr0]) ++ N3))) ((va_up (va_up f3 v9 (vE kv nv tv mv (some it) (some nr0) (nI ms.length) none ov sv)) mz (vE kz nz tz ez pz az iz (some v9) oz sz9)))) H := hP
              have hD : va_D A ([(jr, .inr (1, [.ref h0, .int dp3, .int md3, .ref lb3])), (qu, .inl (cI, 4096, .inl ug3)), (h0, .inr (8, [.ref qb, .ref qu, .int uc3, .int ln, .int (nI n), .int (nI u24), .int pl])), (qb, .inl (cB, 4096, .inl bf))] ++ va_pl ((L ++ ((N ++ [nr0]) ++ N3))) ((va_up (va_up f3 v9 (vE kv nv tv mv (some it) (some nr0) (nI ms.length) none ov sv)) mz (vE kz nz tz ez pz az iz (some v9) oz sz9)))) := hD
              have hP := hP.part (cx := [(jr, .inr (1, [.ref h0, .int dp3, .int md3, .ref lb3])), (h0, .inr (8, [.ref qb, .ref qu, .int uc3, .int ln, .int (nI n), .int (nI u24), .int pl])), (qb, .inl (cB, 4096, .inl bf)), (qu, .inl (cI, 4096, .inl ug3))]) [0, 2, 3, 1] rfl
              have hD := hD.part (cx := [(jr, .inr (1, [.ref h0, .int dp3, .int md3, .ref lb3])), (h0, .inr (8, [.ref qb, .ref qu, .int uc3, .int ln, .int (nI n), .int (nI u24), .int pl])), (qb, .inl (cB, 4096, .inl bf)), (qu, .inl (cI, 4096, .inl ug3))]) [0, 2, 3, 1] (by decide) rfl
              rcases hw with ⟨ht24, hr24, hu24⟩ | ⟨ht24, hr24, hu24⟩
              · have hu24 : u24 = p3 + 1 := hu24
                subst hr24
                rw [hu24] at hP hD
                have hl24 := here_lc ht24 (by decide)
                have hP : va_P (dC, dI) classes ([(jr, .inr (1, [.ref h0, .int dp3, .int md3, .ref lb3])), (h0, .inr (8, [.ref qb, .ref qu, .int uc3, .int ln, .int (nI n), .int (nI (p3 + 1)), .int pl])), (qb, .inl (cB, 4096, .inl bf)), (qu, .inl (cI, 4096, .inl ug3))] ++ va_pl ((L ++ ((N ++ [nr0]) ++ N3))) ((va_up (va_up f3 v9 (vE kv nv tv mv (some it) (some nr0) (nI ms.length) none ov sv)) mz (vE kz nz tz ez pz az iz (some v9) oz sz9)))) H := hP
                have hD : va_D A ([(jr, .inr (1, [.ref h0, .int dp3, .int md3, .ref lb3])), (h0, .inr (8, [.ref qb, .ref qu, .int uc3, .int ln, .int (nI n), .int (nI (p3 + 1)), .int pl])), (qb, .inl (cB, 4096, .inl bf)), (qu, .inl (cI, 4096, .inl ug3))] ++ va_pl ((L ++ ((N ++ [nr0]) ++ N3))) ((va_up (va_up f3 v9 (vE kv nv tv mv (some it) (some nr0) (nI ms.length) none ov sv)) mz (vE kz nz tz ez pz az iz (some v9) oz sz9)))) := hD
                refine lv_istore (lv' := [(6, .int 1), (4, .ref v9), (5, .int (nI (ms.length + 1))), (9, .ref v9), (8, .ref nr0), (0, .ref jr), (1, .ref it), (2, .int (nI d)), (3, .ref m0), (7, .int (nI ms.length))]) hx hb d_JsonReader_members_108 hl (by decide) rfl (fun ls hl => ?_)
                refine lv_iinc (v := nI (ms.length + 1)) (lv' := [(7, .int (nI (ms.length + 1))), (6, .int 1), (4, .ref v9), (5, .int (nI (ms.length + 1))), (9, .ref v9), (8, .ref nr0), (0, .ref jr), (1, .ref it), (2, .int (nI d)), (3, .ref m0)]) hx hb d_JsonReader_members_110 hl (k := 9) rfl (nI_1 _) (by decide) rfl (fun ls hl => ?_)
                refine lv_goto (tgt := 14) hx hb d_JsonReader_members_113 (by decide) ?_
                have hs4 : (3 = 2 ∧ ¬ kd = 6) ∨ (3 = 3 ∧ kd = 6) := Or.inr ⟨rfl, c33⟩
                obtain ⟨hE4, hO4⟩ := PO.mem1st (s := 3) (na' := (some nr0)) (ix' := nI ms.length) hO3 hv2 efv (it := it) (Or.inl hi3) (fun b h => by cases h; exact (hJ.ex nr0 (by rw [hr4]; decide)).trans hr4) (Or.inr ⟨rfl, fun h => by cases h⟩)
                rw [List.append_assoc] at hO4
                have hEz : va_up E3 v9 3 mz = 3 → va_up E3 v9 3 v9 = 3 := fun _ => va_up_self _ _ _
                have hO5 := PO.linkz hO4 (hE4.v (hx3.el.v (hx2.el.v hz0.2.1))) (hE4.v (Or.inr (Or.inl hv2))) ((va_up_ne _ _ hzv).trans efz) hEz
                have e9 : nmF (va_up (va_up f3 v9 (vE kv nv tv mv (some it) (some nr0) (nI ms.length) none ov sv)) mz (vE kz nz tz ez pz az iz (some v9) oz sz9)) v9 = none := by
                  have e8 : nmF (va_up (va_up f3 v9 (vE kv nv tv mv (some it) (some nr0) (nI ms.length) none ov sv)) mz (vE kz nz tz ez pz az iz (some v9) oz sz9)) v9 = nmF (va_up f3 v9 (vE kv nv tv mv (some it) (some nr0) (nI ms.length) none ov sv)) v9 := by unfold nmF; rw [va_up_ne _ _ (Ne.symm hzv)]
                  rw [e8]
                  exact nmF_v (va_up_self _ _ _)
                have hLn := hLJ.next hit (by omega) hx2 hn2 hf2 hO2 hJ hs4 hE4 hO5 (fun a hav haz => by rw [va_up_ne _ _ (show a ≠ mz from fun e => haz (by rw [e]; exact hmz)), va_up_ne _ _ hav]) e9 (fun z hz => by obtain rfl := Option.some.inj (hmz.symm.trans hz); exact nmF_v (va_up_self _ _ _)) (p4 := (p3 + 1)) (by omega) (by omega) (by omega)
                have hnv : nr0 ≠ v9 := fun e => by rw [e, hv0] at hr4; cases hr4
                have hnl : some lb ≠ some nr0 := fun e => by
                  have e := Option.some.inj e
                  have h9 := hx2.el.v hLJ.lbv
                  rw [e] at h9
                  rcases h9 with h9 | h9 | h9 <;> omega
                have hn3 : f3 nr0 = f2 nr0 := hJ.2.2.2.2.2.1.2 nr0 (by omega) hnl
                have hnz9 : nr0 ≠ mz := fun e => by
                  have h9 := hx2.el.v hz0.2.1
                  rw [← e] at h9
                  rcases h9 with h9 | h9 | h9 <;> omega
                have hf4 : (va_up (va_up f3 v9 (vE kv nv tv mv (some it) (some nr0) (nI ms.length) none ov sv)) mz (vE kz nz tz ez pz az iz (some v9) oz sz9)) nr0 = f2 nr0 := by rw [va_up_ne _ _ hnz9, va_up_ne _ _ hnv]; exact hn3
                have ef4 : (va_up (va_up f3 v9 (vE kv nv tv mv (some it) (some nr0) (nI ms.length) none ov sv)) mz (vE kz nz tz ez pz az iz (some v9) oz sz9)) v9 = vE kv nv tv mv (some it) (some nr0) (nI ms.length) none ov sv := (va_up_ne _ _ (Ne.symm hzv)).trans (va_up_self _ _ _)
                have hnmv : nmL (va_up (va_up f3 v9 (vE kv nv tv mv (some it) (some nr0) (nI ms.length) none ov sv)) mz (vE kz nz tz ez pz az iz (some v9) oz sz9)) v9 = some (txL f2 nr0) := by
                  rw [nmL_v ef4]
                  show some (txL (va_up (va_up f3 v9 (vE kv nv tv mv (some it) (some nr0) (nI ms.length) none ov sv)) mz (vE kz nz tz ez pz az iz (some v9) oz sz9)) nr0) = _
                  rw [txL_eq hf4]
                have hMn := hMI.next c24 hc4 hnm9 hjv hdp3 (v := v9) (f4 := (va_up (va_up f3 v9 (vE kv nv tv mv (some it) (some nr0) (nI ms.length) none ov sv)) mz (vE kz nz tz ez pz az iz (some v9) oz sz9))) (fun _ => NMs.next hLJ (hMI.2.2.2 c33) hx2 hf2 hJ (fun a hav haz => by rw [va_up_ne _ _ (show a ≠ mz from fun e => haz (by rw [e]; exact hmz)), va_up_ne _ _ hav]) (fun z hz => by obtain rfl := Option.some.inj (hmz.symm.trans hz); exact ⟨kz, nz, tz, ez, pz, az, iz, mz2, some v9, oz, sz9, efz, va_up_self _ _ _⟩) hnmv) (p4 := (p3 + 1)) (mo4 := 1) (Or.inl ⟨rfl, ht24, rfl⟩)
                have hKn := KSd.next (X := txL f2 nr0) hO1 hKS hLJ.ex hit hx2 hf2 hO3 hx3 hJ.2.2.2.2.2.1 hLJ.lbv (fun a ha => by obtain ⟨j9, hj9⟩ := List.getElem?_of_mem ha; exact ⟨(hLJ.chn j9 a hj9).2.1, (hLJ.chn j9 a hj9).2.2.1.1⟩) hOB (s := 3) (Or.inr rfl) (fun a hav haz => by rw [va_up_ne _ _ (show a ≠ mz from fun e => haz (by rw [e]; exact hmz)), va_up_ne _ _ hav]) ⟨kv, nv, tv, mv, pv, av, iv, none, ov, sv, some it, (some nr0), nI ms.length, efv, (va_up_ne _ _ (Ne.symm hzv)).trans (va_up_self _ _ _)⟩ (fun z hz => by obtain rfl := Option.some.inj (hmz.symm.trans hz); exact ⟨kz, nz, tz, ez, pz, az, iz, mz2, some v9, oz, sz9, efz, va_up_self _ _ _⟩) (fun _ => hnmv) (UPf.v (nu := nv) (kd := kv) (show (va_up (va_up f3 v9 (vE kv nv tv mv (some it) (some nr0) (nI ms.length) none ov sv)) mz (vE kz nz tz ez pz az iz (some v9) oz sz9)) v9 = vE kv nv tv mv (some it) (some nr0) (nI ms.length) none ov sv from (va_up_ne _ _ (Ne.symm hzv)).trans (va_up_self _ _ _)) (fun h => absurd c33 h))
                have hlen : (ms ++ [v9]).length = ms.length + 1 := by rw [List.length_append]; rfl
                have hl0 : (ms ++ [v9])[0]? = some m0 := by rw [List.getElem?_append_left hm]; exact hm0
                have hlz : (ms ++ [v9])[(ms ++ [v9]).length - 1]? = some v9 := by rw [hlen, Nat.add_sub_cancel, List.getElem?_append_right (Nat.le_refl _), Nat.sub_self]; rfl
                have hl : lv_has ls 10 [(7, .int (nI (ms ++ [v9]).length)), (6, .int 1), (4, va_rf ((ms ++ [v9])[(ms ++ [v9]).length - 1]?)), (5, .int (nI (ms ++ [v9]).length)), (9, .ref v9), (8, .ref nr0), (0, .ref jr), (1, .ref it), (2, .int (nI d)), (3, va_rf ((ms ++ [v9])[0]?))] := by rw [hl0, hlz, hlen]; exact hl
                refine w_same (fun hq => ?_)
                refine W.widen (k := 2 * (n - i) + 4) (n := 16 * (n - i) + 40) (by show (((2 * (p - i)) + 1) + 2 * (p3 - p2)) ≤ 2 * (n - i) + 4; omega) (by show (((16 * (p - i) - ms.length) + (p2 - p)) + (16 * (p3 - p2) - 1)) ≤ 16 * (n - i) + 40; omega) ?_
                exact ih ((ms ++ [v9]), 1, (p3 + 1), (N ++ [nr0]) ++ N3, va_up E3 v9 3, (va_up (va_up f3 v9 (vE kv nv tv mv (some it) (some nr0) (nI ms.length) none ov sv)) mz (vE kz nz tz ez pz az iz (some v9) oz sz9)), uc3, ug3, dp3, md3, lb3, acc ++ [(txL f2 nr0, xv)], ct + c3) _ _ _ ⟨hLn, hMn, hq.mono (by show (((2 * (p - i)) + 1) + 2 * (p3 - p2)) ≤ 2 * ((p3 + 1) - i); omega) (by show (((16 * (p - i) - ms.length) + (p2 - p)) + (16 * (p3 - p2) - 1)) ≤ 16 * ((p3 + 1) - i) - (ms ++ [v9]).length; omega), hKn, hmd3⟩ (by show 4097 - (ms ++ [v9]).length < 4097 - ms.length; omega) hP hD hS (lv_sub hl [6, 7, 8, 9, 2, 3, 1, 0] rfl)
              · have hu24 : u24 = p3 := hu24
                subst hr24
                rw [hu24] at hP hD
                have hP : va_P (dC, dI) classes ([(jr, .inr (1, [.ref h0, .int dp3, .int md3, .ref lb3])), (h0, .inr (8, [.ref qb, .ref qu, .int uc3, .int ln, .int (nI n), .int (nI p3), .int pl])), (qb, .inl (cB, 4096, .inl bf)), (qu, .inl (cI, 4096, .inl ug3))] ++ va_pl ((L ++ ((N ++ [nr0]) ++ N3))) ((va_up (va_up f3 v9 (vE kv nv tv mv (some it) (some nr0) (nI ms.length) none ov sv)) mz (vE kz nz tz ez pz az iz (some v9) oz sz9)))) H := hP
                have hD : va_D A ([(jr, .inr (1, [.ref h0, .int dp3, .int md3, .ref lb3])), (h0, .inr (8, [.ref qb, .ref qu, .int uc3, .int ln, .int (nI n), .int (nI p3), .int pl])), (qb, .inl (cB, 4096, .inl bf)), (qu, .inl (cI, 4096, .inl ug3))] ++ va_pl ((L ++ ((N ++ [nr0]) ++ N3))) ((va_up (va_up f3 v9 (vE kv nv tv mv (some it) (some nr0) (nI ms.length) none ov sv)) mz (vE kz nz tz ez pz az iz (some v9) oz sz9)))) := hD
                refine lv_istore (lv' := [(6, .int 0), (4, .ref v9), (5, .int (nI (ms.length + 1))), (9, .ref v9), (8, .ref nr0), (0, .ref jr), (1, .ref it), (2, .int (nI d)), (3, .ref m0), (7, .int (nI ms.length))]) hx hb d_JsonReader_members_108 hl (by decide) rfl (fun ls hl => ?_)
                refine lv_iinc (v := nI (ms.length + 1)) (lv' := [(7, .int (nI (ms.length + 1))), (6, .int 0), (4, .ref v9), (5, .int (nI (ms.length + 1))), (9, .ref v9), (8, .ref nr0), (0, .ref jr), (1, .ref it), (2, .int (nI d)), (3, .ref m0)]) hx hb d_JsonReader_members_110 hl (k := 9) rfl (nI_1 _) (by decide) rfl (fun ls hl => ?_)
                refine lv_goto (tgt := 14) hx hb d_JsonReader_members_113 (by decide) ?_
                have hs4 : (3 = 2 ∧ ¬ kd = 6) ∨ (3 = 3 ∧ kd = 6) := Or.inr ⟨rfl, c33⟩
                obtain ⟨hE4, hO4⟩ := PO.mem1st (s := 3) (na' := (some nr0)) (ix' := nI ms.length) hO3 hv2 efv (it := it) (Or.inl hi3) (fun b h => by cases h; exact (hJ.ex nr0 (by rw [hr4]; decide)).trans hr4) (Or.inr ⟨rfl, fun h => by cases h⟩)
                rw [List.append_assoc] at hO4
                have hEz : va_up E3 v9 3 mz = 3 → va_up E3 v9 3 v9 = 3 := fun _ => va_up_self _ _ _
                have hO5 := PO.linkz hO4 (hE4.v (hx3.el.v (hx2.el.v hz0.2.1))) (hE4.v (Or.inr (Or.inl hv2))) ((va_up_ne _ _ hzv).trans efz) hEz
                have e9 : nmF (va_up (va_up f3 v9 (vE kv nv tv mv (some it) (some nr0) (nI ms.length) none ov sv)) mz (vE kz nz tz ez pz az iz (some v9) oz sz9)) v9 = none := by
                  have e8 : nmF (va_up (va_up f3 v9 (vE kv nv tv mv (some it) (some nr0) (nI ms.length) none ov sv)) mz (vE kz nz tz ez pz az iz (some v9) oz sz9)) v9 = nmF (va_up f3 v9 (vE kv nv tv mv (some it) (some nr0) (nI ms.length) none ov sv)) v9 := by unfold nmF; rw [va_up_ne _ _ (Ne.symm hzv)]
                  rw [e8]
                  exact nmF_v (va_up_self _ _ _)
                have hLn := hLJ.next hit (by omega) hx2 hn2 hf2 hO2 hJ hs4 hE4 hO5 (fun a hav haz => by rw [va_up_ne _ _ (show a ≠ mz from fun e => haz (by rw [e]; exact hmz)), va_up_ne _ _ hav]) e9 (fun z hz => by obtain rfl := Option.some.inj (hmz.symm.trans hz); exact nmF_v (va_up_self _ _ _)) (p4 := p3) (by omega) (by omega) (by omega)
                have hnv : nr0 ≠ v9 := fun e => by rw [e, hv0] at hr4; cases hr4
                have hnl : some lb ≠ some nr0 := fun e => by
                  have e := Option.some.inj e
                  have h9 := hx2.el.v hLJ.lbv
                  rw [e] at h9
                  rcases h9 with h9 | h9 | h9 <;> omega
                have hn3 : f3 nr0 = f2 nr0 := hJ.2.2.2.2.2.1.2 nr0 (by omega) hnl
                have hnz9 : nr0 ≠ mz := fun e => by
                  have h9 := hx2.el.v hz0.2.1
                  rw [← e] at h9
                  rcases h9 with h9 | h9 | h9 <;> omega
                have hf4 : (va_up (va_up f3 v9 (vE kv nv tv mv (some it) (some nr0) (nI ms.length) none ov sv)) mz (vE kz nz tz ez pz az iz (some v9) oz sz9)) nr0 = f2 nr0 := by rw [va_up_ne _ _ hnz9, va_up_ne _ _ hnv]; exact hn3
                have ef4 : (va_up (va_up f3 v9 (vE kv nv tv mv (some it) (some nr0) (nI ms.length) none ov sv)) mz (vE kz nz tz ez pz az iz (some v9) oz sz9)) v9 = vE kv nv tv mv (some it) (some nr0) (nI ms.length) none ov sv := (va_up_ne _ _ (Ne.symm hzv)).trans (va_up_self _ _ _)
                have hnmv : nmL (va_up (va_up f3 v9 (vE kv nv tv mv (some it) (some nr0) (nI ms.length) none ov sv)) mz (vE kz nz tz ez pz az iz (some v9) oz sz9)) v9 = some (txL f2 nr0) := by
                  rw [nmL_v ef4]
                  show some (txL (va_up (va_up f3 v9 (vE kv nv tv mv (some it) (some nr0) (nI ms.length) none ov sv)) mz (vE kz nz tz ez pz az iz (some v9) oz sz9)) nr0) = _
                  rw [txL_eq hf4]
                have hMn := hMI.next c24 hc4 hnm9 hjv hdp3 (v := v9) (f4 := (va_up (va_up f3 v9 (vE kv nv tv mv (some it) (some nr0) (nI ms.length) none ov sv)) mz (vE kz nz tz ez pz az iz (some v9) oz sz9))) (fun _ => NMs.next hLJ (hMI.2.2.2 c33) hx2 hf2 hJ (fun a hav haz => by rw [va_up_ne _ _ (show a ≠ mz from fun e => haz (by rw [e]; exact hmz)), va_up_ne _ _ hav]) (fun z hz => by obtain rfl := Option.some.inj (hmz.symm.trans hz); exact ⟨kz, nz, tz, ez, pz, az, iz, mz2, some v9, oz, sz9, efz, va_up_self _ _ _⟩) hnmv) (p4 := p3) (mo4 := 0) (Or.inr ⟨rfl, ht24, rfl⟩)
                have hKn := KSd.next (X := txL f2 nr0) hO1 hKS hLJ.ex hit hx2 hf2 hO3 hx3 hJ.2.2.2.2.2.1 hLJ.lbv (fun a ha => by obtain ⟨j9, hj9⟩ := List.getElem?_of_mem ha; exact ⟨(hLJ.chn j9 a hj9).2.1, (hLJ.chn j9 a hj9).2.2.1.1⟩) hOB (s := 3) (Or.inr rfl) (fun a hav haz => by rw [va_up_ne _ _ (show a ≠ mz from fun e => haz (by rw [e]; exact hmz)), va_up_ne _ _ hav]) ⟨kv, nv, tv, mv, pv, av, iv, none, ov, sv, some it, (some nr0), nI ms.length, efv, (va_up_ne _ _ (Ne.symm hzv)).trans (va_up_self _ _ _)⟩ (fun z hz => by obtain rfl := Option.some.inj (hmz.symm.trans hz); exact ⟨kz, nz, tz, ez, pz, az, iz, mz2, some v9, oz, sz9, efz, va_up_self _ _ _⟩) (fun _ => hnmv) (UPf.v (nu := nv) (kd := kv) (show (va_up (va_up f3 v9 (vE kv nv tv mv (some it) (some nr0) (nI ms.length) none ov sv)) mz (vE kz nz tz ez pz az iz (some v9) oz sz9)) v9 = vE kv nv tv mv (some it) (some nr0) (nI ms.length) none ov sv from (va_up_ne _ _ (Ne.symm hzv)).trans (va_up_self _ _ _)) (fun h => absurd c33 h))
                have hlen : (ms ++ [v9]).length = ms.length + 1 := by rw [List.length_append]; rfl
                have hl0 : (ms ++ [v9])[0]? = some m0 := by rw [List.getElem?_append_left hm]; exact hm0
                have hlz : (ms ++ [v9])[(ms ++ [v9]).length - 1]? = some v9 := by rw [hlen, Nat.add_sub_cancel, List.getElem?_append_right (Nat.le_refl _), Nat.sub_self]; rfl
                have hl : lv_has ls 10 [(7, .int (nI (ms ++ [v9]).length)), (6, .int 0), (4, va_rf ((ms ++ [v9])[(ms ++ [v9]).length - 1]?)), (5, .int (nI (ms ++ [v9]).length)), (9, .ref v9), (8, .ref nr0), (0, .ref jr), (1, .ref it), (2, .int (nI d)), (3, va_rf ((ms ++ [v9])[0]?))] := by rw [hl0, hlz, hlen]; exact hl
                refine w_same (fun hq => ?_)
                refine W.widen (k := 2 * (n - i) + 4) (n := 16 * (n - i) + 40) (by show (((2 * (p - i)) + 1) + 2 * (p3 - p2)) ≤ 2 * (n - i) + 4; omega) (by show (((16 * (p - i) - ms.length) + (p2 - p)) + (16 * (p3 - p2) - 1)) ≤ 16 * (n - i) + 40; omega) ?_
                exact ih ((ms ++ [v9]), 0, p3, (N ++ [nr0]) ++ N3, va_up E3 v9 3, (va_up (va_up f3 v9 (vE kv nv tv mv (some it) (some nr0) (nI ms.length) none ov sv)) mz (vE kz nz tz ez pz az iz (some v9) oz sz9)), uc3, ug3, dp3, md3, lb3, acc ++ [(txL f2 nr0, xv)], ct + c3) _ _ _ ⟨hLn, hMn, hq.mono (by show (((2 * (p - i)) + 1) + 2 * (p3 - p2)) ≤ 2 * (p3 - i); omega) (by show (((16 * (p - i) - ms.length) + (p2 - p)) + (16 * (p3 - p2) - 1)) ≤ 16 * (p3 - i) - (ms ++ [v9]).length; omega), hKn, hmd3⟩ (by show 4097 - (ms ++ [v9]).length < 4097 - ms.length; omega) hP hD hS (lv_sub hl [6, 7, 8, 9, 2, 3, 1, 0] rfl)
