theorem z_616 : (.fieldLink "QueryBench$Walk" 138 "QueryBench$Selector" "hasStart" "Z" : Cond) ∈ gtbl := gt_in 616 (by decide +kernel) (by decide +kernel)
theorem z_618 : (.fieldLink "QueryBench$Walk" 128 "QueryBench$Selector" "hasStop" "Z" : Cond) ∈ gtbl := gt_in 618 (by decide +kernel) (by decide +kernel)
theorem z_619 : (.fieldLink "QueryBench$Walk" 92 "QueryBench$Selector" "start" "J" : Cond) ∈ gtbl := gt_in 619 (by decide +kernel) (by decide +kernel)
theorem z_622 : (.fieldLink "QueryBench$Walk" 131 "QueryBench$Selector" "stop" "J" : Cond) ∈ gtbl := gt_in 622 (by decide +kernel) (by decide +kernel)
theorem z_625 : (.fieldLink "QueryBench$Walk" 126 "QueryBench$Selector" "step" "J" : Cond) ∈ gtbl := gt_in 625 (by decide +kernel) (by decide +kernel)
theorem z_883 : (.methodLink "QueryBench$Walk" 134 ⟨"QueryBench$Walk", "cut", "(JIII)J"⟩ : Cond) ∈ gtbl := gt_in 883 (by decide +kernel) (by decide +kernel)
theorem z_884 : (.static ⟨"QueryBench$Walk", "cut", "(JIII)J"⟩ : Cond) ∈ gtbl := gt_in 884 (by decide +kernel) (by decide +kernel)
theorem z_890 : (.constantLong "QueryBench$Walk" 141 (-1) : Cond) ∈ gtbl := gt_in 890 (by decide +kernel) (by decide +kernel)
theorem nI_m1 {n : Nat} (h : n ≤ 4096) : (nI n - 1).toInt = (n : Int) - 1 := by rw [show (1 : Int32) = nI 1 from rfl]; exact pk_sub_toInt (by omega) (by omega)
abbrev b_Walk_pushSlice : ByteArray := prog_12_method_11_code
def y_Walk_pushSlice : MethodName := ⟨"QueryBench$Walk", "pushSlice", "(LQueryBench$Value;LQueryBench$Selector;)V"⟩
abbrev k_Walk_pushSlice : Cond := .code y_Walk_pushSlice b_Walk_pushSlice 8 none
theorem i_Walk_pushSlice : k_Walk_pushSlice ∈ gtbl := gt_in 882 (by decide +kernel) (by decide +kernel)
theorem d_Walk_pushSlice_0 : decode b_Walk_pushSlice 0 = .ok (.aload_n 1, 1) := by decide +kernel
theorem d_Walk_pushSlice_1 : decode b_Walk_pushSlice 1 = .ok (.getfield 125, 3) := by decide +kernel
theorem d_Walk_pushSlice_4 : decode b_Walk_pushSlice 4 = .ok (.iconst 5, 1) := by decide +kernel
theorem d_Walk_pushSlice_5 : decode b_Walk_pushSlice 5 = .ok (.if_icmp .ne 12, 3) := by decide +kernel
theorem d_Walk_pushSlice_8 : decode b_Walk_pushSlice 8 = .ok (.aload_n 2, 1) := by decide +kernel
theorem d_Walk_pushSlice_9 : decode b_Walk_pushSlice 9 = .ok (.getfield 126, 3) := by decide +kernel
theorem d_Walk_pushSlice_12 : decode b_Walk_pushSlice 12 = .ok (.lconst 0, 1) := by decide +kernel
theorem d_Walk_pushSlice_13 : decode b_Walk_pushSlice 13 = .ok (.lcmp, 1) := by decide +kernel
theorem d_Walk_pushSlice_14 : decode b_Walk_pushSlice 14 = .ok (.ifCond .ne 4, 3) := by decide +kernel
theorem d_Walk_pushSlice_17 : decode b_Walk_pushSlice 17 = .ok (.return_, 1) := by decide +kernel
theorem d_Walk_pushSlice_18 : decode b_Walk_pushSlice 18 = .ok (.aload_n 1, 1) := by decide +kernel
theorem d_Walk_pushSlice_19 : decode b_Walk_pushSlice 19 = .ok (.invokevirtual 118, 3) := by decide +kernel
theorem d_Walk_pushSlice_22 : decode b_Walk_pushSlice 22 = .ok (.istore_n 3, 1) := by decide +kernel
theorem d_Walk_pushSlice_23 : decode b_Walk_pushSlice 23 = .ok (.aload_n 2, 1) := by decide +kernel
theorem d_Walk_pushSlice_24 : decode b_Walk_pushSlice 24 = .ok (.getfield 126, 3) := by decide +kernel
theorem d_Walk_pushSlice_27 : decode b_Walk_pushSlice 27 = .ok (.lconst 0, 1) := by decide +kernel
theorem d_Walk_pushSlice_28 : decode b_Walk_pushSlice 28 = .ok (.lcmp, 1) := by decide +kernel
theorem d_Walk_pushSlice_29 : decode b_Walk_pushSlice 29 = .ok (.ifCond .le 85, 3) := by decide +kernel
theorem d_Walk_pushSlice_32 : decode b_Walk_pushSlice 32 = .ok (.aload_n 2, 1) := by decide +kernel
theorem d_Walk_pushSlice_33 : decode b_Walk_pushSlice 33 = .ok (.getfield 128, 3) := by decide +kernel
theorem d_Walk_pushSlice_36 : decode b_Walk_pushSlice 36 = .ok (.ifCond .eq 16, 3) := by decide +kernel
theorem d_Walk_pushSlice_39 : decode b_Walk_pushSlice 39 = .ok (.aload_n 2, 1) := by decide +kernel
theorem d_Walk_pushSlice_40 : decode b_Walk_pushSlice 40 = .ok (.getfield 131, 3) := by decide +kernel
theorem d_Walk_pushSlice_43 : decode b_Walk_pushSlice 43 = .ok (.iload_n 3, 1) := by decide +kernel
theorem d_Walk_pushSlice_44 : decode b_Walk_pushSlice 44 = .ok (.iconst 0, 1) := by decide +kernel
theorem d_Walk_pushSlice_45 : decode b_Walk_pushSlice 45 = .ok (.iload_n 3, 1) := by decide +kernel
theorem d_Walk_pushSlice_46 : decode b_Walk_pushSlice 46 = .ok (.invokestatic 134, 3) := by decide +kernel
theorem d_Walk_pushSlice_49 : decode b_Walk_pushSlice 49 = .ok (.goto 5, 3) := by decide +kernel
theorem d_Walk_pushSlice_52 : decode b_Walk_pushSlice 52 = .ok (.iload_n 3, 1) := by decide +kernel
theorem d_Walk_pushSlice_53 : decode b_Walk_pushSlice 53 = .ok (.i2l, 1) := by decide +kernel
theorem d_Walk_pushSlice_54 : decode b_Walk_pushSlice 54 = .ok (.lstore 4, 2) := by decide +kernel
theorem d_Walk_pushSlice_56 : decode b_Walk_pushSlice 56 = .ok (.aload_n 2, 1) := by decide +kernel
theorem d_Walk_pushSlice_57 : decode b_Walk_pushSlice 57 = .ok (.getfield 138, 3) := by decide +kernel
theorem d_Walk_pushSlice_60 : decode b_Walk_pushSlice 60 = .ok (.ifCond .eq 16, 3) := by decide +kernel
theorem d_Walk_pushSlice_63 : decode b_Walk_pushSlice 63 = .ok (.aload_n 2, 1) := by decide +kernel
theorem d_Walk_pushSlice_64 : decode b_Walk_pushSlice 64 = .ok (.getfield 92, 3) := by decide +kernel
theorem d_Walk_pushSlice_67 : decode b_Walk_pushSlice 67 = .ok (.iload_n 3, 1) := by decide +kernel
theorem d_Walk_pushSlice_68 : decode b_Walk_pushSlice 68 = .ok (.iconst 0, 1) := by decide +kernel
theorem d_Walk_pushSlice_69 : decode b_Walk_pushSlice 69 = .ok (.iload_n 3, 1) := by decide +kernel
theorem d_Walk_pushSlice_70 : decode b_Walk_pushSlice 70 = .ok (.invokestatic 134, 3) := by decide +kernel
theorem d_Walk_pushSlice_73 : decode b_Walk_pushSlice 73 = .ok (.goto 4, 3) := by decide +kernel
theorem d_Walk_pushSlice_76 : decode b_Walk_pushSlice 76 = .ok (.lconst 0, 1) := by decide +kernel
theorem d_Walk_pushSlice_77 : decode b_Walk_pushSlice 77 = .ok (.lstore 6, 2) := by decide +kernel
theorem d_Walk_pushSlice_79 : decode b_Walk_pushSlice 79 = .ok (.lload 6, 2) := by decide +kernel
theorem d_Walk_pushSlice_81 : decode b_Walk_pushSlice 81 = .ok (.lload 4, 2) := by decide +kernel
theorem d_Walk_pushSlice_83 : decode b_Walk_pushSlice 83 = .ok (.lcmp, 1) := by decide +kernel
theorem d_Walk_pushSlice_84 : decode b_Walk_pushSlice 84 = .ok (.ifCond .ge 27, 3) := by decide +kernel
theorem d_Walk_pushSlice_87 : decode b_Walk_pushSlice 87 = .ok (.aload_n 0, 1) := by decide +kernel
theorem d_Walk_pushSlice_88 : decode b_Walk_pushSlice 88 = .ok (.aload_n 1, 1) := by decide +kernel
theorem d_Walk_pushSlice_89 : decode b_Walk_pushSlice 89 = .ok (.getfield 122, 3) := by decide +kernel
theorem d_Walk_pushSlice_92 : decode b_Walk_pushSlice 92 = .ok (.lload 6, 2) := by decide +kernel
theorem d_Walk_pushSlice_94 : decode b_Walk_pushSlice 94 = .ok (.l2i, 1) := by decide +kernel
theorem d_Walk_pushSlice_95 : decode b_Walk_pushSlice 95 = .ok (.aaload, 1) := by decide +kernel
theorem d_Walk_pushSlice_96 : decode b_Walk_pushSlice 96 = .ok (.invokevirtual 38, 3) := by decide +kernel
theorem d_Walk_pushSlice_99 : decode b_Walk_pushSlice 99 = .ok (.lload 6, 2) := by decide +kernel
theorem d_Walk_pushSlice_101 : decode b_Walk_pushSlice 101 = .ok (.aload_n 2, 1) := by decide +kernel
theorem d_Walk_pushSlice_102 : decode b_Walk_pushSlice 102 = .ok (.getfield 126, 3) := by decide +kernel
theorem d_Walk_pushSlice_105 : decode b_Walk_pushSlice 105 = .ok (.ladd, 1) := by decide +kernel
theorem d_Walk_pushSlice_106 : decode b_Walk_pushSlice 106 = .ok (.lstore 6, 2) := by decide +kernel
theorem d_Walk_pushSlice_108 : decode b_Walk_pushSlice 108 = .ok (.goto (-29), 3) := by decide +kernel
theorem d_Walk_pushSlice_111 : decode b_Walk_pushSlice 111 = .ok (.goto 90, 3) := by decide +kernel
theorem d_Walk_pushSlice_114 : decode b_Walk_pushSlice 114 = .ok (.aload_n 2, 1) := by decide +kernel
theorem d_Walk_pushSlice_115 : decode b_Walk_pushSlice 115 = .ok (.getfield 128, 3) := by decide +kernel
theorem d_Walk_pushSlice_118 : decode b_Walk_pushSlice 118 = .ok (.ifCond .eq 18, 3) := by decide +kernel
theorem d_Walk_pushSlice_121 : decode b_Walk_pushSlice 121 = .ok (.aload_n 2, 1) := by decide +kernel
theorem d_Walk_pushSlice_122 : decode b_Walk_pushSlice 122 = .ok (.getfield 131, 3) := by decide +kernel
theorem d_Walk_pushSlice_125 : decode b_Walk_pushSlice 125 = .ok (.iload_n 3, 1) := by decide +kernel
theorem d_Walk_pushSlice_126 : decode b_Walk_pushSlice 126 = .ok (.iconst (-1), 1) := by decide +kernel
theorem d_Walk_pushSlice_127 : decode b_Walk_pushSlice 127 = .ok (.iload_n 3, 1) := by decide +kernel
theorem d_Walk_pushSlice_128 : decode b_Walk_pushSlice 128 = .ok (.iconst 1, 1) := by decide +kernel
theorem d_Walk_pushSlice_129 : decode b_Walk_pushSlice 129 = .ok (.isub, 1) := by decide +kernel
theorem d_Walk_pushSlice_130 : decode b_Walk_pushSlice 130 = .ok (.invokestatic 134, 3) := by decide +kernel
theorem d_Walk_pushSlice_133 : decode b_Walk_pushSlice 133 = .ok (.goto 6, 3) := by decide +kernel
theorem d_Walk_pushSlice_136 : decode b_Walk_pushSlice 136 = .ok (.ldc2_w 141, 3) := by decide +kernel
theorem d_Walk_pushSlice_139 : decode b_Walk_pushSlice 139 = .ok (.lstore 4, 2) := by decide +kernel
theorem d_Walk_pushSlice_141 : decode b_Walk_pushSlice 141 = .ok (.aload_n 2, 1) := by decide +kernel
theorem d_Walk_pushSlice_142 : decode b_Walk_pushSlice 142 = .ok (.getfield 138, 3) := by decide +kernel
theorem d_Walk_pushSlice_145 : decode b_Walk_pushSlice 145 = .ok (.ifCond .eq 18, 3) := by decide +kernel
theorem d_Walk_pushSlice_148 : decode b_Walk_pushSlice 148 = .ok (.aload_n 2, 1) := by decide +kernel
theorem d_Walk_pushSlice_149 : decode b_Walk_pushSlice 149 = .ok (.getfield 92, 3) := by decide +kernel
theorem d_Walk_pushSlice_152 : decode b_Walk_pushSlice 152 = .ok (.iload_n 3, 1) := by decide +kernel
theorem d_Walk_pushSlice_153 : decode b_Walk_pushSlice 153 = .ok (.iconst (-1), 1) := by decide +kernel
theorem d_Walk_pushSlice_154 : decode b_Walk_pushSlice 154 = .ok (.iload_n 3, 1) := by decide +kernel
theorem d_Walk_pushSlice_155 : decode b_Walk_pushSlice 155 = .ok (.iconst 1, 1) := by decide +kernel
theorem d_Walk_pushSlice_156 : decode b_Walk_pushSlice 156 = .ok (.isub, 1) := by decide +kernel
theorem d_Walk_pushSlice_157 : decode b_Walk_pushSlice 157 = .ok (.invokestatic 134, 3) := by decide +kernel
theorem d_Walk_pushSlice_160 : decode b_Walk_pushSlice 160 = .ok (.goto 7, 3) := by decide +kernel
theorem d_Walk_pushSlice_163 : decode b_Walk_pushSlice 163 = .ok (.iload_n 3, 1) := by decide +kernel
theorem d_Walk_pushSlice_164 : decode b_Walk_pushSlice 164 = .ok (.iconst 1, 1) := by decide +kernel
theorem d_Walk_pushSlice_165 : decode b_Walk_pushSlice 165 = .ok (.isub, 1) := by decide +kernel
theorem d_Walk_pushSlice_166 : decode b_Walk_pushSlice 166 = .ok (.i2l, 1) := by decide +kernel
theorem d_Walk_pushSlice_167 : decode b_Walk_pushSlice 167 = .ok (.lstore 6, 2) := by decide +kernel
theorem d_Walk_pushSlice_169 : decode b_Walk_pushSlice 169 = .ok (.lload 6, 2) := by decide +kernel
theorem d_Walk_pushSlice_171 : decode b_Walk_pushSlice 171 = .ok (.lload 4, 2) := by decide +kernel
theorem d_Walk_pushSlice_173 : decode b_Walk_pushSlice 173 = .ok (.lcmp, 1) := by decide +kernel
theorem d_Walk_pushSlice_174 : decode b_Walk_pushSlice 174 = .ok (.ifCond .le 27, 3) := by decide +kernel
theorem d_Walk_pushSlice_177 : decode b_Walk_pushSlice 177 = .ok (.aload_n 0, 1) := by decide +kernel
theorem d_Walk_pushSlice_178 : decode b_Walk_pushSlice 178 = .ok (.aload_n 1, 1) := by decide +kernel
theorem d_Walk_pushSlice_179 : decode b_Walk_pushSlice 179 = .ok (.getfield 122, 3) := by decide +kernel
theorem d_Walk_pushSlice_182 : decode b_Walk_pushSlice 182 = .ok (.lload 6, 2) := by decide +kernel
theorem d_Walk_pushSlice_184 : decode b_Walk_pushSlice 184 = .ok (.l2i, 1) := by decide +kernel
theorem d_Walk_pushSlice_185 : decode b_Walk_pushSlice 185 = .ok (.aaload, 1) := by decide +kernel
theorem d_Walk_pushSlice_186 : decode b_Walk_pushSlice 186 = .ok (.invokevirtual 38, 3) := by decide +kernel
theorem d_Walk_pushSlice_189 : decode b_Walk_pushSlice 189 = .ok (.lload 6, 2) := by decide +kernel
theorem d_Walk_pushSlice_191 : decode b_Walk_pushSlice 191 = .ok (.aload_n 2, 1) := by decide +kernel
theorem d_Walk_pushSlice_192 : decode b_Walk_pushSlice 192 = .ok (.getfield 126, 3) := by decide +kernel
theorem d_Walk_pushSlice_195 : decode b_Walk_pushSlice 195 = .ok (.ladd, 1) := by decide +kernel
theorem d_Walk_pushSlice_196 : decode b_Walk_pushSlice 196 = .ok (.lstore 6, 2) := by decide +kernel
theorem d_Walk_pushSlice_198 : decode b_Walk_pushSlice 198 = .ok (.goto (-29), 3) := by decide +kernel
theorem d_Walk_pushSlice_201 : decode b_Walk_pushSlice 201 = .ok (.return_, 1) := by decide +kernel
