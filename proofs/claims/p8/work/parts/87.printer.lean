theorem z_967 : (.constantLong "QueryBench$Printer" 94 10 : Cond) ∈ gtbl := gt_in 967 (by decide +kernel) (by decide +kernel)
abbrev b_Printer_shortEscape : ByteArray := prog_5_method_11_code
def y_Printer_shortEscape : MethodName := ⟨"QueryBench$Printer", "shortEscape", "(II)I"⟩
abbrev k_Printer_shortEscape : Cond := .code y_Printer_shortEscape b_Printer_shortEscape 2 (some .int)
theorem i_Printer_shortEscape : k_Printer_shortEscape ∈ gtbl := gt_in 978 (by decide +kernel) (by decide +kernel)
theorem d_Printer_shortEscape_0 : decode b_Printer_shortEscape 0 = .ok (.iload_n 0, 1) := by decide +kernel
theorem d_Printer_shortEscape_1 : decode b_Printer_shortEscape 1 = .ok (.tableswitch 54 8 13 #[39, 42, 45, 54, 48, 51], 39) := by decide +kernel
theorem d_Printer_shortEscape_40 : decode b_Printer_shortEscape 40 = .ok (.bipush 98, 2) := by decide +kernel
theorem d_Printer_shortEscape_42 : decode b_Printer_shortEscape 42 = .ok (.ireturn, 1) := by decide +kernel
theorem d_Printer_shortEscape_43 : decode b_Printer_shortEscape 43 = .ok (.bipush 116, 2) := by decide +kernel
theorem d_Printer_shortEscape_45 : decode b_Printer_shortEscape 45 = .ok (.ireturn, 1) := by decide +kernel
theorem d_Printer_shortEscape_46 : decode b_Printer_shortEscape 46 = .ok (.bipush 110, 2) := by decide +kernel
theorem d_Printer_shortEscape_48 : decode b_Printer_shortEscape 48 = .ok (.ireturn, 1) := by decide +kernel
theorem d_Printer_shortEscape_49 : decode b_Printer_shortEscape 49 = .ok (.bipush 102, 2) := by decide +kernel
theorem d_Printer_shortEscape_51 : decode b_Printer_shortEscape 51 = .ok (.ireturn, 1) := by decide +kernel
theorem d_Printer_shortEscape_52 : decode b_Printer_shortEscape 52 = .ok (.bipush 114, 2) := by decide +kernel
theorem d_Printer_shortEscape_54 : decode b_Printer_shortEscape 54 = .ok (.ireturn, 1) := by decide +kernel
theorem d_Printer_shortEscape_55 : decode b_Printer_shortEscape 55 = .ok (.iload_n 0, 1) := by decide +kernel
theorem d_Printer_shortEscape_56 : decode b_Printer_shortEscape 56 = .ok (.iload_n 1, 1) := by decide +kernel
theorem d_Printer_shortEscape_57 : decode b_Printer_shortEscape 57 = .ok (.if_icmp .eq 9, 3) := by decide +kernel
theorem d_Printer_shortEscape_60 : decode b_Printer_shortEscape 60 = .ok (.iload_n 0, 1) := by decide +kernel
theorem d_Printer_shortEscape_61 : decode b_Printer_shortEscape 61 = .ok (.bipush 92, 2) := by decide +kernel
theorem d_Printer_shortEscape_63 : decode b_Printer_shortEscape 63 = .ok (.if_icmp .ne 7, 3) := by decide +kernel
theorem d_Printer_shortEscape_66 : decode b_Printer_shortEscape 66 = .ok (.iload_n 0, 1) := by decide +kernel
theorem d_Printer_shortEscape_67 : decode b_Printer_shortEscape 67 = .ok (.goto 4, 3) := by decide +kernel
theorem d_Printer_shortEscape_70 : decode b_Printer_shortEscape 70 = .ok (.iconst 0, 1) := by decide +kernel
theorem d_Printer_shortEscape_71 : decode b_Printer_shortEscape 71 = .ok (.ireturn, 1) := by decide +kernel
abbrev b_Printer_number : ByteArray := prog_5_method_8_code
def y_Printer_number : MethodName := ⟨"QueryBench$Printer", "number", "(J)V"⟩
abbrev k_Printer_number : Cond := .code y_Printer_number b_Printer_number 7 none
theorem i_Printer_number : k_Printer_number ∈ gtbl := gt_in 966 (by decide +kernel) (by decide +kernel)
theorem d_Printer_number_0 : decode b_Printer_number 0 = .ok (.lload_n 1, 1) := by decide +kernel
theorem d_Printer_number_1 : decode b_Printer_number 1 = .ok (.lconst 0, 1) := by decide +kernel
theorem d_Printer_number_2 : decode b_Printer_number 2 = .ok (.lcmp, 1) := by decide +kernel
theorem d_Printer_number_3 : decode b_Printer_number 3 = .ok (.ifCond .ge 8, 3) := by decide +kernel
theorem d_Printer_number_6 : decode b_Printer_number 6 = .ok (.lload_n 1, 1) := by decide +kernel
theorem d_Printer_number_7 : decode b_Printer_number 7 = .ok (.lneg, 1) := by decide +kernel
theorem d_Printer_number_8 : decode b_Printer_number 8 = .ok (.goto 4, 3) := by decide +kernel
theorem d_Printer_number_11 : decode b_Printer_number 11 = .ok (.lload_n 1, 1) := by decide +kernel
theorem d_Printer_number_12 : decode b_Printer_number 12 = .ok (.lstore_n 3, 1) := by decide +kernel
theorem d_Printer_number_13 : decode b_Printer_number 13 = .ok (.lload_n 1, 1) := by decide +kernel
theorem d_Printer_number_14 : decode b_Printer_number 14 = .ok (.lconst 0, 1) := by decide +kernel
theorem d_Printer_number_15 : decode b_Printer_number 15 = .ok (.lcmp, 1) := by decide +kernel
theorem d_Printer_number_16 : decode b_Printer_number 16 = .ok (.ifCond .ge 9, 3) := by decide +kernel
theorem d_Printer_number_19 : decode b_Printer_number 19 = .ok (.aload_n 0, 1) := by decide +kernel
theorem d_Printer_number_20 : decode b_Printer_number 20 = .ok (.bipush 45, 2) := by decide +kernel
theorem d_Printer_number_22 : decode b_Printer_number 22 = .ok (.invokevirtual 25, 3) := by decide +kernel
theorem d_Printer_number_25 : decode b_Printer_number 25 = .ok (.lconst 1, 1) := by decide +kernel
theorem d_Printer_number_26 : decode b_Printer_number 26 = .ok (.lstore 5, 2) := by decide +kernel
theorem d_Printer_number_28 : decode b_Printer_number 28 = .ok (.lload 5, 2) := by decide +kernel
theorem d_Printer_number_30 : decode b_Printer_number 30 = .ok (.lload_n 3, 1) := by decide +kernel
theorem d_Printer_number_31 : decode b_Printer_number 31 = .ok (.ldc2_w 94, 3) := by decide +kernel
theorem d_Printer_number_34 : decode b_Printer_number 34 = .ok (.ldiv, 1) := by decide +kernel
theorem d_Printer_number_35 : decode b_Printer_number 35 = .ok (.lcmp, 1) := by decide +kernel
theorem d_Printer_number_36 : decode b_Printer_number 36 = .ok (.ifCond .gt 14, 3) := by decide +kernel
theorem d_Printer_number_39 : decode b_Printer_number 39 = .ok (.lload 5, 2) := by decide +kernel
theorem d_Printer_number_41 : decode b_Printer_number 41 = .ok (.ldc2_w 94, 3) := by decide +kernel
theorem d_Printer_number_44 : decode b_Printer_number 44 = .ok (.lmul, 1) := by decide +kernel
theorem d_Printer_number_45 : decode b_Printer_number 45 = .ok (.lstore 5, 2) := by decide +kernel
theorem d_Printer_number_47 : decode b_Printer_number 47 = .ok (.goto (-19), 3) := by decide +kernel
theorem d_Printer_number_50 : decode b_Printer_number 50 = .ok (.lload 5, 2) := by decide +kernel
theorem d_Printer_number_52 : decode b_Printer_number 52 = .ok (.lconst 0, 1) := by decide +kernel
theorem d_Printer_number_53 : decode b_Printer_number 53 = .ok (.lcmp, 1) := by decide +kernel
theorem d_Printer_number_54 : decode b_Printer_number 54 = .ok (.ifCond .le 30, 3) := by decide +kernel
theorem d_Printer_number_57 : decode b_Printer_number 57 = .ok (.aload_n 0, 1) := by decide +kernel
theorem d_Printer_number_58 : decode b_Printer_number 58 = .ok (.bipush 48, 2) := by decide +kernel
theorem d_Printer_number_60 : decode b_Printer_number 60 = .ok (.lload_n 3, 1) := by decide +kernel
theorem d_Printer_number_61 : decode b_Printer_number 61 = .ok (.lload 5, 2) := by decide +kernel
theorem d_Printer_number_63 : decode b_Printer_number 63 = .ok (.ldiv, 1) := by decide +kernel
theorem d_Printer_number_64 : decode b_Printer_number 64 = .ok (.ldc2_w 94, 3) := by decide +kernel
theorem d_Printer_number_67 : decode b_Printer_number 67 = .ok (.lrem, 1) := by decide +kernel
theorem d_Printer_number_68 : decode b_Printer_number 68 = .ok (.l2i, 1) := by decide +kernel
theorem d_Printer_number_69 : decode b_Printer_number 69 = .ok (.iadd, 1) := by decide +kernel
theorem d_Printer_number_70 : decode b_Printer_number 70 = .ok (.invokevirtual 25, 3) := by decide +kernel
theorem d_Printer_number_73 : decode b_Printer_number 73 = .ok (.lload 5, 2) := by decide +kernel
theorem d_Printer_number_75 : decode b_Printer_number 75 = .ok (.ldc2_w 94, 3) := by decide +kernel
theorem d_Printer_number_78 : decode b_Printer_number 78 = .ok (.ldiv, 1) := by decide +kernel
theorem d_Printer_number_79 : decode b_Printer_number 79 = .ok (.lstore 5, 2) := by decide +kernel
theorem d_Printer_number_81 : decode b_Printer_number 81 = .ok (.goto (-31), 3) := by decide +kernel
theorem d_Printer_number_84 : decode b_Printer_number 84 = .ok (.return_, 1) := by decide +kernel
