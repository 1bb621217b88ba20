theorem z_886 : (.methodLink "QueryBench$Walk" 143 ⟨"java/lang/Math", "min", "(JJ)J"⟩ : Cond) ∈ gtbl := gt_in 886 (by decide +kernel) (by decide +kernel)
theorem z_887 : (.methodLink "QueryBench$Walk" 149 ⟨"java/lang/Math", "max", "(JJ)J"⟩ : Cond) ∈ gtbl := gt_in 887 (by decide +kernel) (by decide +kernel)
theorem z_888 : (.static ⟨"java/lang/Math", "max", "(JJ)J"⟩ : Cond) ∈ gtbl := gt_in 888 (by decide +kernel) (by decide +kernel)
abbrev b_Walk_cut : ByteArray := prog_12_method_12_code
def y_Walk_cut : MethodName := ⟨"QueryBench$Walk", "cut", "(JIII)J"⟩
abbrev k_Walk_cut : Cond := .code y_Walk_cut b_Walk_cut 7 (some .long)
theorem i_Walk_cut : k_Walk_cut ∈ gtbl := gt_in 885 (by decide +kernel) (by decide +kernel)
theorem d_Walk_cut_0 : decode b_Walk_cut 0 = .ok (.lload_n 0, 1) := by decide +kernel
theorem d_Walk_cut_1 : decode b_Walk_cut 1 = .ok (.lconst 0, 1) := by decide +kernel
theorem d_Walk_cut_2 : decode b_Walk_cut 2 = .ok (.lcmp, 1) := by decide +kernel
theorem d_Walk_cut_3 : decode b_Walk_cut 3 = .ok (.ifCond .ge 10, 3) := by decide +kernel
theorem d_Walk_cut_6 : decode b_Walk_cut 6 = .ok (.lload_n 0, 1) := by decide +kernel
theorem d_Walk_cut_7 : decode b_Walk_cut 7 = .ok (.iload_n 2, 1) := by decide +kernel
theorem d_Walk_cut_8 : decode b_Walk_cut 8 = .ok (.i2l, 1) := by decide +kernel
theorem d_Walk_cut_9 : decode b_Walk_cut 9 = .ok (.ladd, 1) := by decide +kernel
theorem d_Walk_cut_10 : decode b_Walk_cut 10 = .ok (.goto 4, 3) := by decide +kernel
theorem d_Walk_cut_13 : decode b_Walk_cut 13 = .ok (.lload_n 0, 1) := by decide +kernel
theorem d_Walk_cut_14 : decode b_Walk_cut 14 = .ok (.lstore 5, 2) := by decide +kernel
theorem d_Walk_cut_16 : decode b_Walk_cut 16 = .ok (.iload_n 3, 1) := by decide +kernel
theorem d_Walk_cut_17 : decode b_Walk_cut 17 = .ok (.i2l, 1) := by decide +kernel
theorem d_Walk_cut_18 : decode b_Walk_cut 18 = .ok (.iload 4, 2) := by decide +kernel
theorem d_Walk_cut_20 : decode b_Walk_cut 20 = .ok (.i2l, 1) := by decide +kernel
theorem d_Walk_cut_21 : decode b_Walk_cut 21 = .ok (.lload 5, 2) := by decide +kernel
theorem d_Walk_cut_23 : decode b_Walk_cut 23 = .ok (.invokestatic 143, 3) := by decide +kernel
theorem d_Walk_cut_26 : decode b_Walk_cut 26 = .ok (.invokestatic 149, 3) := by decide +kernel
theorem d_Walk_cut_29 : decode b_Walk_cut 29 = .ok (.lreturn, 1) := by decide +kernel
