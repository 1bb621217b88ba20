theorem z_121 : (.fieldLink "QueryBench$Walk" 17 "QueryBench$Walk" "root" "LQueryBench$Value;" : Cond) ∈ gtbl := gt_in 121 (by decide +kernel) (by decide +kernel)
theorem z_338 : (.fieldLink "QueryBench$Walk" 70 "QueryBench$Value" "nextOfAll" "LQueryBench$Value;" : Cond) ∈ gtbl := gt_in 338 (by decide +kernel) (by decide +kernel)
theorem z_340 : (.fieldLink "QueryBench$Walk" 67 "QueryBench$Value" "span" "I" : Cond) ∈ gtbl := gt_in 340 (by decide +kernel) (by decide +kernel)
theorem z_547 : (.fieldLink "QueryBench$Walk" 32 "QueryBench$Query" "fromRoot" "Z" : Cond) ∈ gtbl := gt_in 547 (by decide +kernel) (by decide +kernel)
theorem z_552 : (.fieldLink "QueryBench$Walk" 42 "QueryBench$Query" "first" "LQueryBench$Segment;" : Cond) ∈ gtbl := gt_in 552 (by decide +kernel) (by decide +kernel)
theorem z_576 : (.fieldLink "QueryBench$Walk" 61 "QueryBench$Segment" "descends" "Z" : Cond) ∈ gtbl := gt_in 576 (by decide +kernel) (by decide +kernel)
theorem z_581 : (.fieldLink "QueryBench$Walk" 50 "QueryBench$Segment" "next" "LQueryBench$Segment;" : Cond) ∈ gtbl := gt_in 581 (by decide +kernel) (by decide +kernel)
theorem z_849 : (.methodLink "QueryBench$Walk" 46 ⟨"QueryBench$Walk", "step", "(LQueryBench$Segment;LQueryBench$Value;)V"⟩ : Cond) ∈ gtbl := gt_in 849 (by decide +kernel) (by decide +kernel)
theorem z_851 : (.instanceMethod ⟨"QueryBench$Walk", "step", "(LQueryBench$Segment;LQueryBench$Value;)V"⟩ : Cond) ∈ gtbl := gt_in 851 (by decide +kernel) (by decide +kernel)
theorem z_853 : (.methodLink "QueryBench$Walk" 64 ⟨"QueryBench$Walk", "choose", "(LQueryBench$Segment;LQueryBench$Value;)V"⟩ : Cond) ∈ gtbl := gt_in 853 (by decide +kernel) (by decide +kernel)
theorem z_855 : (.instanceMethod ⟨"QueryBench$Walk", "choose", "(LQueryBench$Segment;LQueryBench$Value;)V"⟩ : Cond) ∈ gtbl := gt_in 855 (by decide +kernel) (by decide +kernel)
abbrev b_Walk_step : ByteArray := prog_12_method_6_code
def y_Walk_step : MethodName := ⟨"QueryBench$Walk", "step", "(LQueryBench$Segment;LQueryBench$Value;)V"⟩
abbrev k_Walk_step : Cond := .code y_Walk_step b_Walk_step 5 none
theorem i_Walk_step : k_Walk_step ∈ gtbl := gt_in 852 (by decide +kernel) (by decide +kernel)
theorem d_Walk_step_0 : decode b_Walk_step 0 = .ok (.aload_n 1, 1) := by decide +kernel
theorem d_Walk_step_1 : decode b_Walk_step 1 = .ok (.getfield 61, 3) := by decide +kernel
theorem d_Walk_step_4 : decode b_Walk_step 4 = .ok (.ifCond .ne 10, 3) := by decide +kernel
theorem d_Walk_step_7 : decode b_Walk_step 7 = .ok (.aload_n 0, 1) := by decide +kernel
theorem d_Walk_step_8 : decode b_Walk_step 8 = .ok (.aload_n 1, 1) := by decide +kernel
theorem d_Walk_step_9 : decode b_Walk_step 9 = .ok (.aload_n 2, 1) := by decide +kernel
theorem d_Walk_step_10 : decode b_Walk_step 10 = .ok (.invokevirtual 64, 3) := by decide +kernel
theorem d_Walk_step_13 : decode b_Walk_step 13 = .ok (.return_, 1) := by decide +kernel
theorem d_Walk_step_14 : decode b_Walk_step 14 = .ok (.aload_n 2, 1) := by decide +kernel
theorem d_Walk_step_15 : decode b_Walk_step 15 = .ok (.astore_n 3, 1) := by decide +kernel
theorem d_Walk_step_16 : decode b_Walk_step 16 = .ok (.iconst 0, 1) := by decide +kernel
theorem d_Walk_step_17 : decode b_Walk_step 17 = .ok (.istore 4, 2) := by decide +kernel
theorem d_Walk_step_19 : decode b_Walk_step 19 = .ok (.iload 4, 2) := by decide +kernel
theorem d_Walk_step_21 : decode b_Walk_step 21 = .ok (.aload_n 2, 1) := by decide +kernel
theorem d_Walk_step_22 : decode b_Walk_step 22 = .ok (.getfield 67, 3) := by decide +kernel
theorem d_Walk_step_25 : decode b_Walk_step 25 = .ok (.if_icmp .ge 28, 3) := by decide +kernel
theorem d_Walk_step_28 : decode b_Walk_step 28 = .ok (.aload_n 3, 1) := by decide +kernel
theorem d_Walk_step_29 : decode b_Walk_step 29 = .ok (.ifnull 24, 3) := by decide +kernel
theorem d_Walk_step_32 : decode b_Walk_step 32 = .ok (.aload_n 0, 1) := by decide +kernel
theorem d_Walk_step_33 : decode b_Walk_step 33 = .ok (.invokevirtual 58, 3) := by decide +kernel
theorem d_Walk_step_36 : decode b_Walk_step 36 = .ok (.aload_n 0, 1) := by decide +kernel
theorem d_Walk_step_37 : decode b_Walk_step 37 = .ok (.aload_n 1, 1) := by decide +kernel
theorem d_Walk_step_38 : decode b_Walk_step 38 = .ok (.aload_n 3, 1) := by decide +kernel
theorem d_Walk_step_39 : decode b_Walk_step 39 = .ok (.invokevirtual 64, 3) := by decide +kernel
theorem d_Walk_step_42 : decode b_Walk_step 42 = .ok (.aload_n 3, 1) := by decide +kernel
theorem d_Walk_step_43 : decode b_Walk_step 43 = .ok (.getfield 70, 3) := by decide +kernel
theorem d_Walk_step_46 : decode b_Walk_step 46 = .ok (.astore_n 3, 1) := by decide +kernel
theorem d_Walk_step_47 : decode b_Walk_step 47 = .ok (.iinc 4 1, 3) := by decide +kernel
theorem d_Walk_step_50 : decode b_Walk_step 50 = .ok (.goto (-31), 3) := by decide +kernel
theorem d_Walk_step_53 : decode b_Walk_step 53 = .ok (.return_, 1) := by decide +kernel
