theorem z_116 : (.fieldLink "QueryBench" 107 "QueryBench$Walk" "list" "[LQueryBench$Value;" : Cond) ∈ gtbl := gt_in 116 (by decide +kernel) (by decide +kernel)
theorem z_118 : (.fieldLink "QueryBench" 104 "QueryBench$Walk" "top" "I" : Cond) ∈ gtbl := gt_in 118 (by decide +kernel) (by decide +kernel)
theorem z_120 : (.fieldLink "QueryBench" 114 "QueryBench$Walk" "spent" "I" : Cond) ∈ gtbl := gt_in 120 (by decide +kernel) (by decide +kernel)
theorem z_283 : (.methodLink "QueryBench" 69 ⟨"QueryBench", "checkNumber", "(I)V"⟩ : Cond) ∈ gtbl := gt_in 283 (by decide +kernel) (by decide +kernel)
theorem z_284 : (.static ⟨"QueryBench", "checkNumber", "(I)V"⟩ : Cond) ∈ gtbl := gt_in 284 (by decide +kernel) (by decide +kernel)
theorem z_812 : (.methodLink "QueryBench" 96 ⟨"QueryBench", "checkReady", "(I)V"⟩ : Cond) ∈ gtbl := gt_in 812 (by decide +kernel) (by decide +kernel)
theorem z_814 : (.instanceMethod ⟨"QueryBench", "checkReady", "(I)V"⟩ : Cond) ∈ gtbl := gt_in 814 (by decide +kernel) (by decide +kernel)
theorem z_831 : (.methodLink "QueryBench" 99 ⟨"QueryBench$Walk", "begin", "(LQueryBench$Query;LQueryBench$Value;)I"⟩ : Cond) ∈ gtbl := gt_in 831 (by decide +kernel) (by decide +kernel)
theorem z_832 : (.instanceMethod ⟨"QueryBench$Walk", "begin", "(LQueryBench$Query;LQueryBench$Value;)I"⟩ : Cond) ∈ gtbl := gt_in 832 (by decide +kernel) (by decide +kernel)
theorem z_833 : (.selects "QueryBench$Walk" ⟨"QueryBench$Walk", "begin", "(LQueryBench$Query;LQueryBench$Value;)I"⟩ ⟨"QueryBench$Walk", "begin", "(LQueryBench$Query;LQueryBench$Value;)I"⟩ : Cond) ∈ gtbl := gt_in 833 (by decide +kernel) (by decide +kernel)
theorem z_949 : (.methodLink "QueryBench" 110 ⟨"QueryBench$Printer", "line", "(LQueryBench$Value;)V"⟩ : Cond) ∈ gtbl := gt_in 949 (by decide +kernel) (by decide +kernel)
theorem z_950 : (.instanceMethod ⟨"QueryBench$Printer", "line", "(LQueryBench$Value;)V"⟩ : Cond) ∈ gtbl := gt_in 950 (by decide +kernel) (by decide +kernel)
theorem z_951 : (.selects "QueryBench$Printer" ⟨"QueryBench$Printer", "line", "(LQueryBench$Value;)V"⟩ ⟨"QueryBench$Printer", "line", "(LQueryBench$Value;)V"⟩ : Cond) ∈ gtbl := gt_in 951 (by decide +kernel) (by decide +kernel)
abbrev b_QB_work : ByteArray := prog_1_method_7_code
def y_QB_work : MethodName := ⟨"QueryBench", "work", "(I)I"⟩
abbrev k_QB_work : Cond := .code y_QB_work b_QB_work 2 (some .int)
theorem i_QB_work : k_QB_work ∈ gtbl := gt_in 1005 (by decide +kernel) (by decide +kernel)
theorem d_QB_work_0 : decode b_QB_work 0 = .ok (.iload_n 1, 1) := by decide +kernel
theorem d_QB_work_1 : decode b_QB_work 1 = .ok (.invokestatic 69, 3) := by decide +kernel
theorem d_QB_work_4 : decode b_QB_work 4 = .ok (.aload_n 0, 1) := by decide +kernel
theorem d_QB_work_5 : decode b_QB_work 5 = .ok (.iload_n 1, 1) := by decide +kernel
theorem d_QB_work_6 : decode b_QB_work 6 = .ok (.invokevirtual 96, 3) := by decide +kernel
theorem d_QB_work_9 : decode b_QB_work 9 = .ok (.aload_n 0, 1) := by decide +kernel
theorem d_QB_work_10 : decode b_QB_work 10 = .ok (.getfield 35, 3) := by decide +kernel
theorem d_QB_work_13 : decode b_QB_work 13 = .ok (.aload_n 0, 1) := by decide +kernel
theorem d_QB_work_14 : decode b_QB_work 14 = .ok (.getfield 86, 3) := by decide +kernel
theorem d_QB_work_17 : decode b_QB_work 17 = .ok (.aload_n 0, 1) := by decide +kernel
theorem d_QB_work_18 : decode b_QB_work 18 = .ok (.getfield 41, 3) := by decide +kernel
theorem d_QB_work_21 : decode b_QB_work 21 = .ok (.iload_n 1, 1) := by decide +kernel
theorem d_QB_work_22 : decode b_QB_work 22 = .ok (.aaload, 1) := by decide +kernel
theorem d_QB_work_23 : decode b_QB_work 23 = .ok (.invokevirtual 99, 3) := by decide +kernel
theorem d_QB_work_26 : decode b_QB_work 26 = .ok (.pop, 1) := by decide +kernel
theorem d_QB_work_27 : decode b_QB_work 27 = .ok (.aload_n 0, 1) := by decide +kernel
theorem d_QB_work_28 : decode b_QB_work 28 = .ok (.getfield 35, 3) := by decide +kernel
theorem d_QB_work_31 : decode b_QB_work 31 = .ok (.getfield 114, 3) := by decide +kernel
theorem d_QB_work_34 : decode b_QB_work 34 = .ok (.ireturn, 1) := by decide +kernel
abbrev b_QB_run : ByteArray := prog_1_method_6_code
def y_QB_run : MethodName := ⟨"QueryBench", "run", "(I)I"⟩
abbrev k_QB_run : Cond := .code y_QB_run b_QB_run 4 (some .int)
theorem i_QB_run : k_QB_run ∈ gtbl := gt_in 811 (by decide +kernel) (by decide +kernel)
theorem d_QB_run_0 : decode b_QB_run 0 = .ok (.iload_n 1, 1) := by decide +kernel
theorem d_QB_run_1 : decode b_QB_run 1 = .ok (.invokestatic 69, 3) := by decide +kernel
theorem d_QB_run_4 : decode b_QB_run 4 = .ok (.aload_n 0, 1) := by decide +kernel
theorem d_QB_run_5 : decode b_QB_run 5 = .ok (.iload_n 1, 1) := by decide +kernel
theorem d_QB_run_6 : decode b_QB_run 6 = .ok (.invokevirtual 96, 3) := by decide +kernel
theorem d_QB_run_9 : decode b_QB_run 9 = .ok (.aload_n 0, 1) := by decide +kernel
theorem d_QB_run_10 : decode b_QB_run 10 = .ok (.getfield 35, 3) := by decide +kernel
theorem d_QB_run_13 : decode b_QB_run 13 = .ok (.aload_n 0, 1) := by decide +kernel
theorem d_QB_run_14 : decode b_QB_run 14 = .ok (.getfield 86, 3) := by decide +kernel
theorem d_QB_run_17 : decode b_QB_run 17 = .ok (.aload_n 0, 1) := by decide +kernel
theorem d_QB_run_18 : decode b_QB_run 18 = .ok (.getfield 41, 3) := by decide +kernel
theorem d_QB_run_21 : decode b_QB_run 21 = .ok (.iload_n 1, 1) := by decide +kernel
theorem d_QB_run_22 : decode b_QB_run 22 = .ok (.aaload, 1) := by decide +kernel
theorem d_QB_run_23 : decode b_QB_run 23 = .ok (.invokevirtual 99, 3) := by decide +kernel
theorem d_QB_run_26 : decode b_QB_run 26 = .ok (.istore_n 2, 1) := by decide +kernel
theorem d_QB_run_27 : decode b_QB_run 27 = .ok (.aload_n 0, 1) := by decide +kernel
theorem d_QB_run_28 : decode b_QB_run 28 = .ok (.getfield 52, 3) := by decide +kernel
theorem d_QB_run_31 : decode b_QB_run 31 = .ok (.iconst 0, 1) := by decide +kernel
theorem d_QB_run_32 : decode b_QB_run 32 = .ok (.putfield 103, 3) := by decide +kernel
theorem d_QB_run_35 : decode b_QB_run 35 = .ok (.iload_n 2, 1) := by decide +kernel
theorem d_QB_run_36 : decode b_QB_run 36 = .ok (.istore_n 3, 1) := by decide +kernel
theorem d_QB_run_37 : decode b_QB_run 37 = .ok (.iload_n 3, 1) := by decide +kernel
theorem d_QB_run_38 : decode b_QB_run 38 = .ok (.aload_n 0, 1) := by decide +kernel
theorem d_QB_run_39 : decode b_QB_run 39 = .ok (.getfield 35, 3) := by decide +kernel
theorem d_QB_run_42 : decode b_QB_run 42 = .ok (.getfield 104, 3) := by decide +kernel
theorem d_QB_run_45 : decode b_QB_run 45 = .ok (.if_icmp .ge 25, 3) := by decide +kernel
theorem d_QB_run_48 : decode b_QB_run 48 = .ok (.aload_n 0, 1) := by decide +kernel
theorem d_QB_run_49 : decode b_QB_run 49 = .ok (.getfield 52, 3) := by decide +kernel
theorem d_QB_run_52 : decode b_QB_run 52 = .ok (.aload_n 0, 1) := by decide +kernel
theorem d_QB_run_53 : decode b_QB_run 53 = .ok (.getfield 35, 3) := by decide +kernel
theorem d_QB_run_56 : decode b_QB_run 56 = .ok (.getfield 107, 3) := by decide +kernel
theorem d_QB_run_59 : decode b_QB_run 59 = .ok (.iload_n 3, 1) := by decide +kernel
theorem d_QB_run_60 : decode b_QB_run 60 = .ok (.aaload, 1) := by decide +kernel
theorem d_QB_run_61 : decode b_QB_run 61 = .ok (.invokevirtual 110, 3) := by decide +kernel
theorem d_QB_run_64 : decode b_QB_run 64 = .ok (.iinc 3 1, 3) := by decide +kernel
theorem d_QB_run_67 : decode b_QB_run 67 = .ok (.goto (-30), 3) := by decide +kernel
theorem d_QB_run_70 : decode b_QB_run 70 = .ok (.aload_n 0, 1) := by decide +kernel
theorem d_QB_run_71 : decode b_QB_run 71 = .ok (.getfield 48, 3) := by decide +kernel
theorem d_QB_run_74 : decode b_QB_run 74 = .ok (.astore_n 3, 1) := by decide +kernel
theorem d_QB_run_75 : decode b_QB_run 75 = .ok (.aload_n 0, 1) := by decide +kernel
theorem d_QB_run_76 : decode b_QB_run 76 = .ok (.aload_n 0, 1) := by decide +kernel
theorem d_QB_run_77 : decode b_QB_run 77 = .ok (.getfield 52, 3) := by decide +kernel
theorem d_QB_run_80 : decode b_QB_run 80 = .ok (.putfield 48, 3) := by decide +kernel
theorem d_QB_run_83 : decode b_QB_run 83 = .ok (.aload_n 0, 1) := by decide +kernel
theorem d_QB_run_84 : decode b_QB_run 84 = .ok (.aload_n 3, 1) := by decide +kernel
theorem d_QB_run_85 : decode b_QB_run 85 = .ok (.putfield 52, 3) := by decide +kernel
theorem d_QB_run_88 : decode b_QB_run 88 = .ok (.aload_n 0, 1) := by decide +kernel
theorem d_QB_run_89 : decode b_QB_run 89 = .ok (.getfield 35, 3) := by decide +kernel
theorem d_QB_run_92 : decode b_QB_run 92 = .ok (.getfield 104, 3) := by decide +kernel
theorem d_QB_run_95 : decode b_QB_run 95 = .ok (.iload_n 2, 1) := by decide +kernel
theorem d_QB_run_96 : decode b_QB_run 96 = .ok (.isub, 1) := by decide +kernel
theorem d_QB_run_97 : decode b_QB_run 97 = .ok (.ireturn, 1) := by decide +kernel
