theorem z_28 : (.initialized "java/lang/IllegalStateException" : Cond) ∈ gtbl := gt_in 28 (by decide +kernel) (by decide +kernel)
theorem z_156 : (.fieldLink "QueryBench" 86 "QueryBench" "query" "LQueryBench$Query;" : Cond) ∈ gtbl := gt_in 156 (by decide +kernel) (by decide +kernel)
theorem z_816 : (.classLink "QueryBench" 124 "java/lang/IllegalStateException" : Cond) ∈ gtbl := gt_in 816 (by decide +kernel) (by decide +kernel)
abbrev IAX : String := "java/lang/IllegalArgumentException"
abbrev ISX : String := "java/lang/IllegalStateException"
abbrev UOX : String := "java/lang/UnsupportedOperationException"
abbrev b_Walk_begin : ByteArray := prog_12_method_2_code
def y_Walk_begin : MethodName := ⟨"QueryBench$Walk", "begin", "(LQueryBench$Query;LQueryBench$Value;)I"⟩
abbrev k_Walk_begin : Cond := .code y_Walk_begin b_Walk_begin 3 (some .int)
theorem i_Walk_begin : k_Walk_begin ∈ gtbl := gt_in 834 (by decide +kernel) (by decide +kernel)
theorem d_Walk_begin_0 : decode b_Walk_begin 0 = .ok (.aload_n 0, 1) := by decide +kernel
theorem d_Walk_begin_1 : decode b_Walk_begin 1 = .ok (.aload_n 2, 1) := by decide +kernel
theorem d_Walk_begin_2 : decode b_Walk_begin 2 = .ok (.putfield 17, 3) := by decide +kernel
theorem d_Walk_begin_5 : decode b_Walk_begin 5 = .ok (.aload_n 0, 1) := by decide +kernel
theorem d_Walk_begin_6 : decode b_Walk_begin 6 = .ok (.iconst 0, 1) := by decide +kernel
theorem d_Walk_begin_7 : decode b_Walk_begin 7 = .ok (.putfield 21, 3) := by decide +kernel
theorem d_Walk_begin_10 : decode b_Walk_begin 10 = .ok (.aload_n 0, 1) := by decide +kernel
theorem d_Walk_begin_11 : decode b_Walk_begin 11 = .ok (.iconst 0, 1) := by decide +kernel
theorem d_Walk_begin_12 : decode b_Walk_begin 12 = .ok (.putfield 25, 3) := by decide +kernel
theorem d_Walk_begin_15 : decode b_Walk_begin 15 = .ok (.aload_n 0, 1) := by decide +kernel
theorem d_Walk_begin_16 : decode b_Walk_begin 16 = .ok (.aload_n 1, 1) := by decide +kernel
theorem d_Walk_begin_17 : decode b_Walk_begin 17 = .ok (.aload_n 2, 1) := by decide +kernel
theorem d_Walk_begin_18 : decode b_Walk_begin 18 = .ok (.invokevirtual 28, 3) := by decide +kernel
theorem d_Walk_begin_21 : decode b_Walk_begin 21 = .ok (.ireturn, 1) := by decide +kernel
abbrev b_QB_checkReady : ByteArray := prog_1_method_11_code
def y_QB_checkReady : MethodName := ⟨"QueryBench", "checkReady", "(I)V"⟩
abbrev k_QB_checkReady : Cond := .code y_QB_checkReady b_QB_checkReady 2 none
theorem i_QB_checkReady : k_QB_checkReady ∈ gtbl := gt_in 815 (by decide +kernel) (by decide +kernel)
theorem d_QB_checkReady_0 : decode b_QB_checkReady 0 = .ok (.aload_n 0, 1) := by decide +kernel
theorem d_QB_checkReady_1 : decode b_QB_checkReady 1 = .ok (.getfield 41, 3) := by decide +kernel
theorem d_QB_checkReady_4 : decode b_QB_checkReady 4 = .ok (.iload_n 1, 1) := by decide +kernel
theorem d_QB_checkReady_5 : decode b_QB_checkReady 5 = .ok (.aaload, 1) := by decide +kernel
theorem d_QB_checkReady_6 : decode b_QB_checkReady 6 = .ok (.ifnull 10, 3) := by decide +kernel
theorem d_QB_checkReady_9 : decode b_QB_checkReady 9 = .ok (.aload_n 0, 1) := by decide +kernel
theorem d_QB_checkReady_10 : decode b_QB_checkReady 10 = .ok (.getfield 86, 3) := by decide +kernel
theorem d_QB_checkReady_13 : decode b_QB_checkReady 13 = .ok (.ifnonnull 11, 3) := by decide +kernel
theorem d_QB_checkReady_16 : decode b_QB_checkReady 16 = .ok (.new 124, 3) := by decide +kernel
theorem d_QB_checkReady_19 : decode b_QB_checkReady 19 = .ok (.dup, 1) := by decide +kernel
theorem d_QB_checkReady_20 : decode b_QB_checkReady 20 = .ok (.invokespecial 126, 3) := by decide +kernel
theorem d_QB_checkReady_23 : decode b_QB_checkReady 23 = .ok (.athrow, 1) := by decide +kernel
theorem d_QB_checkReady_24 : decode b_QB_checkReady 24 = .ok (.return_, 1) := by decide +kernel
theorem xa_QB_checkReady_16 : ∀ w ∈ vx_at0 R_QB 126 "java/lang/IllegalStateException" ["java/lang/RuntimeException", "java/lang/Exception"], (goodWord w = true ∧ w ∈ lw_tbl) ∨ w ∈ nwl := by decide +kernel
theorem xa_QB_checkReady_16_g : ∀ w ∈ Cond.classLink R_QB 124 "java/lang/IllegalStateException" :: Cond.initialized "java/lang/IllegalStateException" :: vx_at0 R_QB 126 "java/lang/IllegalStateException" ["java/lang/RuntimeException", "java/lang/Exception"], vx_ot w = true := by decide +kernel
