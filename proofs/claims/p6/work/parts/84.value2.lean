theorem z_14 : (.initialized "QueryBench$Value" : Cond) ∈ gtbl := gt_in 14 (by decide +kernel) (by decide +kernel)
theorem z_312 : (.fieldLink "QueryBench$Value" 9 "QueryBench$Value" "kind" "I" : Cond) ∈ gtbl := gt_in 312 (by decide +kernel) (by decide +kernel)
theorem z_317 : (.fieldLink "QueryBench$Value" 42 "QueryBench$Value" "number" "J" : Cond) ∈ gtbl := gt_in 317 (by decide +kernel) (by decide +kernel)
theorem z_322 : (.fieldLink "QueryBench$Value" 31 "QueryBench$Value" "text" "[I" : Cond) ∈ gtbl := gt_in 322 (by decide +kernel) (by decide +kernel)
theorem z_331 : (.fieldLink "QueryBench$Value" 23 "QueryBench$Value" "name" "[I" : Cond) ∈ gtbl := gt_in 331 (by decide +kernel) (by decide +kernel)
theorem z_444 : (.static ⟨"QueryBench", "sameText", "([I[I)Z"⟩ : Cond) ∈ gtbl := gt_in 444 (by decide +kernel) (by decide +kernel)
theorem z_865 : (.methodLink "QueryBench$Value" 19 ⟨"QueryBench$Value", "size", "()I"⟩ : Cond) ∈ gtbl := gt_in 865 (by decide +kernel) (by decide +kernel)
theorem z_866 : (.instanceMethod ⟨"QueryBench$Value", "size", "()I"⟩ : Cond) ∈ gtbl := gt_in 866 (by decide +kernel) (by decide +kernel)
theorem z_867 : (.selects "QueryBench$Value" ⟨"QueryBench$Value", "size", "()I"⟩ ⟨"QueryBench$Value", "size", "()I"⟩ : Cond) ∈ gtbl := gt_in 867 (by decide +kernel) (by decide +kernel)
theorem z_938 : (.methodLink "QueryBench$Value" 50 ⟨"QueryBench$Value", "lessText", "([I[I)Z"⟩ : Cond) ∈ gtbl := gt_in 938 (by decide +kernel) (by decide +kernel)
theorem z_939 : (.static ⟨"QueryBench$Value", "lessText", "([I[I)Z"⟩ : Cond) ∈ gtbl := gt_in 939 (by decide +kernel) (by decide +kernel)
theorem z_941 : (.methodLink "QueryBench$Value" 53 ⟨"java/lang/Math", "min", "(II)I"⟩ : Cond) ∈ gtbl := gt_in 941 (by decide +kernel) (by decide +kernel)
theorem z_944 : (.methodLink "QueryBench$Value" 59 ⟨"QueryBench$Value", "rank", "(I)I"⟩ : Cond) ∈ gtbl := gt_in 944 (by decide +kernel) (by decide +kernel)
theorem z_945 : (.static ⟨"QueryBench$Value", "rank", "(I)I"⟩ : Cond) ∈ gtbl := gt_in 945 (by decide +kernel) (by decide +kernel)
theorem z_948 : (.constant "QueryBench$Value" 66 65536 : Cond) ∈ gtbl := gt_in 948 (by decide +kernel) (by decide +kernel)
theorem nz_869 : (.methodLinkNest "QueryBench$Value" 27 ⟨"QueryBench", "sameText", "([I[I)Z"⟩ "QueryBench" : Cond) ∈ nwl := List.mem_filter.mpr ⟨List.mem_append_right _ (List.mem_of_getElem? (i := 869) (by decide +kernel)), rfl⟩
theorem nz_927 : (.methodLinkNest "QueryBench$Value" 34 ⟨"QueryBench", "isLowUnit", "(I)Z"⟩ "QueryBench" : Cond) ∈ nwl := List.mem_filter.mpr ⟨List.mem_append_right _ (List.mem_of_getElem? (i := 927) (by decide +kernel)), rfl⟩
theorem nz_947 : (.methodLinkNest "QueryBench$Value" 63 ⟨"QueryBench", "isHighUnit", "(I)Z"⟩ "QueryBench" : Cond) ∈ nwl := List.mem_filter.mpr ⟨List.mem_append_right _ (List.mem_of_getElem? (i := 947) (by decide +kernel)), rfl⟩
theorem wm_mini : Cond.code Lib.Math.min.name Lib.Math.min.code 2 (some .int) ∈ gtbl := gt_in 943 (by decide +kernel) (by decide +kernel)
theorem wm_maxi : Cond.code Lib.Math.max.name Lib.Math.max.code 2 (some .int) ∈ gtbl := gt_in 391 (by decide +kernel) (by decide +kernel)
theorem wm_maxl : Cond.code Lib.MathLoose.max_long.x Lib.MathLoose.max_long.code 4 (some .long) ∈ gtbl := gt_in 889 (by decide +kernel) (by decide +kernel)
abbrev b_Value_member : ByteArray := prog_11_method_3_code
def y_Value_member : MethodName := ⟨"QueryBench$Value", "member", "([I)LQueryBench$Value;"⟩
abbrev k_Value_member : Cond := .code y_Value_member b_Value_member 3 (some (.object "QueryBench$Value"))
theorem i_Value_member : k_Value_member ∈ gtbl := gt_in 864 (by decide +kernel) (by decide +kernel)
theorem d_Value_member_0 : decode b_Value_member 0 = .ok (.aload_n 0, 1) := by decide +kernel
theorem d_Value_member_1 : decode b_Value_member 1 = .ok (.getfield 9, 3) := by decide +kernel
theorem d_Value_member_4 : decode b_Value_member 4 = .ok (.bipush 6, 2) := by decide +kernel
theorem d_Value_member_6 : decode b_Value_member 6 = .ok (.if_icmp .eq 5, 3) := by decide +kernel
theorem d_Value_member_9 : decode b_Value_member 9 = .ok (.aconst_null, 1) := by decide +kernel
theorem d_Value_member_10 : decode b_Value_member 10 = .ok (.areturn, 1) := by decide +kernel
theorem d_Value_member_11 : decode b_Value_member 11 = .ok (.iconst 0, 1) := by decide +kernel
theorem d_Value_member_12 : decode b_Value_member 12 = .ok (.istore_n 2, 1) := by decide +kernel
theorem d_Value_member_13 : decode b_Value_member 13 = .ok (.iload_n 2, 1) := by decide +kernel
theorem d_Value_member_14 : decode b_Value_member 14 = .ok (.aload_n 0, 1) := by decide +kernel
theorem d_Value_member_15 : decode b_Value_member 15 = .ok (.invokevirtual 19, 3) := by decide +kernel
theorem d_Value_member_18 : decode b_Value_member 18 = .ok (.if_icmp .ge 32, 3) := by decide +kernel
theorem d_Value_member_21 : decode b_Value_member 21 = .ok (.aload_n 0, 1) := by decide +kernel
theorem d_Value_member_22 : decode b_Value_member 22 = .ok (.getfield 15, 3) := by decide +kernel
theorem d_Value_member_25 : decode b_Value_member 25 = .ok (.iload_n 2, 1) := by decide +kernel
theorem d_Value_member_26 : decode b_Value_member 26 = .ok (.aaload, 1) := by decide +kernel
theorem d_Value_member_27 : decode b_Value_member 27 = .ok (.getfield 23, 3) := by decide +kernel
theorem d_Value_member_30 : decode b_Value_member 30 = .ok (.aload_n 1, 1) := by decide +kernel
theorem d_Value_member_31 : decode b_Value_member 31 = .ok (.invokestatic 27, 3) := by decide +kernel
theorem d_Value_member_34 : decode b_Value_member 34 = .ok (.ifCond .eq 10, 3) := by decide +kernel
theorem d_Value_member_37 : decode b_Value_member 37 = .ok (.aload_n 0, 1) := by decide +kernel
theorem d_Value_member_38 : decode b_Value_member 38 = .ok (.getfield 15, 3) := by decide +kernel
theorem d_Value_member_41 : decode b_Value_member 41 = .ok (.iload_n 2, 1) := by decide +kernel
theorem d_Value_member_42 : decode b_Value_member 42 = .ok (.aaload, 1) := by decide +kernel
theorem d_Value_member_43 : decode b_Value_member 43 = .ok (.areturn, 1) := by decide +kernel
theorem d_Value_member_44 : decode b_Value_member 44 = .ok (.iinc 2 1, 3) := by decide +kernel
theorem d_Value_member_47 : decode b_Value_member 47 = .ok (.goto (-34), 3) := by decide +kernel
theorem d_Value_member_50 : decode b_Value_member 50 = .ok (.aconst_null, 1) := by decide +kernel
theorem d_Value_member_51 : decode b_Value_member 51 = .ok (.areturn, 1) := by decide +kernel
abbrev b_Value_measure : ByteArray := prog_11_method_4_code
def y_Value_measure : MethodName := ⟨"QueryBench$Value", "measure", "()I"⟩
abbrev k_Value_measure : Cond := .code y_Value_measure b_Value_measure 3 (some .int)
theorem i_Value_measure : k_Value_measure ∈ gtbl := gt_in 926 (by decide +kernel) (by decide +kernel)
theorem d_Value_measure_0 : decode b_Value_measure 0 = .ok (.aload_n 0, 1) := by decide +kernel
theorem d_Value_measure_1 : decode b_Value_measure 1 = .ok (.getfield 9, 3) := by decide +kernel
theorem d_Value_measure_4 : decode b_Value_measure 4 = .ok (.iconst 5, 1) := by decide +kernel
theorem d_Value_measure_5 : decode b_Value_measure 5 = .ok (.if_icmp .eq 12, 3) := by decide +kernel
theorem d_Value_measure_8 : decode b_Value_measure 8 = .ok (.aload_n 0, 1) := by decide +kernel
theorem d_Value_measure_9 : decode b_Value_measure 9 = .ok (.getfield 9, 3) := by decide +kernel
theorem d_Value_measure_12 : decode b_Value_measure 12 = .ok (.bipush 6, 2) := by decide +kernel
theorem d_Value_measure_14 : decode b_Value_measure 14 = .ok (.if_icmp .ne 8, 3) := by decide +kernel
theorem d_Value_measure_17 : decode b_Value_measure 17 = .ok (.aload_n 0, 1) := by decide +kernel
theorem d_Value_measure_18 : decode b_Value_measure 18 = .ok (.invokevirtual 19, 3) := by decide +kernel
theorem d_Value_measure_21 : decode b_Value_measure 21 = .ok (.ireturn, 1) := by decide +kernel
theorem d_Value_measure_22 : decode b_Value_measure 22 = .ok (.aload_n 0, 1) := by decide +kernel
theorem d_Value_measure_23 : decode b_Value_measure 23 = .ok (.getfield 9, 3) := by decide +kernel
theorem d_Value_measure_26 : decode b_Value_measure 26 = .ok (.iconst 4, 1) := by decide +kernel
theorem d_Value_measure_27 : decode b_Value_measure 27 = .ok (.if_icmp .eq 5, 3) := by decide +kernel
theorem d_Value_measure_30 : decode b_Value_measure 30 = .ok (.iconst (-1), 1) := by decide +kernel
theorem d_Value_measure_31 : decode b_Value_measure 31 = .ok (.ireturn, 1) := by decide +kernel
theorem d_Value_measure_32 : decode b_Value_measure 32 = .ok (.iconst 0, 1) := by decide +kernel
theorem d_Value_measure_33 : decode b_Value_measure 33 = .ok (.istore_n 1, 1) := by decide +kernel
theorem d_Value_measure_34 : decode b_Value_measure 34 = .ok (.iconst 0, 1) := by decide +kernel
theorem d_Value_measure_35 : decode b_Value_measure 35 = .ok (.istore_n 2, 1) := by decide +kernel
theorem d_Value_measure_36 : decode b_Value_measure 36 = .ok (.iload_n 2, 1) := by decide +kernel
theorem d_Value_measure_37 : decode b_Value_measure 37 = .ok (.aload_n 0, 1) := by decide +kernel
theorem d_Value_measure_38 : decode b_Value_measure 38 = .ok (.getfield 31, 3) := by decide +kernel
theorem d_Value_measure_41 : decode b_Value_measure 41 = .ok (.arraylength, 1) := by decide +kernel
theorem d_Value_measure_42 : decode b_Value_measure 42 = .ok (.if_icmp .ge 24, 3) := by decide +kernel
theorem d_Value_measure_45 : decode b_Value_measure 45 = .ok (.aload_n 0, 1) := by decide +kernel
theorem d_Value_measure_46 : decode b_Value_measure 46 = .ok (.getfield 31, 3) := by decide +kernel
theorem d_Value_measure_49 : decode b_Value_measure 49 = .ok (.iload_n 2, 1) := by decide +kernel
theorem d_Value_measure_50 : decode b_Value_measure 50 = .ok (.iaload, 1) := by decide +kernel
theorem d_Value_measure_51 : decode b_Value_measure 51 = .ok (.invokestatic 34, 3) := by decide +kernel
theorem d_Value_measure_54 : decode b_Value_measure 54 = .ok (.ifCond .ne 6, 3) := by decide +kernel
theorem d_Value_measure_57 : decode b_Value_measure 57 = .ok (.iinc 1 1, 3) := by decide +kernel
theorem d_Value_measure_60 : decode b_Value_measure 60 = .ok (.iinc 2 1, 3) := by decide +kernel
theorem d_Value_measure_63 : decode b_Value_measure 63 = .ok (.goto (-27), 3) := by decide +kernel
theorem d_Value_measure_66 : decode b_Value_measure 66 = .ok (.iload_n 1, 1) := by decide +kernel
theorem d_Value_measure_67 : decode b_Value_measure 67 = .ok (.ireturn, 1) := by decide +kernel
abbrev b_Value_rank : ByteArray := prog_11_method_9_code
def y_Value_rank : MethodName := ⟨"QueryBench$Value", "rank", "(I)I"⟩
abbrev k_Value_rank : Cond := .code y_Value_rank b_Value_rank 1 (some .int)
theorem i_Value_rank : k_Value_rank ∈ gtbl := gt_in 946 (by decide +kernel) (by decide +kernel)
theorem d_Value_rank_0 : decode b_Value_rank 0 = .ok (.iload_n 0, 1) := by decide +kernel
theorem d_Value_rank_1 : decode b_Value_rank 1 = .ok (.invokestatic 63, 3) := by decide +kernel
theorem d_Value_rank_4 : decode b_Value_rank 4 = .ok (.ifCond .ne 10, 3) := by decide +kernel
theorem d_Value_rank_7 : decode b_Value_rank 7 = .ok (.iload_n 0, 1) := by decide +kernel
theorem d_Value_rank_8 : decode b_Value_rank 8 = .ok (.invokestatic 34, 3) := by decide +kernel
theorem d_Value_rank_11 : decode b_Value_rank 11 = .ok (.ifCond .eq 10, 3) := by decide +kernel
theorem d_Value_rank_14 : decode b_Value_rank 14 = .ok (.iload_n 0, 1) := by decide +kernel
theorem d_Value_rank_15 : decode b_Value_rank 15 = .ok (.ldc 66, 2) := by decide +kernel
theorem d_Value_rank_17 : decode b_Value_rank 17 = .ok (.iadd, 1) := by decide +kernel
theorem d_Value_rank_18 : decode b_Value_rank 18 = .ok (.goto 4, 3) := by decide +kernel
theorem d_Value_rank_21 : decode b_Value_rank 21 = .ok (.iload_n 0, 1) := by decide +kernel
theorem d_Value_rank_22 : decode b_Value_rank 22 = .ok (.ireturn, 1) := by decide +kernel
abbrev b_Value_lessText : ByteArray := prog_11_method_8_code
def y_Value_lessText : MethodName := ⟨"QueryBench$Value", "lessText", "([I[I)Z"⟩
abbrev k_Value_lessText : Cond := .code y_Value_lessText b_Value_lessText 4 (some .boolean)
theorem i_Value_lessText : k_Value_lessText ∈ gtbl := gt_in 940 (by decide +kernel) (by decide +kernel)
theorem d_Value_lessText_0 : decode b_Value_lessText 0 = .ok (.aload_n 0, 1) := by decide +kernel
theorem d_Value_lessText_1 : decode b_Value_lessText 1 = .ok (.arraylength, 1) := by decide +kernel
theorem d_Value_lessText_2 : decode b_Value_lessText 2 = .ok (.aload_n 1, 1) := by decide +kernel
theorem d_Value_lessText_3 : decode b_Value_lessText 3 = .ok (.arraylength, 1) := by decide +kernel
theorem d_Value_lessText_4 : decode b_Value_lessText 4 = .ok (.invokestatic 53, 3) := by decide +kernel
theorem d_Value_lessText_7 : decode b_Value_lessText 7 = .ok (.istore_n 2, 1) := by decide +kernel
theorem d_Value_lessText_8 : decode b_Value_lessText 8 = .ok (.iconst 0, 1) := by decide +kernel
theorem d_Value_lessText_9 : decode b_Value_lessText 9 = .ok (.istore_n 3, 1) := by decide +kernel
theorem d_Value_lessText_10 : decode b_Value_lessText 10 = .ok (.iload_n 3, 1) := by decide +kernel
theorem d_Value_lessText_11 : decode b_Value_lessText 11 = .ok (.iload_n 2, 1) := by decide +kernel
theorem d_Value_lessText_12 : decode b_Value_lessText 12 = .ok (.if_icmp .ge 39, 3) := by decide +kernel
theorem d_Value_lessText_15 : decode b_Value_lessText 15 = .ok (.aload_n 0, 1) := by decide +kernel
theorem d_Value_lessText_16 : decode b_Value_lessText 16 = .ok (.iload_n 3, 1) := by decide +kernel
theorem d_Value_lessText_17 : decode b_Value_lessText 17 = .ok (.iaload, 1) := by decide +kernel
theorem d_Value_lessText_18 : decode b_Value_lessText 18 = .ok (.aload_n 1, 1) := by decide +kernel
theorem d_Value_lessText_19 : decode b_Value_lessText 19 = .ok (.iload_n 3, 1) := by decide +kernel
theorem d_Value_lessText_20 : decode b_Value_lessText 20 = .ok (.iaload, 1) := by decide +kernel
theorem d_Value_lessText_21 : decode b_Value_lessText 21 = .ok (.if_icmp .eq 24, 3) := by decide +kernel
theorem d_Value_lessText_24 : decode b_Value_lessText 24 = .ok (.aload_n 0, 1) := by decide +kernel
theorem d_Value_lessText_25 : decode b_Value_lessText 25 = .ok (.iload_n 3, 1) := by decide +kernel
theorem d_Value_lessText_26 : decode b_Value_lessText 26 = .ok (.iaload, 1) := by decide +kernel
theorem d_Value_lessText_27 : decode b_Value_lessText 27 = .ok (.invokestatic 59, 3) := by decide +kernel
theorem d_Value_lessText_30 : decode b_Value_lessText 30 = .ok (.aload_n 1, 1) := by decide +kernel
theorem d_Value_lessText_31 : decode b_Value_lessText 31 = .ok (.iload_n 3, 1) := by decide +kernel
theorem d_Value_lessText_32 : decode b_Value_lessText 32 = .ok (.iaload, 1) := by decide +kernel
theorem d_Value_lessText_33 : decode b_Value_lessText 33 = .ok (.invokestatic 59, 3) := by decide +kernel
theorem d_Value_lessText_36 : decode b_Value_lessText 36 = .ok (.if_icmp .ge 7, 3) := by decide +kernel
theorem d_Value_lessText_39 : decode b_Value_lessText 39 = .ok (.iconst 1, 1) := by decide +kernel
theorem d_Value_lessText_40 : decode b_Value_lessText 40 = .ok (.goto 4, 3) := by decide +kernel
theorem d_Value_lessText_43 : decode b_Value_lessText 43 = .ok (.iconst 0, 1) := by decide +kernel
theorem d_Value_lessText_44 : decode b_Value_lessText 44 = .ok (.ireturn, 1) := by decide +kernel
theorem d_Value_lessText_45 : decode b_Value_lessText 45 = .ok (.iinc 3 1, 3) := by decide +kernel
theorem d_Value_lessText_48 : decode b_Value_lessText 48 = .ok (.goto (-38), 3) := by decide +kernel
theorem d_Value_lessText_51 : decode b_Value_lessText 51 = .ok (.aload_n 0, 1) := by decide +kernel
theorem d_Value_lessText_52 : decode b_Value_lessText 52 = .ok (.arraylength, 1) := by decide +kernel
theorem d_Value_lessText_53 : decode b_Value_lessText 53 = .ok (.aload_n 1, 1) := by decide +kernel
theorem d_Value_lessText_54 : decode b_Value_lessText 54 = .ok (.arraylength, 1) := by decide +kernel
theorem d_Value_lessText_55 : decode b_Value_lessText 55 = .ok (.if_icmp .ge 7, 3) := by decide +kernel
theorem d_Value_lessText_58 : decode b_Value_lessText 58 = .ok (.iconst 1, 1) := by decide +kernel
theorem d_Value_lessText_59 : decode b_Value_lessText 59 = .ok (.goto 4, 3) := by decide +kernel
theorem d_Value_lessText_62 : decode b_Value_lessText 62 = .ok (.iconst 0, 1) := by decide +kernel
theorem d_Value_lessText_63 : decode b_Value_lessText 63 = .ok (.ireturn, 1) := by decide +kernel
abbrev b_Value_less : ByteArray := prog_11_method_7_code
def y_Value_less : MethodName := ⟨"QueryBench$Value", "less", "(LQueryBench$Value;LQueryBench$Value;)Z"⟩
abbrev k_Value_less : Cond := .code y_Value_less b_Value_less 2 (some .boolean)
theorem i_Value_less : k_Value_less ∈ gtbl := gt_in 937 (by decide +kernel) (by decide +kernel)
theorem d_Value_less_0 : decode b_Value_less 0 = .ok (.aload_n 0, 1) := by decide +kernel
theorem d_Value_less_1 : decode b_Value_less 1 = .ok (.ifnull 18, 3) := by decide +kernel
theorem d_Value_less_4 : decode b_Value_less 4 = .ok (.aload_n 1, 1) := by decide +kernel
theorem d_Value_less_5 : decode b_Value_less 5 = .ok (.ifnull 14, 3) := by decide +kernel
theorem d_Value_less_8 : decode b_Value_less 8 = .ok (.aload_n 0, 1) := by decide +kernel
theorem d_Value_less_9 : decode b_Value_less 9 = .ok (.getfield 9, 3) := by decide +kernel
theorem d_Value_less_12 : decode b_Value_less 12 = .ok (.aload_n 1, 1) := by decide +kernel
theorem d_Value_less_13 : decode b_Value_less 13 = .ok (.getfield 9, 3) := by decide +kernel
theorem d_Value_less_16 : decode b_Value_less 16 = .ok (.if_icmp .eq 5, 3) := by decide +kernel
theorem d_Value_less_19 : decode b_Value_less 19 = .ok (.iconst 0, 1) := by decide +kernel
theorem d_Value_less_20 : decode b_Value_less 20 = .ok (.ireturn, 1) := by decide +kernel
theorem d_Value_less_21 : decode b_Value_less 21 = .ok (.aload_n 0, 1) := by decide +kernel
theorem d_Value_less_22 : decode b_Value_less 22 = .ok (.getfield 9, 3) := by decide +kernel
theorem d_Value_less_25 : decode b_Value_less 25 = .ok (.iconst 3, 1) := by decide +kernel
theorem d_Value_less_26 : decode b_Value_less 26 = .ok (.if_icmp .ne 21, 3) := by decide +kernel
theorem d_Value_less_29 : decode b_Value_less 29 = .ok (.aload_n 0, 1) := by decide +kernel
theorem d_Value_less_30 : decode b_Value_less 30 = .ok (.getfield 42, 3) := by decide +kernel
theorem d_Value_less_33 : decode b_Value_less 33 = .ok (.aload_n 1, 1) := by decide +kernel
theorem d_Value_less_34 : decode b_Value_less 34 = .ok (.getfield 42, 3) := by decide +kernel
theorem d_Value_less_37 : decode b_Value_less 37 = .ok (.lcmp, 1) := by decide +kernel
theorem d_Value_less_38 : decode b_Value_less 38 = .ok (.ifCond .ge 7, 3) := by decide +kernel
theorem d_Value_less_41 : decode b_Value_less 41 = .ok (.iconst 1, 1) := by decide +kernel
theorem d_Value_less_42 : decode b_Value_less 42 = .ok (.goto 4, 3) := by decide +kernel
theorem d_Value_less_45 : decode b_Value_less 45 = .ok (.iconst 0, 1) := by decide +kernel
theorem d_Value_less_46 : decode b_Value_less 46 = .ok (.ireturn, 1) := by decide +kernel
theorem d_Value_less_47 : decode b_Value_less 47 = .ok (.aload_n 0, 1) := by decide +kernel
theorem d_Value_less_48 : decode b_Value_less 48 = .ok (.getfield 9, 3) := by decide +kernel
theorem d_Value_less_51 : decode b_Value_less 51 = .ok (.iconst 4, 1) := by decide +kernel
theorem d_Value_less_52 : decode b_Value_less 52 = .ok (.if_icmp .ne 21, 3) := by decide +kernel
theorem d_Value_less_55 : decode b_Value_less 55 = .ok (.aload_n 0, 1) := by decide +kernel
theorem d_Value_less_56 : decode b_Value_less 56 = .ok (.getfield 31, 3) := by decide +kernel
theorem d_Value_less_59 : decode b_Value_less 59 = .ok (.aload_n 1, 1) := by decide +kernel
theorem d_Value_less_60 : decode b_Value_less 60 = .ok (.getfield 31, 3) := by decide +kernel
theorem d_Value_less_63 : decode b_Value_less 63 = .ok (.invokestatic 50, 3) := by decide +kernel
theorem d_Value_less_66 : decode b_Value_less 66 = .ok (.ifCond .eq 7, 3) := by decide +kernel
theorem d_Value_less_69 : decode b_Value_less 69 = .ok (.iconst 1, 1) := by decide +kernel
theorem d_Value_less_70 : decode b_Value_less 70 = .ok (.goto 4, 3) := by decide +kernel
theorem d_Value_less_73 : decode b_Value_less 73 = .ok (.iconst 0, 1) := by decide +kernel
theorem d_Value_less_74 : decode b_Value_less 74 = .ok (.ireturn, 1) := by decide +kernel
