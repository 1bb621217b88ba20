theorem z_579 : (.fieldLink "QueryBench$Walk" 73 "QueryBench$Segment" "first" "LQueryBench$Selector;" : Cond) ∈ gtbl := gt_in 579 (by decide +kernel) (by decide +kernel)
theorem z_611 : (.fieldLink "QueryBench$Walk" 76 "QueryBench$Selector" "kind" "I" : Cond) ∈ gtbl := gt_in 611 (by decide +kernel) (by decide +kernel)
theorem z_614 : (.fieldLink "QueryBench$Walk" 81 "QueryBench$Selector" "name" "[I" : Cond) ∈ gtbl := gt_in 614 (by decide +kernel) (by decide +kernel)
theorem z_626 : (.fieldLink "QueryBench$Walk" 104 "QueryBench$Selector" "filter" "LQueryBench$Condition;" : Cond) ∈ gtbl := gt_in 626 (by decide +kernel) (by decide +kernel)
theorem z_630 : (.fieldLink "QueryBench$Walk" 112 "QueryBench$Selector" "next" "LQueryBench$Selector;" : Cond) ∈ gtbl := gt_in 630 (by decide +kernel) (by decide +kernel)
theorem z_857 : (.methodLink "QueryBench$Walk" 85 ⟨"QueryBench$Walk", "pushNamed", "(LQueryBench$Value;[I)V"⟩ : Cond) ∈ gtbl := gt_in 857 (by decide +kernel) (by decide +kernel)
theorem z_859 : (.instanceMethod ⟨"QueryBench$Walk", "pushNamed", "(LQueryBench$Value;[I)V"⟩ : Cond) ∈ gtbl := gt_in 859 (by decide +kernel) (by decide +kernel)
theorem z_870 : (.methodLink "QueryBench$Walk" 89 ⟨"QueryBench$Walk", "pushAll", "(LQueryBench$Value;)V"⟩ : Cond) ∈ gtbl := gt_in 870 (by decide +kernel) (by decide +kernel)
theorem z_872 : (.instanceMethod ⟨"QueryBench$Walk", "pushAll", "(LQueryBench$Value;)V"⟩ : Cond) ∈ gtbl := gt_in 872 (by decide +kernel) (by decide +kernel)
theorem z_875 : (.methodLink "QueryBench$Walk" 96 ⟨"QueryBench$Walk", "pushAt", "(LQueryBench$Value;J)V"⟩ : Cond) ∈ gtbl := gt_in 875 (by decide +kernel) (by decide +kernel)
theorem z_877 : (.instanceMethod ⟨"QueryBench$Walk", "pushAt", "(LQueryBench$Value;J)V"⟩ : Cond) ∈ gtbl := gt_in 877 (by decide +kernel) (by decide +kernel)
theorem z_879 : (.methodLink "QueryBench$Walk" 100 ⟨"QueryBench$Walk", "pushSlice", "(LQueryBench$Value;LQueryBench$Selector;)V"⟩ : Cond) ∈ gtbl := gt_in 879 (by decide +kernel) (by decide +kernel)
theorem z_881 : (.instanceMethod ⟨"QueryBench$Walk", "pushSlice", "(LQueryBench$Value;LQueryBench$Selector;)V"⟩ : Cond) ∈ gtbl := gt_in 881 (by decide +kernel) (by decide +kernel)
theorem z_891 : (.methodLink "QueryBench$Walk" 108 ⟨"QueryBench$Walk", "pushFiltered", "(LQueryBench$Value;LQueryBench$Condition;)V"⟩ : Cond) ∈ gtbl := gt_in 891 (by decide +kernel) (by decide +kernel)
theorem z_893 : (.instanceMethod ⟨"QueryBench$Walk", "pushFiltered", "(LQueryBench$Value;LQueryBench$Condition;)V"⟩ : Cond) ∈ gtbl := gt_in 893 (by decide +kernel) (by decide +kernel)
theorem z_895 : (.methodLink "QueryBench$Walk" 152 ⟨"QueryBench$Walk", "holds", "(LQueryBench$Condition;LQueryBench$Value;)Z"⟩ : Cond) ∈ gtbl := gt_in 895 (by decide +kernel) (by decide +kernel)
theorem z_897 : (.instanceMethod ⟨"QueryBench$Walk", "holds", "(LQueryBench$Condition;LQueryBench$Value;)Z"⟩ : Cond) ∈ gtbl := gt_in 897 (by decide +kernel) (by decide +kernel)
abbrev b_Walk_nodes : ByteArray := prog_12_method_3_code
def y_Walk_nodes : MethodName := ⟨"QueryBench$Walk", "nodes", "(LQueryBench$Query;LQueryBench$Value;)I"⟩
abbrev k_Walk_nodes : Cond := .code y_Walk_nodes b_Walk_nodes 7 (some .int)
theorem i_Walk_nodes : k_Walk_nodes ∈ gtbl := gt_in 838 (by decide +kernel) (by decide +kernel)
theorem d_Walk_nodes_0 : decode b_Walk_nodes 0 = .ok (.aload_n 0, 1) := by decide +kernel
theorem d_Walk_nodes_1 : decode b_Walk_nodes 1 = .ok (.getfield 21, 3) := by decide +kernel
theorem d_Walk_nodes_4 : decode b_Walk_nodes 4 = .ok (.istore_n 3, 1) := by decide +kernel
theorem d_Walk_nodes_5 : decode b_Walk_nodes 5 = .ok (.aload_n 0, 1) := by decide +kernel
theorem d_Walk_nodes_6 : decode b_Walk_nodes 6 = .ok (.aload_n 1, 1) := by decide +kernel
theorem d_Walk_nodes_7 : decode b_Walk_nodes 7 = .ok (.getfield 32, 3) := by decide +kernel
theorem d_Walk_nodes_10 : decode b_Walk_nodes 10 = .ok (.ifCond .eq 10, 3) := by decide +kernel
theorem d_Walk_nodes_13 : decode b_Walk_nodes 13 = .ok (.aload_n 0, 1) := by decide +kernel
theorem d_Walk_nodes_14 : decode b_Walk_nodes 14 = .ok (.getfield 17, 3) := by decide +kernel
theorem d_Walk_nodes_17 : decode b_Walk_nodes 17 = .ok (.goto 4, 3) := by decide +kernel
theorem d_Walk_nodes_20 : decode b_Walk_nodes 20 = .ok (.aload_n 2, 1) := by decide +kernel
theorem d_Walk_nodes_21 : decode b_Walk_nodes 21 = .ok (.invokevirtual 38, 3) := by decide +kernel
theorem d_Walk_nodes_24 : decode b_Walk_nodes 24 = .ok (.aload_n 1, 1) := by decide +kernel
theorem d_Walk_nodes_25 : decode b_Walk_nodes 25 = .ok (.getfield 42, 3) := by decide +kernel
theorem d_Walk_nodes_28 : decode b_Walk_nodes 28 = .ok (.astore 4, 2) := by decide +kernel
theorem d_Walk_nodes_30 : decode b_Walk_nodes 30 = .ok (.aload 4, 2) := by decide +kernel
theorem d_Walk_nodes_32 : decode b_Walk_nodes 32 = .ok (.ifnull 51, 3) := by decide +kernel
theorem d_Walk_nodes_35 : decode b_Walk_nodes 35 = .ok (.aload_n 0, 1) := by decide +kernel
theorem d_Walk_nodes_36 : decode b_Walk_nodes 36 = .ok (.getfield 21, 3) := by decide +kernel
theorem d_Walk_nodes_39 : decode b_Walk_nodes 39 = .ok (.istore 5, 2) := by decide +kernel
theorem d_Walk_nodes_41 : decode b_Walk_nodes 41 = .ok (.iload_n 3, 1) := by decide +kernel
theorem d_Walk_nodes_42 : decode b_Walk_nodes 42 = .ok (.istore 6, 2) := by decide +kernel
theorem d_Walk_nodes_44 : decode b_Walk_nodes 44 = .ok (.iload 6, 2) := by decide +kernel
theorem d_Walk_nodes_46 : decode b_Walk_nodes 46 = .ok (.iload 5, 2) := by decide +kernel
theorem d_Walk_nodes_48 : decode b_Walk_nodes 48 = .ok (.if_icmp .ge 22, 3) := by decide +kernel
theorem d_Walk_nodes_51 : decode b_Walk_nodes 51 = .ok (.aload_n 0, 1) := by decide +kernel
theorem d_Walk_nodes_52 : decode b_Walk_nodes 52 = .ok (.aload 4, 2) := by decide +kernel
theorem d_Walk_nodes_54 : decode b_Walk_nodes 54 = .ok (.aload_n 0, 1) := by decide +kernel
theorem d_Walk_nodes_55 : decode b_Walk_nodes 55 = .ok (.getfield 11, 3) := by decide +kernel
theorem d_Walk_nodes_58 : decode b_Walk_nodes 58 = .ok (.iload 6, 2) := by decide +kernel
theorem d_Walk_nodes_60 : decode b_Walk_nodes 60 = .ok (.aaload, 1) := by decide +kernel
theorem d_Walk_nodes_61 : decode b_Walk_nodes 61 = .ok (.invokevirtual 46, 3) := by decide +kernel
theorem d_Walk_nodes_64 : decode b_Walk_nodes 64 = .ok (.iinc 6 1, 3) := by decide +kernel
theorem d_Walk_nodes_67 : decode b_Walk_nodes 67 = .ok (.goto (-23), 3) := by decide +kernel
theorem d_Walk_nodes_70 : decode b_Walk_nodes 70 = .ok (.iload 5, 2) := by decide +kernel
theorem d_Walk_nodes_72 : decode b_Walk_nodes 72 = .ok (.istore_n 3, 1) := by decide +kernel
theorem d_Walk_nodes_73 : decode b_Walk_nodes 73 = .ok (.aload 4, 2) := by decide +kernel
theorem d_Walk_nodes_75 : decode b_Walk_nodes 75 = .ok (.getfield 50, 3) := by decide +kernel
theorem d_Walk_nodes_78 : decode b_Walk_nodes 78 = .ok (.astore 4, 2) := by decide +kernel
theorem d_Walk_nodes_80 : decode b_Walk_nodes 80 = .ok (.goto (-50), 3) := by decide +kernel
theorem d_Walk_nodes_83 : decode b_Walk_nodes 83 = .ok (.iload_n 3, 1) := by decide +kernel
theorem d_Walk_nodes_84 : decode b_Walk_nodes 84 = .ok (.ireturn, 1) := by decide +kernel
abbrev b_Walk_holds : ByteArray := prog_12_method_14_code
def y_Walk_holds : MethodName := ⟨"QueryBench$Walk", "holds", "(LQueryBench$Condition;LQueryBench$Value;)Z"⟩
abbrev k_Walk_holds : Cond := .code y_Walk_holds b_Walk_holds 3 (some .boolean)
theorem i_Walk_holds : k_Walk_holds ∈ gtbl := gt_in 898 (by decide +kernel) (by decide +kernel)
theorem d_Walk_holds_0 : decode b_Walk_holds 0 = .ok (.aload_n 1, 1) := by decide +kernel
theorem d_Walk_holds_1 : decode b_Walk_holds 1 = .ok (.getfield 156, 3) := by decide +kernel
theorem d_Walk_holds_4 : decode b_Walk_holds 4 = .ok (.tableswitch 88 0 3 #[32, 42, 52, 70], 32) := by decide +kernel
theorem d_Walk_holds_36 : decode b_Walk_holds 36 = .ok (.aload_n 0, 1) := by decide +kernel
theorem d_Walk_holds_37 : decode b_Walk_holds 37 = .ok (.aload_n 1, 1) := by decide +kernel
theorem d_Walk_holds_38 : decode b_Walk_holds 38 = .ok (.getfield 159, 3) := by decide +kernel
theorem d_Walk_holds_41 : decode b_Walk_holds 41 = .ok (.aload_n 2, 1) := by decide +kernel
theorem d_Walk_holds_42 : decode b_Walk_holds 42 = .ok (.invokevirtual 161, 3) := by decide +kernel
theorem d_Walk_holds_45 : decode b_Walk_holds 45 = .ok (.ireturn, 1) := by decide +kernel
theorem d_Walk_holds_46 : decode b_Walk_holds 46 = .ok (.aload_n 0, 1) := by decide +kernel
theorem d_Walk_holds_47 : decode b_Walk_holds 47 = .ok (.aload_n 1, 1) := by decide +kernel
theorem d_Walk_holds_48 : decode b_Walk_holds 48 = .ok (.getfield 159, 3) := by decide +kernel
theorem d_Walk_holds_51 : decode b_Walk_holds 51 = .ok (.aload_n 2, 1) := by decide +kernel
theorem d_Walk_holds_52 : decode b_Walk_holds 52 = .ok (.invokevirtual 164, 3) := by decide +kernel
theorem d_Walk_holds_55 : decode b_Walk_holds 55 = .ok (.ireturn, 1) := by decide +kernel
theorem d_Walk_holds_56 : decode b_Walk_holds 56 = .ok (.aload_n 0, 1) := by decide +kernel
theorem d_Walk_holds_57 : decode b_Walk_holds 57 = .ok (.aload_n 1, 1) := by decide +kernel
theorem d_Walk_holds_58 : decode b_Walk_holds 58 = .ok (.getfield 159, 3) := by decide +kernel
theorem d_Walk_holds_61 : decode b_Walk_holds 61 = .ok (.aload_n 2, 1) := by decide +kernel
theorem d_Walk_holds_62 : decode b_Walk_holds 62 = .ok (.invokevirtual 152, 3) := by decide +kernel
theorem d_Walk_holds_65 : decode b_Walk_holds 65 = .ok (.ifCond .ne 7, 3) := by decide +kernel
theorem d_Walk_holds_68 : decode b_Walk_holds 68 = .ok (.iconst 1, 1) := by decide +kernel
theorem d_Walk_holds_69 : decode b_Walk_holds 69 = .ok (.goto 4, 3) := by decide +kernel
theorem d_Walk_holds_72 : decode b_Walk_holds 72 = .ok (.iconst 0, 1) := by decide +kernel
theorem d_Walk_holds_73 : decode b_Walk_holds 73 = .ok (.ireturn, 1) := by decide +kernel
theorem d_Walk_holds_74 : decode b_Walk_holds 74 = .ok (.aload_n 0, 1) := by decide +kernel
theorem d_Walk_holds_75 : decode b_Walk_holds 75 = .ok (.aload_n 1, 1) := by decide +kernel
theorem d_Walk_holds_76 : decode b_Walk_holds 76 = .ok (.getfield 167, 3) := by decide +kernel
theorem d_Walk_holds_79 : decode b_Walk_holds 79 = .ok (.aload_n 2, 1) := by decide +kernel
theorem d_Walk_holds_80 : decode b_Walk_holds 80 = .ok (.invokevirtual 171, 3) := by decide +kernel
theorem d_Walk_holds_83 : decode b_Walk_holds 83 = .ok (.ifCond .le 7, 3) := by decide +kernel
theorem d_Walk_holds_86 : decode b_Walk_holds 86 = .ok (.iconst 1, 1) := by decide +kernel
theorem d_Walk_holds_87 : decode b_Walk_holds 87 = .ok (.goto 4, 3) := by decide +kernel
theorem d_Walk_holds_90 : decode b_Walk_holds 90 = .ok (.iconst 0, 1) := by decide +kernel
theorem d_Walk_holds_91 : decode b_Walk_holds 91 = .ok (.ireturn, 1) := by decide +kernel
theorem d_Walk_holds_92 : decode b_Walk_holds 92 = .ok (.aload_n 0, 1) := by decide +kernel
theorem d_Walk_holds_93 : decode b_Walk_holds 93 = .ok (.aload_n 1, 1) := by decide +kernel
theorem d_Walk_holds_94 : decode b_Walk_holds 94 = .ok (.aload_n 2, 1) := by decide +kernel
theorem d_Walk_holds_95 : decode b_Walk_holds 95 = .ok (.invokevirtual 174, 3) := by decide +kernel
theorem d_Walk_holds_98 : decode b_Walk_holds 98 = .ok (.ireturn, 1) := by decide +kernel
abbrev b_Walk_valueOf : ByteArray := prog_12_method_18_code
def y_Walk_valueOf : MethodName := ⟨"QueryBench$Walk", "valueOf", "(LQueryBench$Operand;LQueryBench$Value;)LQueryBench$Value;"⟩
abbrev k_Walk_valueOf : Cond := .code y_Walk_valueOf b_Walk_valueOf 4 (some (.object "QueryBench$Value"))
theorem i_Walk_valueOf : k_Walk_valueOf ∈ gtbl := gt_in 918 (by decide +kernel) (by decide +kernel)
theorem d_Walk_valueOf_0 : decode b_Walk_valueOf 0 = .ok (.aload_n 1, 1) := by decide +kernel
theorem d_Walk_valueOf_1 : decode b_Walk_valueOf 1 = .ok (.getfield 197, 3) := by decide +kernel
theorem d_Walk_valueOf_4 : decode b_Walk_valueOf 4 = .ok (.tableswitch 113 1 3 #[28, 38, 60], 28) := by decide +kernel
theorem d_Walk_valueOf_32 : decode b_Walk_valueOf 32 = .ok (.aload_n 0, 1) := by decide +kernel
theorem d_Walk_valueOf_33 : decode b_Walk_valueOf 33 = .ok (.aload_n 1, 1) := by decide +kernel
theorem d_Walk_valueOf_34 : decode b_Walk_valueOf 34 = .ok (.getfield 200, 3) := by decide +kernel
theorem d_Walk_valueOf_37 : decode b_Walk_valueOf 37 = .ok (.aload_n 2, 1) := by decide +kernel
theorem d_Walk_valueOf_38 : decode b_Walk_valueOf 38 = .ok (.invokevirtual 201, 3) := by decide +kernel
theorem d_Walk_valueOf_41 : decode b_Walk_valueOf 41 = .ok (.areturn, 1) := by decide +kernel
theorem d_Walk_valueOf_42 : decode b_Walk_valueOf 42 = .ok (.aload_n 1, 1) := by decide +kernel
theorem d_Walk_valueOf_43 : decode b_Walk_valueOf 43 = .ok (.getfield 205, 3) := by decide +kernel
theorem d_Walk_valueOf_46 : decode b_Walk_valueOf 46 = .ok (.aload_n 0, 1) := by decide +kernel
theorem d_Walk_valueOf_47 : decode b_Walk_valueOf 47 = .ok (.aload_n 1, 1) := by decide +kernel
theorem d_Walk_valueOf_48 : decode b_Walk_valueOf 48 = .ok (.getfield 200, 3) := by decide +kernel
theorem d_Walk_valueOf_51 : decode b_Walk_valueOf 51 = .ok (.aload_n 2, 1) := by decide +kernel
theorem d_Walk_valueOf_52 : decode b_Walk_valueOf 52 = .ok (.invokevirtual 171, 3) := by decide +kernel
theorem d_Walk_valueOf_55 : decode b_Walk_valueOf 55 = .ok (.i2l, 1) := by decide +kernel
theorem d_Walk_valueOf_56 : decode b_Walk_valueOf 56 = .ok (.putfield 208, 3) := by decide +kernel
theorem d_Walk_valueOf_59 : decode b_Walk_valueOf 59 = .ok (.aload_n 1, 1) := by decide +kernel
theorem d_Walk_valueOf_60 : decode b_Walk_valueOf 60 = .ok (.getfield 205, 3) := by decide +kernel
theorem d_Walk_valueOf_63 : decode b_Walk_valueOf 63 = .ok (.areturn, 1) := by decide +kernel
theorem d_Walk_valueOf_64 : decode b_Walk_valueOf 64 = .ok (.aload_n 0, 1) := by decide +kernel
theorem d_Walk_valueOf_65 : decode b_Walk_valueOf 65 = .ok (.aload_n 1, 1) := by decide +kernel
theorem d_Walk_valueOf_66 : decode b_Walk_valueOf 66 = .ok (.getfield 211, 3) := by decide +kernel
theorem d_Walk_valueOf_69 : decode b_Walk_valueOf 69 = .ok (.aload_n 2, 1) := by decide +kernel
theorem d_Walk_valueOf_70 : decode b_Walk_valueOf 70 = .ok (.invokevirtual 183, 3) := by decide +kernel
theorem d_Walk_valueOf_73 : decode b_Walk_valueOf 73 = .ok (.astore_n 3, 1) := by decide +kernel
theorem d_Walk_valueOf_74 : decode b_Walk_valueOf 74 = .ok (.aload_n 1, 1) := by decide +kernel
theorem d_Walk_valueOf_75 : decode b_Walk_valueOf 75 = .ok (.getfield 205, 3) := by decide +kernel
theorem d_Walk_valueOf_78 : decode b_Walk_valueOf 78 = .ok (.aload_n 3, 1) := by decide +kernel
theorem d_Walk_valueOf_79 : decode b_Walk_valueOf 79 = .ok (.ifnonnull 9, 3) := by decide +kernel
theorem d_Walk_valueOf_82 : decode b_Walk_valueOf 82 = .ok (.ldc2_w 141, 3) := by decide +kernel
theorem d_Walk_valueOf_85 : decode b_Walk_valueOf 85 = .ok (.goto 8, 3) := by decide +kernel
theorem d_Walk_valueOf_88 : decode b_Walk_valueOf 88 = .ok (.aload_n 3, 1) := by decide +kernel
theorem d_Walk_valueOf_89 : decode b_Walk_valueOf 89 = .ok (.invokevirtual 214, 3) := by decide +kernel
theorem d_Walk_valueOf_92 : decode b_Walk_valueOf 92 = .ok (.i2l, 1) := by decide +kernel
theorem d_Walk_valueOf_93 : decode b_Walk_valueOf 93 = .ok (.putfield 208, 3) := by decide +kernel
theorem d_Walk_valueOf_96 : decode b_Walk_valueOf 96 = .ok (.aload_n 1, 1) := by decide +kernel
theorem d_Walk_valueOf_97 : decode b_Walk_valueOf 97 = .ok (.getfield 205, 3) := by decide +kernel
theorem d_Walk_valueOf_100 : decode b_Walk_valueOf 100 = .ok (.getfield 208, 3) := by decide +kernel
theorem d_Walk_valueOf_103 : decode b_Walk_valueOf 103 = .ok (.lconst 0, 1) := by decide +kernel
theorem d_Walk_valueOf_104 : decode b_Walk_valueOf 104 = .ok (.lcmp, 1) := by decide +kernel
theorem d_Walk_valueOf_105 : decode b_Walk_valueOf 105 = .ok (.ifCond .ge 7, 3) := by decide +kernel
theorem d_Walk_valueOf_108 : decode b_Walk_valueOf 108 = .ok (.aconst_null, 1) := by decide +kernel
theorem d_Walk_valueOf_109 : decode b_Walk_valueOf 109 = .ok (.goto 7, 3) := by decide +kernel
theorem d_Walk_valueOf_112 : decode b_Walk_valueOf 112 = .ok (.aload_n 1, 1) := by decide +kernel
theorem d_Walk_valueOf_113 : decode b_Walk_valueOf 113 = .ok (.getfield 205, 3) := by decide +kernel
theorem d_Walk_valueOf_116 : decode b_Walk_valueOf 116 = .ok (.areturn, 1) := by decide +kernel
theorem d_Walk_valueOf_117 : decode b_Walk_valueOf 117 = .ok (.aload_n 1, 1) := by decide +kernel
theorem d_Walk_valueOf_118 : decode b_Walk_valueOf 118 = .ok (.getfield 205, 3) := by decide +kernel
theorem d_Walk_valueOf_121 : decode b_Walk_valueOf 121 = .ok (.areturn, 1) := by decide +kernel
/-- nodes, of a query of a level -/
def NDC (l : Launch) (K : Nat → Nat × Nat) (dC : Nat → ClassId) (dI : Nat → Nat → Nat) (cI cV : ClassId) (E lv : Nat → Nat) (L : List Nat) (f : Nat → va_E) (wk wl rt : Nat) (n : Nat) : Prop := ∀ (sz : Heap) (tp sp : Nat) (g : Nat → Option Nat) (ν : Nat → Int64), WI E tp sp g → ∀ qu cu, E qu = 7 → lv qu ≤ n → isF E cu → vx_Met l y_Walk_nodes (k_Walk_nodes :: gtbl) ({ frames := 60 + 5 * n, cells := 1, slots := 6, locals := 2500 + 200 * n }) (va_Pc [.ref wk, .ref qu, .ref cu] (ml K dC dI ([(wk, .inr (10, [.ref wl, .int (nI tp), .int (nI sp), .ref rt])), (wl, .inl (cV, 10000, .inr (.inr (.inr (.inr g)))))] ++ va_pl L (pf f ν)) [(cI, .int), (cV, .object "QueryBench$Value")] sz)) (va_Qi (fun (r : Int32) (u : Nat × Nat × (Nat → Option Nat) × (Nat → Int64)) => (∃ fr, r = nI fr ∧ fr ≤ u.1) ∧ tp ≤ u.1 ∧ sp ≤ u.2.1 ∧ WI E u.1 u.2.1 u.2.2.1) (fun u t9 => mz dC dI ([(wk, .inr (10, [.ref wl, .int (nI u.1), .int (nI u.2.1), .ref rt])), (wl, .inl (cV, 10000, .inr (.inr (.inr (.inr u.2.2.1)))))] ++ va_pl L (pf f u.2.2.2)) [(cI, .int), (cV, .object "QueryBench$Value")] (va_A ([(wk, .inr (10, [.ref wl, .int (nI tp), .int (nI sp), .ref rt])), (wl, .inl (cV, 10000, .inr (.inr (.inr (.inr g)))))] ++ va_pl L (pf f ν)) sz.size) t9 ∧ szk sz t9.heap (0) (0)) (va_A ([(wk, .inr (10, [.ref wl, .int (nI tp), .int (nI sp), .ref rt])), (wl, .inl (cV, 10000, .inr (.inr (.inr (.inr g)))))] ++ va_pl L (pf f ν)) sz.size)) (vx_X (fun (u : Int32 × Int32 × (Nat → Option Nat) × (Nat → Int64)) => True) (fun En u t9 => En = IOB ∧ mz dC dI ([(wk, .inr (10, [.ref wl, .int u.1, .int u.2.1, .ref rt])), (wl, .inl (cV, 10000, .inr (.inr (.inr (.inr u.2.2.1)))))] ++ va_pl L (pf f u.2.2.2)) [(cI, .int), (cV, .object "QueryBench$Value")] (va_A ([(wk, .inr (10, [.ref wl, .int (nI tp), .int (nI sp), .ref rt])), (wl, .inl (cV, 10000, .inr (.inr (.inr (.inr g)))))] ++ va_pl L (pf f ν)) sz.size) t9) (va_A ([(wk, .inr (10, [.ref wl, .int (nI tp), .int (nI sp), .ref rt])), (wl, .inl (cV, 10000, .inr (.inr (.inr (.inr g)))))] ++ va_pl L (pf f ν)) sz.size)) (1) (6) (va_A ([(wk, .inr (10, [.ref wl, .int (nI tp), .int (nI sp), .ref rt])), (wl, .inl (cV, 10000, .inr (.inr (.inr (.inr g)))))] ++ va_pl L (pf f ν)) sz.size)
/-- holds, of a condition of a level -/
def HDC (l : Launch) (K : Nat → Nat × Nat) (dC : Nat → ClassId) (dI : Nat → Nat → Nat) (cI cV : ClassId) (E lv : Nat → Nat) (L : List Nat) (f : Nat → va_E) (wk wl rt : Nat) (n : Nat) : Prop := ∀ (sz : Heap) (tp sp : Nat) (g : Nat → Option Nat) (ν : Nat → Int64), WI E tp sp g → ∀ co cu, E co = 10 → lv co ≤ n → isF E cu → vx_Met l y_Walk_holds (k_Walk_holds :: gtbl) ({ frames := 60 + 5 * n, cells := 1, slots := 6, locals := 2500 + 200 * n }) (va_Pc [.ref wk, .ref co, .ref cu] (ml K dC dI ([(wk, .inr (10, [.ref wl, .int (nI tp), .int (nI sp), .ref rt])), (wl, .inl (cV, 10000, .inr (.inr (.inr (.inr g)))))] ++ va_pl L (pf f ν)) [(cI, .int), (cV, .object "QueryBench$Value")] sz)) (va_Qi (fun (r : Int32) (u : Nat × (Nat → Option Nat) × (Nat → Int64)) => Bo r ∧ sp ≤ u.1 ∧ WI E tp u.1 u.2.1) (fun u t9 => mz dC dI ([(wk, .inr (10, [.ref wl, .int (nI tp), .int (nI u.1), .ref rt])), (wl, .inl (cV, 10000, .inr (.inr (.inr (.inr u.2.1)))))] ++ va_pl L (pf f u.2.2)) [(cI, .int), (cV, .object "QueryBench$Value")] (va_A ([(wk, .inr (10, [.ref wl, .int (nI tp), .int (nI sp), .ref rt])), (wl, .inl (cV, 10000, .inr (.inr (.inr (.inr g)))))] ++ va_pl L (pf f ν)) sz.size) t9 ∧ szk sz t9.heap (0) (0)) (va_A ([(wk, .inr (10, [.ref wl, .int (nI tp), .int (nI sp), .ref rt])), (wl, .inl (cV, 10000, .inr (.inr (.inr (.inr g)))))] ++ va_pl L (pf f ν)) sz.size)) (vx_X (fun (u : Int32 × Int32 × (Nat → Option Nat) × (Nat → Int64)) => True) (fun En u t9 => En = IOB ∧ mz dC dI ([(wk, .inr (10, [.ref wl, .int u.1, .int u.2.1, .ref rt])), (wl, .inl (cV, 10000, .inr (.inr (.inr (.inr u.2.2.1)))))] ++ va_pl L (pf f u.2.2.2)) [(cI, .int), (cV, .object "QueryBench$Value")] (va_A ([(wk, .inr (10, [.ref wl, .int (nI tp), .int (nI sp), .ref rt])), (wl, .inl (cV, 10000, .inr (.inr (.inr (.inr g)))))] ++ va_pl L (pf f ν)) sz.size) t9) (va_A ([(wk, .inr (10, [.ref wl, .int (nI tp), .int (nI sp), .ref rt])), (wl, .inl (cV, 10000, .inr (.inr (.inr (.inr g)))))] ++ va_pl L (pf f ν)) sz.size)) (1) (6) (va_A ([(wk, .inr (10, [.ref wl, .int (nI tp), .int (nI sp), .ref rt])), (wl, .inl (cV, 10000, .inr (.inr (.inr (.inr g)))))] ++ va_pl L (pf f ν)) sz.size)
/-- valueOf, of an operand of a level -/
def VOC (l : Launch) (K : Nat → Nat × Nat) (dC : Nat → ClassId) (dI : Nat → Nat → Nat) (cI cV : ClassId) (E lv : Nat → Nat) (L : List Nat) (f : Nat → va_E) (wk wl rt : Nat) (n : Nat) : Prop := ∀ (sz : Heap) (tp sp : Nat) (g : Nat → Option Nat) (ν : Nat → Int64), WI E tp sp g → ∀ op cu, E op = 11 → lv op ≤ n → isF E cu → vx_Met l y_Walk_valueOf (k_Walk_valueOf :: gtbl) ({ frames := 60 + 5 * n, cells := 1, slots := 6, locals := 2500 + 200 * n }) (va_Pc [.ref wk, .ref op, .ref cu] (ml K dC dI ([(wk, .inr (10, [.ref wl, .int (nI tp), .int (nI sp), .ref rt])), (wl, .inl (cV, 10000, .inr (.inr (.inr (.inr g)))))] ++ va_pl L (pf f ν)) [(cI, .int), (cV, .object "QueryBench$Value")] sz)) (va_Qq (fun (r : Option Nat) (u : Nat × (Nat → Option Nat) × (Nat → Int64)) => oR (isF E) r ∧ sp ≤ u.1 ∧ WI E tp u.1 u.2.1) (fun u t9 => mz dC dI ([(wk, .inr (10, [.ref wl, .int (nI tp), .int (nI u.1), .ref rt])), (wl, .inl (cV, 10000, .inr (.inr (.inr (.inr u.2.1)))))] ++ va_pl L (pf f u.2.2)) [(cI, .int), (cV, .object "QueryBench$Value")] (va_A ([(wk, .inr (10, [.ref wl, .int (nI tp), .int (nI sp), .ref rt])), (wl, .inl (cV, 10000, .inr (.inr (.inr (.inr g)))))] ++ va_pl L (pf f ν)) sz.size) t9 ∧ szk sz t9.heap (0) (0)) (va_A ([(wk, .inr (10, [.ref wl, .int (nI tp), .int (nI sp), .ref rt])), (wl, .inl (cV, 10000, .inr (.inr (.inr (.inr g)))))] ++ va_pl L (pf f ν)) sz.size)) (vx_X (fun (u : Int32 × Int32 × (Nat → Option Nat) × (Nat → Int64)) => True) (fun En u t9 => En = IOB ∧ mz dC dI ([(wk, .inr (10, [.ref wl, .int u.1, .int u.2.1, .ref rt])), (wl, .inl (cV, 10000, .inr (.inr (.inr (.inr u.2.2.1)))))] ++ va_pl L (pf f u.2.2.2)) [(cI, .int), (cV, .object "QueryBench$Value")] (va_A ([(wk, .inr (10, [.ref wl, .int (nI tp), .int (nI sp), .ref rt])), (wl, .inl (cV, 10000, .inr (.inr (.inr (.inr g)))))] ++ va_pl L (pf f ν)) sz.size) t9) (va_A ([(wk, .inr (10, [.ref wl, .int (nI tp), .int (nI sp), .ref rt])), (wl, .inl (cV, 10000, .inr (.inr (.inr (.inr g)))))] ++ va_pl L (pf f ν)) sz.size)) (1) (6) (va_A ([(wk, .inr (10, [.ref wl, .int (nI tp), .int (nI sp), .ref rt])), (wl, .inl (cV, 10000, .inr (.inr (.inr (.inr g)))))] ++ va_pl L (pf f ν)) sz.size)
abbrev b_Walk_pushFiltered : ByteArray := prog_12_method_13_code
def y_Walk_pushFiltered : MethodName := ⟨"QueryBench$Walk", "pushFiltered", "(LQueryBench$Value;LQueryBench$Condition;)V"⟩
abbrev k_Walk_pushFiltered : Cond := .code y_Walk_pushFiltered b_Walk_pushFiltered 4 none
theorem i_Walk_pushFiltered : k_Walk_pushFiltered ∈ gtbl := gt_in 894 (by decide +kernel) (by decide +kernel)
theorem d_Walk_pushFiltered_0 : decode b_Walk_pushFiltered 0 = .ok (.iconst 0, 1) := by decide +kernel
theorem d_Walk_pushFiltered_1 : decode b_Walk_pushFiltered 1 = .ok (.istore_n 3, 1) := by decide +kernel
theorem d_Walk_pushFiltered_2 : decode b_Walk_pushFiltered 2 = .ok (.iload_n 3, 1) := by decide +kernel
theorem d_Walk_pushFiltered_3 : decode b_Walk_pushFiltered 3 = .ok (.aload_n 1, 1) := by decide +kernel
theorem d_Walk_pushFiltered_4 : decode b_Walk_pushFiltered 4 = .ok (.invokevirtual 118, 3) := by decide +kernel
theorem d_Walk_pushFiltered_7 : decode b_Walk_pushFiltered 7 = .ok (.if_icmp .ge 37, 3) := by decide +kernel
theorem d_Walk_pushFiltered_10 : decode b_Walk_pushFiltered 10 = .ok (.aload_n 0, 1) := by decide +kernel
theorem d_Walk_pushFiltered_11 : decode b_Walk_pushFiltered 11 = .ok (.invokevirtual 58, 3) := by decide +kernel
theorem d_Walk_pushFiltered_14 : decode b_Walk_pushFiltered 14 = .ok (.aload_n 0, 1) := by decide +kernel
theorem d_Walk_pushFiltered_15 : decode b_Walk_pushFiltered 15 = .ok (.aload_n 2, 1) := by decide +kernel
theorem d_Walk_pushFiltered_16 : decode b_Walk_pushFiltered 16 = .ok (.aload_n 1, 1) := by decide +kernel
theorem d_Walk_pushFiltered_17 : decode b_Walk_pushFiltered 17 = .ok (.getfield 122, 3) := by decide +kernel
theorem d_Walk_pushFiltered_20 : decode b_Walk_pushFiltered 20 = .ok (.iload_n 3, 1) := by decide +kernel
theorem d_Walk_pushFiltered_21 : decode b_Walk_pushFiltered 21 = .ok (.aaload, 1) := by decide +kernel
theorem d_Walk_pushFiltered_22 : decode b_Walk_pushFiltered 22 = .ok (.invokevirtual 152, 3) := by decide +kernel
theorem d_Walk_pushFiltered_25 : decode b_Walk_pushFiltered 25 = .ok (.ifCond .eq 13, 3) := by decide +kernel
theorem d_Walk_pushFiltered_28 : decode b_Walk_pushFiltered 28 = .ok (.aload_n 0, 1) := by decide +kernel
theorem d_Walk_pushFiltered_29 : decode b_Walk_pushFiltered 29 = .ok (.aload_n 1, 1) := by decide +kernel
theorem d_Walk_pushFiltered_30 : decode b_Walk_pushFiltered 30 = .ok (.getfield 122, 3) := by decide +kernel
theorem d_Walk_pushFiltered_33 : decode b_Walk_pushFiltered 33 = .ok (.iload_n 3, 1) := by decide +kernel
theorem d_Walk_pushFiltered_34 : decode b_Walk_pushFiltered 34 = .ok (.aaload, 1) := by decide +kernel
theorem d_Walk_pushFiltered_35 : decode b_Walk_pushFiltered 35 = .ok (.invokevirtual 38, 3) := by decide +kernel
theorem d_Walk_pushFiltered_38 : decode b_Walk_pushFiltered 38 = .ok (.iinc 3 1, 3) := by decide +kernel
theorem d_Walk_pushFiltered_41 : decode b_Walk_pushFiltered 41 = .ok (.goto (-39), 3) := by decide +kernel
theorem d_Walk_pushFiltered_44 : decode b_Walk_pushFiltered 44 = .ok (.return_, 1) := by decide +kernel
set_option maxHeartbeats 4000000 in
set_option maxRecDepth 100000 in
/-- Walk.pushFiltered -/
theorem c_Walk_pushFiltered (l : Launch) (hl9 : l.stackTraces = false) (K : Nat → Nat × Nat) (dC : Nat → ClassId) (dI : Nat → Nat → Nat) (sz : Heap) (cI cV : ClassId) (E lv : Nat → Nat) (L : List Nat) (f : Nat → va_E) (hO : PO cI cV E lv L f) (hN1 : ∀ a, E a ≠ 1) (wk wl rt : Nat) (hrt : isF E rt) (tp sp : Nat) (g : Nat → Option Nat) (ν : Nat → Int64) (hW9 : WI E tp sp g) (n : Nat) (hn : 0 < n) (HI : HDC l K dC dI cI cV E lv L f wk wl rt (n - 1)) (nd : Nat) (hnd : isF E nd) (fl : Nat) (hfl : E fl = 10) (hlf : lv fl ≤ n - 1) : vx_Met l y_Walk_pushFiltered (k_Walk_pushFiltered :: gtbl) ({ frames := 57 + 5 * n, cells := 1, slots := 6, locals := 2380 + 200 * n }) (va_Pc [.ref wk, .ref nd, .ref fl] (ml K dC dI ([(wk, .inr (10, [.ref wl, .int (nI tp), .int (nI sp), .ref rt])), (wl, .inl (cV, 10000, .inr (.inr (.inr (.inr g)))))] ++ va_pl L (pf f ν)) [(cI, .int), (cV, .object "QueryBench$Value")] sz)) (va_Qv (fun (u : Nat × Nat × (Nat → Option Nat) × (Nat → Int64)) => tp ≤ u.1 ∧ sp ≤ u.2.1 ∧ WI E u.1 u.2.1 u.2.2.1) (fun u t9 => mz dC dI ([(wk, .inr (10, [.ref wl, .int (nI u.1), .int (nI u.2.1), .ref rt])), (wl, .inl (cV, 10000, .inr (.inr (.inr (.inr u.2.2.1)))))] ++ va_pl L (pf f u.2.2.2)) [(cI, .int), (cV, .object "QueryBench$Value")] (va_A ([(wk, .inr (10, [.ref wl, .int (nI tp), .int (nI sp), .ref rt])), (wl, .inl (cV, 10000, .inr (.inr (.inr (.inr g)))))] ++ va_pl L (pf f ν)) sz.size) t9 ∧ szk sz t9.heap (0) (0)) (va_A ([(wk, .inr (10, [.ref wl, .int (nI tp), .int (nI sp), .ref rt])), (wl, .inl (cV, 10000, .inr (.inr (.inr (.inr g)))))] ++ va_pl L (pf f ν)) sz.size)) (vx_X (fun (u : Int32 × Int32 × (Nat → Option Nat) × (Nat → Int64)) => True) (fun En u t9 => En = IOB ∧ mz dC dI ([(wk, .inr (10, [.ref wl, .int u.1, .int u.2.1, .ref rt])), (wl, .inl (cV, 10000, .inr (.inr (.inr (.inr u.2.2.1)))))] ++ va_pl L (pf f u.2.2.2)) [(cI, .int), (cV, .object "QueryBench$Value")] (va_A ([(wk, .inr (10, [.ref wl, .int (nI tp), .int (nI sp), .ref rt])), (wl, .inl (cV, 10000, .inr (.inr (.inr (.inr g)))))] ++ va_pl L (pf f ν)) sz.size) t9) (va_A ([(wk, .inr (10, [.ref wl, .int (nI tp), .int (nI sp), .ref rt])), (wl, .inl (cV, 10000, .inr (.inr (.inr (.inr g)))))] ++ va_pl L (pf f ν)) sz.size)) (1) (6) (va_A ([(wk, .inr (10, [.ref wl, .int (nI tp), .int (nI sp), .ref rt])), (wl, .inl (cV, 10000, .inr (.inr (.inr (.inr g)))))] ++ va_pl L (pf f ν)) sz.size) := by
  refine vx_ofW (cc := b_Walk_pushFiltered) (maxL := 4) (ret := none) (by decide) rfl ?_
  intro p e s m args below meth c s₁ B hml hex hv
  obtain ⟨rfl, ⟨hsz, hP, hK, hD0⟩, hN, hZ, hC, hV⟩ := hv
  have hx := B.exec
  have hb := B.bytes
  have hr := B.returns
  have hts0 := atoms_spec (ws := k_Walk_pushFiltered :: gtbl) B.pre
  have hts := fun w h => hts0 w (List.mem_cons_of_mem _ h)
  have hown : s.vm.findClass R_Walk = some m.cls := findClass_of_methodNamed B.named
  have hlocks := B.notSynchronized
  subst hsz
  have hD := hD0.self (sz := s.heap.size)
  generalize hAe : va_A ([(wk, .inr (10, [.ref wl, .int (nI tp), .int (nI sp), .ref rt])), (wl, .inl (cV, 10000, .inr (.inr (.inr (.inr g)))))] ++ va_pl L (pf f ν)) s.heap.size = A at hD hZ hC ⊢
  have hA : ∀ q : Nat, s.heap.size ≤ q → A q := fun q h => by rw [← hAe]; exact Or.inr h
  have hS : va_S A s.heap s.heap [] := va_S.rf
  have hP : va_P (dC, dI) classes ([(wk, .inr (10, [.ref wl, .int (nI tp), .int (nI sp), .ref rt])), (wl, .inl (cV, 10000, .inr (.inr (.inr (.inr g)))))] ++ va_pl L (pf f ν)) s.heap := hP
  have hl := lv_entry ([.ref wk, .ref nd, .ref fl]) (n := 4) (Nat.le_of_ble_eq_true rfl)
  rw [lg_entry_eq]
  generalize (lg_sl ([.ref wk, .ref nd, .ref fl]) ++ List.replicate (4 - (lg_sl ([.ref wk, .ref nd, .ref fl])).length) Slot.unset).toArray = ls at hl ⊢
  have hl : lv_has ls 4 [(0, .ref wk), (1, .ref nd), (2, .ref fl)] := hl
  have hW0 := hW9
  have hW1 := hW9.1
  have hW2 := hW9.2.1
  refine lv_iconst (v := 0) hx hb d_Walk_pushFiltered_0 (by decide) ?_
  refine lv_istore_n (lv' := [(3, .int 0), (0, .ref wk), (1, .ref nd), (2, .ref fl)]) hx hb d_Walk_pushFiltered_1 rfl hl (by decide) rfl (fun ls hl => ?_)
  obtain ⟨kd21, nu21, tx21, me21, pa21, na21, ix21, nm21, no21, sp21, ef21, hv21⟩ := hO.val ((isF.v hnd))
  have hs := hO.szle ef21 hv21
  refine w_loop (D := (dC, dI)) (cl := classes) (A := A) (H0 := s.heap) (nL := 4) 2 (σ := Nat × Nat × Nat × (Nat → Option Nat) × (Nat → Int64)) (fun ⟨i, t, s9, g, ν⟩ => i ≤ 4096 ∧ tp ≤ t ∧ sp ≤ s9 ∧ WI E t s9 g) (fun ⟨i, t, s9, g, ν⟩ => 4096 - i) (fun ⟨i, t, s9, g, ν⟩ => [(wk, .inr (10, [.ref wl, .int (nI t), .int (nI s9), .ref rt])), (wl, .inl (cV, 10000, .inr (.inr (.inr (.inr g)))))] ++ va_pl L (pf f ν)) (fun ⟨i, t, s9, g, ν⟩ => [(0, .ref wk), (1, .ref nd), (2, .ref fl), (3, .int (nI i))]) ?_ (0, tp, sp, g, ν) ⟨Nat.zero_le _, by show tp ≤ tp; omega, by show sp ≤ sp; omega, hW9⟩ hP hD hS (lv_sub hl [1, 2, 3, 0] rfl)
  rintro ⟨i, t, s9, g, ν⟩ H locs ls hI ih hP hD hS hl
  have hP : va_P (dC, dI) classes ([(wk, .inr (10, [.ref wl, .int (nI t), .int (nI s9), .ref rt])), (wl, .inl (cV, 10000, .inr (.inr (.inr (.inr g)))))] ++ va_pl L (pf f ν)) H := hP
  have hD : va_D A ([(wk, .inr (10, [.ref wl, .int (nI t), .int (nI s9), .ref rt])), (wl, .inl (cV, 10000, .inr (.inr (.inr (.inr g)))))] ++ va_pl L (pf f ν)) := hD
  have hl : lv_has ls 4 [(0, .ref wk), (1, .ref nd), (2, .ref fl), (3, .int (nI i))] := hl
  obtain ⟨hI, hI1, hI2, hI3⟩ := hI
  have hI : i ≤ 4096 := hI
  have hI1 : tp ≤ t := hI1
  have hI2 : sp ≤ s9 := hI2
  have hI3 : WI E t s9 g := hI3
  have hhI31 := hI3.1
  have hhI32 := hI3.2.1
  refine lv_iload_n hx hb d_Walk_pushFiltered_2 rfl (lv_at hl 3 rfl) ?_
  refine lv_aload_n hx hb d_Walk_pushFiltered_3 rfl (lv_at hl 1 rfl) ?_
  refine vp_callSi (va_Run.run (va_runV (As := []) (rest := [.int (nI i)]) ⟨hx, hb, hml, hown, hts⟩ (c_Value_size l dC dI H cI cV E lv L (pf f ν) (hO.num ν) nd hnd) (cwV 0 hts (gt_V (own := R_Walk) (C := R_Value) (i := 118) (y := y_Value_size) i_Value_size z_874 z_866 z_867 z_14) rfl rfl rfl (by decide +kernel) ⟨by show 0 + 1 ≤ 57 + 5 * n; omega, by show 8 + (1 + 11) + (0) ≤ 2380 + 200 * n; omega⟩) ⟨mq_blind, vq_recv hK hP rfl (hO.inV (isF.v hnd)) (pf_V ef21), fun U hU hW => ⟨rfl, hU, by rw [hU]; exact hP.part (cx := []) [] rfl, va_K.moved hW.alike hK, hN.warm hW⟩⟩ rfl rfl hl.1 rfl (lv_room (Nat.le_of_ble_eq_true rfl)) d_Walk_pushFiltered_4 ⟨Nat.le_of_ble_eq_true rfl, Nat.le_of_ble_eq_true rfl⟩)) (fun r22 h_r22 => ?_)
  rw [hO.szpf hnd] at h_r22
  subst h_r22
  refine lv_icmp_ge (tgt := 44) hx hb d_Walk_pushFiltered_7 (by decide) (fun c7 => ?_) (fun c7 => ?_)
  · refine w_same (fun hq => ?_)
    refine W.widen (k := 1) (n := 6) (Nat.le_of_ble_eq_true rfl) (Nat.le_of_ble_eq_true rfl) ?_
    refine vx_ret ?_
    exact W.vret hx hb hr (fun t9 ht hW => ⟨⟨(t, s9, g, ν), rfl, ⟨by show tp ≤ t; omega, by show sp ≤ s9; omega, hI3⟩, ⟨by rw [ht]; exact hP, va_K.moved hW.alike hK, hD⟩, by rw [ht]; exact hq⟩, hS.F ht⟩) hS.2.2 d_Walk_pushFiltered_44
  · have hi : i < szF f nd := by rw [nI_leI (by omega) (by omega)] at c7; omega
    refine lv_aload_n hx hb d_Walk_pushFiltered_10 rfl (lv_at hl 0 rfl) ?_
    have hPc := hP.sub (ws' := [(wk, .inr (10, [.ref wl, .int (nI t), .int (nI s9), .ref rt]))]) [0] rfl
    have hDc := hD.sub (ws' := [(wk, .inr (10, [.ref wl, .int (nI t), .int (nI s9), .ref rt]))]) [0] (by decide) rfl
    have hFc := va_free (wc := [(wk, .inr (10, [.ref wl, .int (nI t), .int (nI s9), .ref rt]))]) hD hS hA [0] rfl
    have hKc := hK.sub (tys' := []) [] rfl
    refine w_same (fun hq0 => ?_)
    refine vx_callv (vx_runV (As := []) (rest := []) ⟨hx, hb, hml, hown, hts⟩ (c_Walk_spend l hl9 dC dI wk H (.ref wl) (.ref rt) (nI t) s9 (by omega)) (cwV 0 hts (gt_V (own := R_Walk) (C := R_Walk) (i := 58) (y := y_Walk_spend) i_Walk_spend z_843 z_845 (gt_sel (y := y_Walk_spend) (n := 4) (by decide +kernel)) w_5) rfl rfl rfl (by decide +kernel) ⟨by show 8 + 1 ≤ 57 + 5 * n; omega, by show 8 + (1 + 11) + (110) ≤ 2380 + 200 * n; omega⟩) ⟨mx_blind, va_recv hK hP (ci := 10) (q0 := 0) rfl rfl, fun U hU hW => ⟨rfl, ⟨hU, by rw [hU]; exact hPc, va_K.moved hW.alike hKc, hDc.weaken (fun _ _ _ _ => trivial)⟩, hN.warm hW, by rw [hU]; exact ZX.moved' hW.alike (ZX.narrow' (ZX.kept' hZ hS.2.1) hFc)⟩⟩ rfl rfl hl.1 rfl (lv_room (Nat.le_of_ble_eq_true rfl)) d_Walk_pushFiltered_11 ⟨Nat.le_of_ble_eq_true rfl, Nat.le_of_ble_eq_true rfl⟩) hS (fun q _ h => hFc q h) hFc (fun q _ h => hFc q h) (fun En ce q9 _u t9 H1 locs ht hvm hw hB hz1 hk1 hS hce hcv hcl => ?_) (fun _u t9 H1 locs ht hvm hw hB hz1 hk1 hS => ?_)
    · obtain ⟨hEn, hP1, hK1, hD1⟩ := hB
      rw [ht] at hP1
      obtain ⟨hP, hD⟩ := va_joinQ (wr := [(wl, .inl (cV, 10000, .inr (.inr (.inr (.inr g)))))]) (w1 := [(wk, .inr (10, [.ref wl, .int (nI t), .int (nI s9), .ref rt]))]) hP hD [0] [1] rfl rfl (by decide) (by decide) hk1 hFc hP1 hD1
      generalize H1 = H at hP hS hce ⊢
      have hP : va_P (dC, dI) classes ([(wl, .inl (cV, 10000, .inr (.inr (.inr (.inr g))))), (wk, .inr (10, [.ref wl, .int (nI t), .int (nI s9), .ref rt]))] ++ va_pl L (pf f ν)) H := hP
      have hD : va_D A ([(wl, .inl (cV, 10000, .inr (.inr (.inr (.inr g))))), (wk, .inr (10, [.ref wl, .int (nI t), .int (nI s9), .ref rt]))] ++ va_pl L (pf f ν)) := hD
      have hP := hP.part (cx := [(wk, .inr (10, [.ref wl, .int (nI t), .int (nI s9), .ref rt])), (wl, .inl (cV, 10000, .inr (.inr (.inr (.inr g)))))]) [1, 0] rfl
      have hD := hD.part (cx := [(wk, .inr (10, [.ref wl, .int (nI t), .int (nI s9), .ref rt])), (wl, .inl (cV, 10000, .inr (.inr (.inr (.inr g)))))]) [1, 0] (by decide) rfl
      exact vx_out (fun x hx => (hex x hx).elim) hlocks hce hcv hcl (fun t9 ht2 ha => ⟨(nI t, nI s9, g, ν), trivial, ⟨hEn, by rw [ht2]; exact hP, va_K.moved ha hK, hD⟩, hS.F ht2⟩) hS.2.2 (Nat.le_of_ble_eq_true rfl) (Nat.le_of_ble_eq_true rfl)
    · obtain ⟨⟨hP1, hK1, hD1⟩, hz9⟩ := hB
      rw [ht] at hP1
      rw [ht] at hz9
      refine w_tight (hq0.trans hz9) ?_
      have hq0 := hq0.trans hz9
      obtain ⟨hP, hD⟩ := va_joinQ (wr := [(wl, .inl (cV, 10000, .inr (.inr (.inr (.inr g)))))]) (w1 := [(wk, .inr (10, [.ref wl, .int (nI t), .int (nI (s9 + 1)), .ref rt]))]) hP hD [0] [1] rfl rfl (by decide) (by decide) hk1 hFc hP1 hD1
      generalize H1 = H at hP hS hq0 ⊢
      have hP : va_P (dC, dI) classes ([(wl, .inl (cV, 10000, .inr (.inr (.inr (.inr g))))), (wk, .inr (10, [.ref wl, .int (nI t), .int (nI (s9 + 1)), .ref rt]))] ++ va_pl L (pf f ν)) H := hP
      have hD : va_D A ([(wl, .inl (cV, 10000, .inr (.inr (.inr (.inr g))))), (wk, .inr (10, [.ref wl, .int (nI t), .int (nI (s9 + 1)), .ref rt]))] ++ va_pl L (pf f ν)) := hD
      have hP := hP.part (cx := [(wk, .inr (10, [.ref wl, .int (nI t), .int (nI (s9 + 1)), .ref rt])), (wl, .inl (cV, 10000, .inr (.inr (.inr (.inr g)))))]) [1, 0] rfl
      have hD := hD.part (cx := [(wk, .inr (10, [.ref wl, .int (nI t), .int (nI (s9 + 1)), .ref rt])), (wl, .inl (cV, 10000, .inr (.inr (.inr (.inr g)))))]) [1, 0] (by decide) rfl
      have hsp23 : s9 < 10000 := hw
      have hW23 := WI.more hI3 hsp23
      have hhW231 := hW23.1
      have hhW232 := hW23.2.1
      refine lv_aload_n hx hb d_Walk_pushFiltered_14 rfl (lv_at hl 0 rfl) ?_
      refine lv_aload_n hx hb d_Walk_pushFiltered_15 rfl (lv_at hl 2 rfl) ?_
      refine lv_aload_n hx hb d_Walk_pushFiltered_16 rfl (lv_at hl 1 rfl) ?_
      rcases me21 with _ | b24
      · exact absurd (PO.mem0 ef21) (by omega)
      · refine vq_get (D := (dC, dI)) (ci := 9) (v := .ref b24) (C := R_Value) (T := F_Value) (N := 10) hx hb hts in_Value hown hK hP (hO.inV (isF.v hnd)) (pf_V ef21) rfl 3 (by decide) (hts _ z_328) (fun _ h9 => h9) rfl d_Walk_pushFiltered_17 ?_
        refine lv_iload_n hx hb d_Walk_pushFiltered_20 rfl (lv_at hl 3 rfl) ?_
        obtain ⟨g25, hi25, ef25, hg25⟩ := hO.mem1 ef21 hv21 (isF.n1 hnd)
        have hn25 := hO.szle ef21 hv21
        obtain ⟨me26, hm26, hf26, hnm26⟩ := hg25 i hi
        refine vq_aald hx hb hK hP 1 hi25 (pf_A ef25) rfl (j := i) hi hn25 hm26 d_Walk_pushFiltered_21 ?_
        have hPc := hP.part (cx := [(wk, .inr (10, [.ref wl, .int (nI t), .int (nI (s9 + 1)), .ref rt])), (wl, .inl (cV, 10000, .inr (.inr (.inr (.inr g)))))]) [0, 1] rfl
        have hDc := hD.part (cx := [(wk, .inr (10, [.ref wl, .int (nI t), .int (nI (s9 + 1)), .ref rt])), (wl, .inl (cV, 10000, .inr (.inr (.inr (.inr g)))))]) [0, 1] (by decide) rfl
        have hFc := va_freeP (cx := [(wk, .inr (10, [.ref wl, .int (nI t), .int (nI (s9 + 1)), .ref rt])), (wl, .inl (cV, 10000, .inr (.inr (.inr (.inr g)))))]) hD hS hA [0, 1] rfl
        have hKc := hK.sub (tys' := [(cI, .int), (cV, .object "QueryBench$Value")]) [0, 1] rfl
        refine w_same (fun hq0 => ?_)
        refine vx_calli (vx_runV (As := [.ref fl, .ref me26]) (rest := []) ⟨hx, hb, hml, hown, hts⟩ (HI H t (s9 + 1) g ν hW23 fl me26 hfl hlf hf26) (cwV 2 hts (gt_V (own := R_Walk) (C := R_Walk) (i := 152) (y := y_Walk_holds) i_Walk_holds z_895 z_897 (gt_sel (y := y_Walk_holds) (n := 4) (by decide +kernel)) w_5) rfl rfl rfl (by decide +kernel) ⟨by show 60 + 5 * (n - 1) + 1 ≤ 57 + 5 * n; omega, by show 8 + (3 + 11) + (2500 + 200 * (n - 1)) ≤ 2380 + 200 * n; omega⟩) ⟨ml_blind, va_recv hK hP (ci := 10) (q0 := 0) rfl rfl, fun U hU hW => ⟨rfl, ⟨hU, by rw [hU]; exact hPc, va_K.moved hW.alike hKc, hDc.weaken (fun _ _ _ _ => trivial)⟩, hN.warm hW, by rw [hU]; exact ZX.moved' hW.alike (ZX.narrow' (ZX.kept' hZ hS.2.1) hFc), by rw [hU]; exact CE.call hC hS.2.1 hFc hW, va_AO.moved hW.alike hV⟩⟩ rfl rfl hl.1 rfl (lv_room (Nat.le_of_ble_eq_true rfl)) d_Walk_pushFiltered_22 ⟨Nat.le_of_ble_eq_true rfl, Nat.le_of_ble_eq_true rfl⟩) hS (fun q _ h => hFc q h) hFc (fun q _ h => hFc q h) (fun En ce q9 ⟨tx, sx, gx, nx⟩ t9 H1 locs ht hvm hw hB hz1 hk1 hS hce hcv hcl => ?_) (fun r27 ⟨s27, g27, n27⟩ t9 H1 locs ht hvm hw hB hz1 hk1 hS => ?_)
        · obtain ⟨hEn, hP1, hK1, hD1⟩ := hB
          rw [ht] at hP1
          obtain ⟨hP, hD⟩ := va_joinP (wr := []) (rx := [(wk, .inr (10, [.ref wl, .int tx, .int sx, .ref rt])), (wl, .inl (cV, 10000, .inr (.inr (.inr (.inr gx)))))]) (pl1 := va_pl L (pf f nx)) hP hD [0, 1] [] rfl rfl (by decide) (by decide) hk1 hFc hP1 hD1
          generalize H1 = H at hP hS hce ⊢
          have hP : va_P (dC, dI) classes ([(wk, .inr (10, [.ref wl, .int tx, .int sx, .ref rt])), (wl, .inl (cV, 10000, .inr (.inr (.inr (.inr gx)))))] ++ va_pl L (pf f nx)) H := hP
          have hD : va_D A ([(wk, .inr (10, [.ref wl, .int tx, .int sx, .ref rt])), (wl, .inl (cV, 10000, .inr (.inr (.inr (.inr gx)))))] ++ va_pl L (pf f nx)) := hD
          exact vx_out (fun x hx => (hex x hx).elim) hlocks hce hcv hcl (fun t9 ht2 ha => ⟨(tx, sx, gx, nx), trivial, ⟨hEn, by rw [ht2]; exact hP, va_K.moved ha hK, hD⟩, hS.F ht2⟩) hS.2.2 (Nat.le_of_ble_eq_true rfl) (Nat.le_of_ble_eq_true rfl)
        · obtain ⟨⟨hP1, hK1, hD1⟩, hz9⟩ := hB
          rw [ht] at hP1
          rw [ht] at hz9
          refine w_tight (hq0.trans hz9) ?_
          have hq0 := hq0.trans hz9
          obtain ⟨hP, hD⟩ := va_joinP (wr := []) (rx := [(wk, .inr (10, [.ref wl, .int (nI t), .int (nI s27), .ref rt])), (wl, .inl (cV, 10000, .inr (.inr (.inr (.inr g27)))))]) (pl1 := va_pl L (pf f n27)) hP hD [0, 1] [] rfl rfl (by decide) (by decide) hk1 hFc hP1 hD1
          generalize H1 = H at hP hS hq0 ⊢
          have hP : va_P (dC, dI) classes ([(wk, .inr (10, [.ref wl, .int (nI t), .int (nI s27), .ref rt])), (wl, .inl (cV, 10000, .inr (.inr (.inr (.inr g27)))))] ++ va_pl L (pf f n27)) H := hP
          have hD : va_D A ([(wk, .inr (10, [.ref wl, .int (nI t), .int (nI s27), .ref rt])), (wl, .inl (cV, 10000, .inr (.inr (.inr (.inr g27)))))] ++ va_pl L (pf f n27)) := hD
          obtain ⟨h_r27, hb27, hW27⟩ := hw
          have hb27 : (s9 + 1) ≤ s27 := hb27
          have hW27 : WI E t s27 g27 := hW27
          have hhW271 := hW27.1
          have hhW272 := hW27.2.1
          refine lv_if_eq (tgt := 38) hx hb d_Walk_pushFiltered_25 (by decide) (fun c25 => ?_) (fun c25 => ?_)
          · refine lv_iinc (v := nI (i + 1)) (lv' := [(3, .int (nI (i + 1))), (0, .ref wk), (1, .ref nd), (2, .ref fl)]) hx hb d_Walk_pushFiltered_38 hl (k := 3) rfl (nI_1 _) (by decide) rfl (fun ls hl => ?_)
            refine lv_goto (tgt := 2) hx hb d_Walk_pushFiltered_41 (by decide) ?_
            exact ih (i + 1, t, s27, g27, n27) _ _ _ ⟨show i + 1 ≤ 4096 by omega, by show tp ≤ t; omega, by show sp ≤ s27; omega, hW27⟩ (by show 4096 - (i + 1) < 4096 - i; omega) hP hD hS (lv_sub hl [1, 2, 3, 0] rfl)
          · refine lv_aload_n hx hb d_Walk_pushFiltered_28 rfl (lv_at hl 0 rfl) ?_
            refine lv_aload_n hx hb d_Walk_pushFiltered_29 rfl (lv_at hl 1 rfl) ?_
            refine vq_get (D := (dC, dI)) (ci := 9) (v := .ref b24) (C := R_Value) (T := F_Value) (N := 10) hx hb hts in_Value hown hK hP (hO.inV (isF.v hnd)) (pf_V ef21) rfl 3 (by decide) (hts _ z_328) (fun _ h9 => h9) rfl d_Walk_pushFiltered_30 ?_
            refine lv_iload_n hx hb d_Walk_pushFiltered_33 rfl (lv_at hl 3 rfl) ?_
            obtain ⟨me28, hm28, hf28, hnm28⟩ := hg25 i hi
            refine vq_aald hx hb hK hP 1 hi25 (pf_A ef25) rfl (j := i) hi hn25 hm28 d_Walk_pushFiltered_34 ?_
            have hPc := hP.part (cx := [(wk, .inr (10, [.ref wl, .int (nI t), .int (nI s27), .ref rt])), (wl, .inl (cV, 10000, .inr (.inr (.inr (.inr g27)))))]) [0, 1] rfl
            have hDc := hD.part (cx := [(wk, .inr (10, [.ref wl, .int (nI t), .int (nI s27), .ref rt])), (wl, .inl (cV, 10000, .inr (.inr (.inr (.inr g27)))))]) [0, 1] (by decide) rfl
            have hFc := va_freeP (cx := [(wk, .inr (10, [.ref wl, .int (nI t), .int (nI s27), .ref rt])), (wl, .inl (cV, 10000, .inr (.inr (.inr (.inr g27)))))]) hD hS hA [0, 1] rfl
            have hKc := hK.sub (tys' := [(cI, .int), (cV, .object "QueryBench$Value")]) [0, 1] rfl
            refine w_same (fun hq0 => ?_)
            refine vx_callv (vx_runV (As := [.ref me28]) (rest := []) ⟨hx, hb, hml, hown, hts⟩ (c_Walk_push l hl9 K dC dI H cI cV E lv L f hO hN1 wk wl rt hrt t s27 g27 n27 hW27 me28 hf28) (cwV 1 hts (gt_V (own := R_Walk) (C := R_Walk) (i := 38) (y := y_Walk_push) i_Walk_push z_839 z_841 (gt_sel (y := y_Walk_push) (n := 4) (by decide +kernel)) w_5) rfl rfl rfl (by decide +kernel) ⟨by show 9 + 1 ≤ 57 + 5 * n; omega, by show 8 + (2 + 11) + (150) ≤ 2380 + 200 * n; omega⟩) ⟨ml_blind, va_recv hK hP (ci := 10) (q0 := 0) rfl rfl, fun U hU hW => ⟨rfl, ⟨hU, by rw [hU]; exact hPc, va_K.moved hW.alike hKc, hDc.weaken (fun _ _ _ _ => trivial)⟩, hN.warm hW, by rw [hU]; exact ZX.moved' hW.alike (ZX.narrow' (ZX.kept' hZ hS.2.1) hFc), by rw [hU]; exact CE.call hC hS.2.1 hFc hW, va_AO.moved hW.alike hV⟩⟩ rfl rfl hl.1 rfl (lv_room (Nat.le_of_ble_eq_true rfl)) d_Walk_pushFiltered_35 ⟨Nat.le_of_ble_eq_true rfl, Nat.le_of_ble_eq_true rfl⟩) hS (fun q _ h => hFc q h) hFc (fun q _ h => hFc q h) (fun En ce q9 ⟨tx, sx, gx, nx⟩ t9 H1 locs ht hvm hw hB hz1 hk1 hS hce hcv hcl => ?_) (fun ⟨t29, s29, g29, n29⟩ t9 H1 locs ht hvm hw hB hz1 hk1 hS => ?_)
            · obtain ⟨hEn, hP1, hK1, hD1⟩ := hB
              rw [ht] at hP1
              obtain ⟨hP, hD⟩ := va_joinP (wr := []) (rx := [(wk, .inr (10, [.ref wl, .int tx, .int sx, .ref rt])), (wl, .inl (cV, 10000, .inr (.inr (.inr (.inr gx)))))]) (pl1 := va_pl L (pf f nx)) hP hD [0, 1] [] rfl rfl (by decide) (by decide) hk1 hFc hP1 hD1
              generalize H1 = H at hP hS hce ⊢
              have hP : va_P (dC, dI) classes ([(wk, .inr (10, [.ref wl, .int tx, .int sx, .ref rt])), (wl, .inl (cV, 10000, .inr (.inr (.inr (.inr gx)))))] ++ va_pl L (pf f nx)) H := hP
              have hD : va_D A ([(wk, .inr (10, [.ref wl, .int tx, .int sx, .ref rt])), (wl, .inl (cV, 10000, .inr (.inr (.inr (.inr gx)))))] ++ va_pl L (pf f nx)) := hD
              exact vx_out (fun x hx => (hex x hx).elim) hlocks hce hcv hcl (fun t9 ht2 ha => ⟨(tx, sx, gx, nx), trivial, ⟨hEn, by rw [ht2]; exact hP, va_K.moved ha hK, hD⟩, hS.F ht2⟩) hS.2.2 (Nat.le_of_ble_eq_true rfl) (Nat.le_of_ble_eq_true rfl)
            · obtain ⟨⟨hP1, hK1, hD1⟩, hz9⟩ := hB
              rw [ht] at hP1
              rw [ht] at hz9
              refine w_tight (hq0.trans hz9) ?_
              have hq0 := hq0.trans hz9
              obtain ⟨hP, hD⟩ := va_joinP (wr := []) (rx := [(wk, .inr (10, [.ref wl, .int (nI t29), .int (nI s29), .ref rt])), (wl, .inl (cV, 10000, .inr (.inr (.inr (.inr g29)))))]) (pl1 := va_pl L (pf f n29)) hP hD [0, 1] [] rfl rfl (by decide) (by decide) hk1 hFc hP1 hD1
              generalize H1 = H at hP hS hq0 ⊢
              have hP : va_P (dC, dI) classes ([(wk, .inr (10, [.ref wl, .int (nI t29), .int (nI s29), .ref rt])), (wl, .inl (cV, 10000, .inr (.inr (.inr (.inr g29)))))] ++ va_pl L (pf f n29)) H := hP
              have hD : va_D A ([(wk, .inr (10, [.ref wl, .int (nI t29), .int (nI s29), .ref rt])), (wl, .inl (cV, 10000, .inr (.inr (.inr (.inr g29)))))] ++ va_pl L (pf f n29)) := hD
              obtain ⟨ha29, hb29, hW29⟩ := hw
              have ha29 : t29 = t + 1 := ha29
              have hb29 : s29 = s27 + 1 := hb29
              have hW29 : WI E t29 s29 g29 := hW29
              have hhW291 := hW29.1
              have hhW292 := hW29.2.1
              refine lv_iinc (v := nI (i + 1)) (lv' := [(3, .int (nI (i + 1))), (0, .ref wk), (1, .ref nd), (2, .ref fl)]) hx hb d_Walk_pushFiltered_38 hl (k := 3) rfl (nI_1 _) (by decide) rfl (fun ls hl => ?_)
              refine lv_goto (tgt := 2) hx hb d_Walk_pushFiltered_41 (by decide) ?_
              exact ih (i + 1, t29, s29, g29, n29) _ _ _ ⟨show i + 1 ≤ 4096 by omega, by show tp ≤ t29; omega, by show sp ≤ s29; omega, hW29⟩ (by show 4096 - (i + 1) < 4096 - i; omega) hP hD hS (lv_sub hl [1, 2, 3, 0] rfl)
abbrev b_Walk_choose : ByteArray := prog_12_method_7_code
def y_Walk_choose : MethodName := ⟨"QueryBench$Walk", "choose", "(LQueryBench$Segment;LQueryBench$Value;)V"⟩
abbrev k_Walk_choose : Cond := .code y_Walk_choose b_Walk_choose 4 none
theorem i_Walk_choose : k_Walk_choose ∈ gtbl := gt_in 856 (by decide +kernel) (by decide +kernel)
theorem d_Walk_choose_0 : decode b_Walk_choose 0 = .ok (.aload_n 1, 1) := by decide +kernel
theorem d_Walk_choose_1 : decode b_Walk_choose 1 = .ok (.getfield 73, 3) := by decide +kernel
theorem d_Walk_choose_4 : decode b_Walk_choose 4 = .ok (.astore_n 3, 1) := by decide +kernel
theorem d_Walk_choose_5 : decode b_Walk_choose 5 = .ok (.aload_n 3, 1) := by decide +kernel
theorem d_Walk_choose_6 : decode b_Walk_choose 6 = .ok (.ifnull 96, 3) := by decide +kernel
theorem d_Walk_choose_9 : decode b_Walk_choose 9 = .ok (.aload_n 3, 1) := by decide +kernel
theorem d_Walk_choose_10 : decode b_Walk_choose 10 = .ok (.getfield 76, 3) := by decide +kernel
theorem d_Walk_choose_13 : decode b_Walk_choose 13 = .ok (.tableswitch 72 0 3 #[31, 43, 51, 63], 31) := by decide +kernel
theorem d_Walk_choose_44 : decode b_Walk_choose 44 = .ok (.aload_n 0, 1) := by decide +kernel
theorem d_Walk_choose_45 : decode b_Walk_choose 45 = .ok (.aload_n 2, 1) := by decide +kernel
theorem d_Walk_choose_46 : decode b_Walk_choose 46 = .ok (.aload_n 3, 1) := by decide +kernel
theorem d_Walk_choose_47 : decode b_Walk_choose 47 = .ok (.getfield 81, 3) := by decide +kernel
theorem d_Walk_choose_50 : decode b_Walk_choose 50 = .ok (.invokevirtual 85, 3) := by decide +kernel
theorem d_Walk_choose_53 : decode b_Walk_choose 53 = .ok (.goto 41, 3) := by decide +kernel
theorem d_Walk_choose_56 : decode b_Walk_choose 56 = .ok (.aload_n 0, 1) := by decide +kernel
theorem d_Walk_choose_57 : decode b_Walk_choose 57 = .ok (.aload_n 2, 1) := by decide +kernel
theorem d_Walk_choose_58 : decode b_Walk_choose 58 = .ok (.invokevirtual 89, 3) := by decide +kernel
theorem d_Walk_choose_61 : decode b_Walk_choose 61 = .ok (.goto 33, 3) := by decide +kernel
theorem d_Walk_choose_64 : decode b_Walk_choose 64 = .ok (.aload_n 0, 1) := by decide +kernel
theorem d_Walk_choose_65 : decode b_Walk_choose 65 = .ok (.aload_n 2, 1) := by decide +kernel
theorem d_Walk_choose_66 : decode b_Walk_choose 66 = .ok (.aload_n 3, 1) := by decide +kernel
theorem d_Walk_choose_67 : decode b_Walk_choose 67 = .ok (.getfield 92, 3) := by decide +kernel
theorem d_Walk_choose_70 : decode b_Walk_choose 70 = .ok (.invokevirtual 96, 3) := by decide +kernel
theorem d_Walk_choose_73 : decode b_Walk_choose 73 = .ok (.goto 21, 3) := by decide +kernel
theorem d_Walk_choose_76 : decode b_Walk_choose 76 = .ok (.aload_n 0, 1) := by decide +kernel
theorem d_Walk_choose_77 : decode b_Walk_choose 77 = .ok (.aload_n 2, 1) := by decide +kernel
theorem d_Walk_choose_78 : decode b_Walk_choose 78 = .ok (.aload_n 3, 1) := by decide +kernel
theorem d_Walk_choose_79 : decode b_Walk_choose 79 = .ok (.invokevirtual 100, 3) := by decide +kernel
theorem d_Walk_choose_82 : decode b_Walk_choose 82 = .ok (.goto 12, 3) := by decide +kernel
theorem d_Walk_choose_85 : decode b_Walk_choose 85 = .ok (.aload_n 0, 1) := by decide +kernel
theorem d_Walk_choose_86 : decode b_Walk_choose 86 = .ok (.aload_n 2, 1) := by decide +kernel
theorem d_Walk_choose_87 : decode b_Walk_choose 87 = .ok (.aload_n 3, 1) := by decide +kernel
theorem d_Walk_choose_88 : decode b_Walk_choose 88 = .ok (.getfield 104, 3) := by decide +kernel
theorem d_Walk_choose_91 : decode b_Walk_choose 91 = .ok (.invokevirtual 108, 3) := by decide +kernel
theorem d_Walk_choose_94 : decode b_Walk_choose 94 = .ok (.aload_n 3, 1) := by decide +kernel
theorem d_Walk_choose_95 : decode b_Walk_choose 95 = .ok (.getfield 112, 3) := by decide +kernel
theorem d_Walk_choose_98 : decode b_Walk_choose 98 = .ok (.astore_n 3, 1) := by decide +kernel
theorem d_Walk_choose_99 : decode b_Walk_choose 99 = .ok (.goto (-94), 3) := by decide +kernel
theorem d_Walk_choose_102 : decode b_Walk_choose 102 = .ok (.return_, 1) := by decide +kernel
set_option maxHeartbeats 4000000 in
set_option maxRecDepth 100000 in
/-- Walk.choose -/
theorem c_Walk_choose (l : Launch) (hl9 : l.stackTraces = false) (K : Nat → Nat × Nat) (dC : Nat → ClassId) (dI : Nat → Nat → Nat) (sz : Heap) (cI cV : ClassId) (E lv : Nat → Nat) (L : List Nat) (f : Nat → va_E) (hO : PO cI cV E lv L f) (hN1 : ∀ a, E a ≠ 1) (wk wl rt : Nat) (hrt : isF E rt) (tp sp : Nat) (g : Nat → Option Nat) (ν : Nat → Int64) (hW9 : WI E tp sp g) (n : Nat) (HI : 0 < n → HDC l K dC dI cI cV E lv L f wk wl rt (n - 1)) (sg : Nat) (hsg : E sg = 8) (hls : lv sg ≤ n) (nd : Nat) (hnd : isF E nd) : vx_Met l y_Walk_choose (k_Walk_choose :: gtbl) ({ frames := 58 + 5 * n, cells := 1, slots := 6, locals := 2420 + 200 * n }) (va_Pc [.ref wk, .ref sg, .ref nd] (ml K dC dI ([(wk, .inr (10, [.ref wl, .int (nI tp), .int (nI sp), .ref rt])), (wl, .inl (cV, 10000, .inr (.inr (.inr (.inr g)))))] ++ va_pl L (pf f ν)) [(cI, .int), (cV, .object "QueryBench$Value")] sz)) (va_Qv (fun (u : Nat × Nat × (Nat → Option Nat) × (Nat → Int64)) => tp ≤ u.1 ∧ sp ≤ u.2.1 ∧ WI E u.1 u.2.1 u.2.2.1) (fun u t9 => mz dC dI ([(wk, .inr (10, [.ref wl, .int (nI u.1), .int (nI u.2.1), .ref rt])), (wl, .inl (cV, 10000, .inr (.inr (.inr (.inr u.2.2.1)))))] ++ va_pl L (pf f u.2.2.2)) [(cI, .int), (cV, .object "QueryBench$Value")] (va_A ([(wk, .inr (10, [.ref wl, .int (nI tp), .int (nI sp), .ref rt])), (wl, .inl (cV, 10000, .inr (.inr (.inr (.inr g)))))] ++ va_pl L (pf f ν)) sz.size) t9 ∧ szk sz t9.heap (0) (0)) (va_A ([(wk, .inr (10, [.ref wl, .int (nI tp), .int (nI sp), .ref rt])), (wl, .inl (cV, 10000, .inr (.inr (.inr (.inr g)))))] ++ va_pl L (pf f ν)) sz.size)) (vx_X (fun (u : Int32 × Int32 × (Nat → Option Nat) × (Nat → Int64)) => True) (fun En u t9 => En = IOB ∧ mz dC dI ([(wk, .inr (10, [.ref wl, .int u.1, .int u.2.1, .ref rt])), (wl, .inl (cV, 10000, .inr (.inr (.inr (.inr u.2.2.1)))))] ++ va_pl L (pf f u.2.2.2)) [(cI, .int), (cV, .object "QueryBench$Value")] (va_A ([(wk, .inr (10, [.ref wl, .int (nI tp), .int (nI sp), .ref rt])), (wl, .inl (cV, 10000, .inr (.inr (.inr (.inr g)))))] ++ va_pl L (pf f ν)) sz.size) t9) (va_A ([(wk, .inr (10, [.ref wl, .int (nI tp), .int (nI sp), .ref rt])), (wl, .inl (cV, 10000, .inr (.inr (.inr (.inr g)))))] ++ va_pl L (pf f ν)) sz.size)) (1) (6) (va_A ([(wk, .inr (10, [.ref wl, .int (nI tp), .int (nI sp), .ref rt])), (wl, .inl (cV, 10000, .inr (.inr (.inr (.inr g)))))] ++ va_pl L (pf f ν)) sz.size) := by
  refine vx_ofW (cc := b_Walk_choose) (maxL := 4) (ret := none) (by decide) rfl ?_
  intro p e s m args below meth c s₁ B hml hex hv
  obtain ⟨rfl, ⟨hsz, hP, hK, hD0⟩, hN, hZ, hC, hV⟩ := hv
  have hx := B.exec
  have hb := B.bytes
  have hr := B.returns
  have hts0 := atoms_spec (ws := k_Walk_choose :: gtbl) B.pre
  have hts := fun w h => hts0 w (List.mem_cons_of_mem _ h)
  have hown : s.vm.findClass R_Walk = some m.cls := findClass_of_methodNamed B.named
  have hlocks := B.notSynchronized
  subst hsz
  have hD := hD0.self (sz := s.heap.size)
  generalize hAe : va_A ([(wk, .inr (10, [.ref wl, .int (nI tp), .int (nI sp), .ref rt])), (wl, .inl (cV, 10000, .inr (.inr (.inr (.inr g)))))] ++ va_pl L (pf f ν)) s.heap.size = A at hD hZ hC ⊢
  have hA : ∀ q : Nat, s.heap.size ≤ q → A q := fun q h => by rw [← hAe]; exact Or.inr h
  have hS : va_S A s.heap s.heap [] := va_S.rf
  have hP : va_P (dC, dI) classes ([(wk, .inr (10, [.ref wl, .int (nI tp), .int (nI sp), .ref rt])), (wl, .inl (cV, 10000, .inr (.inr (.inr (.inr g)))))] ++ va_pl L (pf f ν)) s.heap := hP
  have hl := lv_entry ([.ref wk, .ref sg, .ref nd]) (n := 4) (Nat.le_of_ble_eq_true rfl)
  rw [lg_entry_eq]
  generalize (lg_sl ([.ref wk, .ref sg, .ref nd]) ++ List.replicate (4 - (lg_sl ([.ref wk, .ref sg, .ref nd])).length) Slot.unset).toArray = ls at hl ⊢
  have hl : lv_has ls 4 [(0, .ref wk), (1, .ref sg), (2, .ref nd)] := hl
  have hW0 := hW9
  have hW1 := hW9.1
  have hW2 := hW9.2.1
  refine lv_aload_n hx hb d_Walk_choose_0 rfl (lv_at hl 1 rfl) ?_
  obtain ⟨ds21, fi21, nx21, ef21, hv21⟩ := hO.seg hsg
  rcases fi21 with _ | b22
  · obtain ⟨_, e9, _⟩ := hv21.1
    cases e9
  · obtain ⟨_, e9, hEb22, hLb22⟩ := hv21.1
    cases e9
    refine vq_get (D := (dC, dI)) (ci := 6) (v := .ref b22) (C := R_Segment) (T := F_Segment) (N := 3) hx hb hts in_Segment hown hK hP (hO.inL (a := sg) (by rw [hsg]; decide)) (pf_G ef21) rfl 1 (by decide) (hts _ z_579) (fun _ h9 => h9) rfl d_Walk_choose_1 ?_
    refine lv_astore_n (lv' := [(3, .ref b22), (0, .ref wk), (1, .ref sg), (2, .ref nd)]) hx hb d_Walk_choose_4 rfl hl (by decide) rfl (fun ls hl => ?_)
    refine w_loop (D := (dC, dI)) (cl := classes) (A := A) (H0 := s.heap) (nL := 4) 5 (σ := Option Nat × Nat × Nat × (Nat → Option Nat) × (Nat → Int64)) (fun ⟨o, t, s9, g, ν⟩ => oR (fun b => E b = 9 ∧ lv b ≤ n) o ∧ tp ≤ t ∧ sp ≤ s9 ∧ WI E t s9 g) (fun ⟨o, t, s9, g, ν⟩ => chL L o) (fun ⟨o, t, s9, g, ν⟩ => [(wk, .inr (10, [.ref wl, .int (nI t), .int (nI s9), .ref rt])), (wl, .inl (cV, 10000, .inr (.inr (.inr (.inr g)))))] ++ va_pl L (pf f ν)) (fun ⟨o, t, s9, g, ν⟩ => [(0, .ref wk), (1, .ref sg), (2, .ref nd), (3, va_rf o)]) ?_ ((some b22), tp, sp, g, ν) ⟨(fun b h => by cases h; exact ⟨hEb22, Nat.le_trans hLb22 hls⟩), by show tp ≤ tp; omega, by show sp ≤ sp; omega, hW9⟩ hP hD hS (lv_sub hl [1, 2, 3, 0] rfl)
    rintro ⟨o, t, s9, g, ν⟩ H locs ls hI ih hP hD hS hl
    have hP : va_P (dC, dI) classes ([(wk, .inr (10, [.ref wl, .int (nI t), .int (nI s9), .ref rt])), (wl, .inl (cV, 10000, .inr (.inr (.inr (.inr g)))))] ++ va_pl L (pf f ν)) H := hP
    have hD : va_D A ([(wk, .inr (10, [.ref wl, .int (nI t), .int (nI s9), .ref rt])), (wl, .inl (cV, 10000, .inr (.inr (.inr (.inr g)))))] ++ va_pl L (pf f ν)) := hD
    have hl : lv_has ls 4 [(0, .ref wk), (1, .ref sg), (2, .ref nd), (3, va_rf o)] := hl
    obtain ⟨hI, hI1, hI2, hI3⟩ := hI
    have hI : oR (fun b => E b = 9 ∧ lv b ≤ n) o := hI
    have hI1 : tp ≤ t := hI1
    have hI2 : sp ≤ s9 := hI2
    have hI3 : WI E t s9 g := hI3
    have hhI31 := hI3.1
    have hhI32 := hI3.2.1
    rcases o with _ | ob
    · have hl : lv_has ls 4 [(0, .ref wk), (1, .ref sg), (2, .ref nd), (3, .null)] := hl
      refine lv_aload_nN hx hb d_Walk_choose_5 rfl (lv_at hl 3 rfl) ?_
      refine lv_ifnullN (tgt := 102) hx hb d_Walk_choose_6 (by decide) ?_
      refine w_same (fun hq => ?_)
      refine W.widen (k := 1) (n := 6) (Nat.le_of_ble_eq_true rfl) (Nat.le_of_ble_eq_true rfl) ?_
      refine vx_ret ?_
      exact W.vret hx hb hr (fun t9 ht hW => ⟨⟨(t, s9, g, ν), rfl, ⟨by show tp ≤ t; omega, by show sp ≤ s9; omega, hI3⟩, ⟨by rw [ht]; exact hP, va_K.moved hW.alike hK, hD⟩, by rw [ht]; exact hq⟩, hS.F ht⟩) hS.2.2 d_Walk_choose_102
    · have hl : lv_has ls 4 [(0, .ref wk), (1, .ref sg), (2, .ref nd), (3, .ref ob)] := hl
      obtain ⟨hob1, hob2⟩ := hI ob rfl
      refine lv_aload_n hx hb d_Walk_choose_5 rfl (lv_at hl 3 rfl) ?_
      refine lv_ifnull hx hb d_Walk_choose_6 ?_
      refine lv_aload_n hx hb d_Walk_choose_9 rfl (lv_at hl 3 rfl) ?_
      obtain ⟨kd23, nm23, hs23, ht23, st23, sp23, se23, fl23, nx23, ef23, hv23⟩ := hO.sel hob1
      refine vq_get (D := (dC, dI)) (ci := 7) (v := .int kd23) (C := R_Selector) (T := F_Selector) (N := 9) hx hb hts in_Selector hown hK hP (hO.inL (a := ob) (by rw [hob1]; decide)) (pf_L ef23) rfl 0 (by decide) (hts _ z_611) (fun _ h9 => h9) rfl d_Walk_choose_10 ?_
      by_cases hs13_0 : kd23 = 0
      · refine lv_tableIn (tgt := 44) (off := 31) hx hb d_Walk_choose_13 (by rw [hs13_0]; decide) (by rw [hs13_0]; decide) (by rw [hs13_0]; rfl) (by decide) ?_
        refine lv_aload_n hx hb d_Walk_choose_44 rfl (lv_at hl 0 rfl) ?_
        refine lv_aload_n hx hb d_Walk_choose_45 rfl (lv_at hl 2 rfl) ?_
        refine lv_aload_n hx hb d_Walk_choose_46 rfl (lv_at hl 3 rfl) ?_
        rcases nm23 with _ | b24
        · exact absurd rfl (hv23.2.2.2.1 hs13_0)
        · refine vq_get (D := (dC, dI)) (ci := 7) (v := .ref b24) (C := R_Selector) (T := F_Selector) (N := 9) hx hb hts in_Selector hown hK hP (hO.inL (a := ob) (by rw [hob1]; decide)) (pf_L ef23) rfl 1 (by decide) (hts _ z_614) (fun _ h9 => h9) rfl d_Walk_choose_47 ?_
          have hPc := hP.part (cx := [(wk, .inr (10, [.ref wl, .int (nI t), .int (nI s9), .ref rt])), (wl, .inl (cV, 10000, .inr (.inr (.inr (.inr g)))))]) [0, 1] rfl
          have hDc := hD.part (cx := [(wk, .inr (10, [.ref wl, .int (nI t), .int (nI s9), .ref rt])), (wl, .inl (cV, 10000, .inr (.inr (.inr (.inr g)))))]) [0, 1] (by decide) rfl
          have hFc := va_freeP (cx := [(wk, .inr (10, [.ref wl, .int (nI t), .int (nI s9), .ref rt])), (wl, .inl (cV, 10000, .inr (.inr (.inr (.inr g)))))]) hD hS hA [0, 1] rfl
          have hKc := hK.sub (tys' := [(cI, .int), (cV, .object "QueryBench$Value")]) [0, 1] rfl
          refine w_same (fun hq0 => ?_)
          refine vx_callv (vx_runV (As := [.ref nd, .ref b24]) (rest := []) ⟨hx, hb, hml, hown, hts⟩ (c_Walk_pushNamed l hl9 K dC dI H cI cV E lv L f hO hN1 wk wl rt hrt t s9 g ν hI3 nd hnd b24 (hv23.1 b24 rfl)) (cwV 2 hts (gt_V (own := R_Walk) (C := R_Walk) (i := 85) (y := y_Walk_pushNamed) i_Walk_pushNamed z_857 z_859 (gt_sel (y := y_Walk_pushNamed) (n := 4) (by decide +kernel)) w_5) rfl rfl rfl (by decide +kernel) ⟨by show 10 + 1 ≤ 58 + 5 * n; omega, by show 8 + (4 + 11) + (200) ≤ 2420 + 200 * n; omega⟩) ⟨ml_blind, va_recv hK hP (ci := 10) (q0 := 0) rfl rfl, fun U hU hW => ⟨rfl, ⟨hU, by rw [hU]; exact hPc, va_K.moved hW.alike hKc, hDc.weaken (fun _ _ _ _ => trivial)⟩, hN.warm hW, by rw [hU]; exact ZX.moved' hW.alike (ZX.narrow' (ZX.kept' hZ hS.2.1) hFc), by rw [hU]; exact CE.call hC hS.2.1 hFc hW, va_AO.moved hW.alike hV⟩⟩ rfl rfl hl.1 rfl (lv_room (Nat.le_of_ble_eq_true rfl)) d_Walk_choose_50 ⟨Nat.le_of_ble_eq_true rfl, Nat.le_of_ble_eq_true rfl⟩) hS (fun q _ h => hFc q h) hFc (fun q _ h => hFc q h) (fun En ce q9 ⟨tx, sx, gx, nx⟩ t9 H1 locs ht hvm hw hB hz1 hk1 hS hce hcv hcl => ?_) (fun ⟨t25, s25, g25, n25⟩ t9 H1 locs ht hvm hw hB hz1 hk1 hS => ?_)
          · obtain ⟨hEn, hP1, hK1, hD1⟩ := hB
            rw [ht] at hP1
            obtain ⟨hP, hD⟩ := va_joinP (wr := []) (rx := [(wk, .inr (10, [.ref wl, .int tx, .int sx, .ref rt])), (wl, .inl (cV, 10000, .inr (.inr (.inr (.inr gx)))))]) (pl1 := va_pl L (pf f nx)) hP hD [0, 1] [] rfl rfl (by decide) (by decide) hk1 hFc hP1 hD1
            generalize H1 = H at hP hS hce ⊢
            have hP : va_P (dC, dI) classes ([(wk, .inr (10, [.ref wl, .int tx, .int sx, .ref rt])), (wl, .inl (cV, 10000, .inr (.inr (.inr (.inr gx)))))] ++ va_pl L (pf f nx)) H := hP
            have hD : va_D A ([(wk, .inr (10, [.ref wl, .int tx, .int sx, .ref rt])), (wl, .inl (cV, 10000, .inr (.inr (.inr (.inr gx)))))] ++ va_pl L (pf f nx)) := hD
            exact vx_out (fun x hx => (hex x hx).elim) hlocks hce hcv hcl (fun t9 ht2 ha => ⟨(tx, sx, gx, nx), trivial, ⟨hEn, by rw [ht2]; exact hP, va_K.moved ha hK, hD⟩, hS.F ht2⟩) hS.2.2 (Nat.le_of_ble_eq_true rfl) (Nat.le_of_ble_eq_true rfl)
          · obtain ⟨⟨hP1, hK1, hD1⟩, hz9⟩ := hB
            rw [ht] at hP1
            rw [ht] at hz9
            refine w_tight (hq0.trans hz9) ?_
            have hq0 := hq0.trans hz9
            obtain ⟨hP, hD⟩ := va_joinP (wr := []) (rx := [(wk, .inr (10, [.ref wl, .int (nI t25), .int (nI s25), .ref rt])), (wl, .inl (cV, 10000, .inr (.inr (.inr (.inr g25)))))]) (pl1 := va_pl L (pf f n25)) hP hD [0, 1] [] rfl rfl (by decide) (by decide) hk1 hFc hP1 hD1
            generalize H1 = H at hP hS hq0 ⊢
            have hP : va_P (dC, dI) classes ([(wk, .inr (10, [.ref wl, .int (nI t25), .int (nI s25), .ref rt])), (wl, .inl (cV, 10000, .inr (.inr (.inr (.inr g25)))))] ++ va_pl L (pf f n25)) H := hP
            have hD : va_D A ([(wk, .inr (10, [.ref wl, .int (nI t25), .int (nI s25), .ref rt])), (wl, .inl (cV, 10000, .inr (.inr (.inr (.inr g25)))))] ++ va_pl L (pf f n25)) := hD
            obtain ⟨ha25, hb25, hW25⟩ := hw
            have ha25 : t ≤ t25 := ha25
            have hb25 : s9 ≤ s25 := hb25
            have hW25 : WI E t25 s25 g25 := hW25
            have hhW251 := hW25.1
            have hhW252 := hW25.2.1
            refine lv_goto (tgt := 94) hx hb d_Walk_choose_53 (by decide) ?_
            refine lv_aload_n hx hb d_Walk_choose_94 rfl (lv_at hl 3 rfl) ?_
            rcases nx23 with _ | b26
            · refine vq_get (D := (dC, dI)) (ci := 7) (v := .null) (C := R_Selector) (T := F_Selector) (N := 9) hx hb hts in_Selector hown hK hP (hO.inL (a := ob) (by rw [hob1]; decide)) (pf_L ef23) rfl 8 (by decide) (hts _ z_630) (fun _ h9 => h9) rfl d_Walk_choose_95 ?_
              refine lv_astore_nN (lv' := [(3, .null), (0, .ref wk), (1, .ref sg), (2, .ref nd)]) hx hb d_Walk_choose_98 rfl hl (by decide) rfl (fun ls hl => ?_)
              refine lv_goto (tgt := 5) hx hb d_Walk_choose_99 (by decide) ?_
              exact ih (none, t25, s25, g25, n25) _ _ _ ⟨(fun b h => nomatch h), by show tp ≤ t25; omega, by show sp ≤ s25; omega, hW25⟩ (chL_lt (hO.inL (a := ob) (by rw [hob1]; decide)) (fun b h => nomatch h)) hP hD hS (lv_sub hl [1, 2, 3, 0] rfl)
            · refine vq_get (D := (dC, dI)) (ci := 7) (v := .ref b26) (C := R_Selector) (T := F_Selector) (N := 9) hx hb hts in_Selector hown hK hP (hO.inL (a := ob) (by rw [hob1]; decide)) (pf_L ef23) rfl 8 (by decide) (hts _ z_630) (fun _ h9 => h9) rfl d_Walk_choose_95 ?_
              refine lv_astore_n (lv' := [(3, .ref b26), (0, .ref wk), (1, .ref sg), (2, .ref nd)]) hx hb d_Walk_choose_98 rfl hl (by decide) rfl (fun ls hl => ?_)
              refine lv_goto (tgt := 5) hx hb d_Walk_choose_99 (by decide) ?_
              exact ih ((some b26), t25, s25, g25, n25) _ _ _ ⟨(fun b h => by cases h; exact ⟨(hv23.2.2.1 b26 rfl).1, Nat.le_trans (hv23.2.2.1 b26 rfl).2.1 hob2⟩), by show tp ≤ t25; omega, by show sp ≤ s25; omega, hW25⟩ (chL_lt (hO.inL (a := ob) (by rw [hob1]; decide)) (fun b h => by cases h; exact (hv23.2.2.1 b26 rfl).2.2)) hP hD hS (lv_sub hl [1, 2, 3, 0] rfl)
      · by_cases hs13_1 : kd23 = 1
        · refine lv_tableIn (tgt := 56) (off := 43) hx hb d_Walk_choose_13 (by rw [hs13_1]; decide) (by rw [hs13_1]; decide) (by rw [hs13_1]; rfl) (by decide) ?_
          refine lv_aload_n hx hb d_Walk_choose_56 rfl (lv_at hl 0 rfl) ?_
          refine lv_aload_n hx hb d_Walk_choose_57 rfl (lv_at hl 2 rfl) ?_
          have hPc := hP.part (cx := [(wk, .inr (10, [.ref wl, .int (nI t), .int (nI s9), .ref rt])), (wl, .inl (cV, 10000, .inr (.inr (.inr (.inr g)))))]) [0, 1] rfl
          have hDc := hD.part (cx := [(wk, .inr (10, [.ref wl, .int (nI t), .int (nI s9), .ref rt])), (wl, .inl (cV, 10000, .inr (.inr (.inr (.inr g)))))]) [0, 1] (by decide) rfl
          have hFc := va_freeP (cx := [(wk, .inr (10, [.ref wl, .int (nI t), .int (nI s9), .ref rt])), (wl, .inl (cV, 10000, .inr (.inr (.inr (.inr g)))))]) hD hS hA [0, 1] rfl
          have hKc := hK.sub (tys' := [(cI, .int), (cV, .object "QueryBench$Value")]) [0, 1] rfl
          refine w_same (fun hq0 => ?_)
          refine vx_callv (vx_runV (As := [.ref nd]) (rest := []) ⟨hx, hb, hml, hown, hts⟩ (c_Walk_pushAll l hl9 K dC dI H cI cV E lv L f hO hN1 wk wl rt hrt t s9 g ν hI3 nd hnd) (cwV 1 hts (gt_V (own := R_Walk) (C := R_Walk) (i := 89) (y := y_Walk_pushAll) i_Walk_pushAll z_870 z_872 (gt_sel (y := y_Walk_pushAll) (n := 4) (by decide +kernel)) w_5) rfl rfl rfl (by decide +kernel) ⟨by show 10 + 1 ≤ 58 + 5 * n; omega, by show 8 + (3 + 11) + (200) ≤ 2420 + 200 * n; omega⟩) ⟨ml_blind, va_recv hK hP (ci := 10) (q0 := 0) rfl rfl, fun U hU hW => ⟨rfl, ⟨hU, by rw [hU]; exact hPc, va_K.moved hW.alike hKc, hDc.weaken (fun _ _ _ _ => trivial)⟩, hN.warm hW, by rw [hU]; exact ZX.moved' hW.alike (ZX.narrow' (ZX.kept' hZ hS.2.1) hFc), by rw [hU]; exact CE.call hC hS.2.1 hFc hW, va_AO.moved hW.alike hV⟩⟩ rfl rfl hl.1 rfl (lv_room (Nat.le_of_ble_eq_true rfl)) d_Walk_choose_58 ⟨Nat.le_of_ble_eq_true rfl, Nat.le_of_ble_eq_true rfl⟩) hS (fun q _ h => hFc q h) hFc (fun q _ h => hFc q h) (fun En ce q9 ⟨tx, sx, gx, nx⟩ t9 H1 locs ht hvm hw hB hz1 hk1 hS hce hcv hcl => ?_) (fun ⟨t27, s27, g27, n27⟩ t9 H1 locs ht hvm hw hB hz1 hk1 hS => ?_)
          · obtain ⟨hEn, hP1, hK1, hD1⟩ := hB
            rw [ht] at hP1
            obtain ⟨hP, hD⟩ := va_joinP (wr := []) (rx := [(wk, .inr (10, [.ref wl, .int tx, .int sx, .ref rt])), (wl, .inl (cV, 10000, .inr (.inr (.inr (.inr gx)))))]) (pl1 := va_pl L (pf f nx)) hP hD [0, 1] [] rfl rfl (by decide) (by decide) hk1 hFc hP1 hD1
            generalize H1 = H at hP hS hce ⊢
            have hP : va_P (dC, dI) classes ([(wk, .inr (10, [.ref wl, .int tx, .int sx, .ref rt])), (wl, .inl (cV, 10000, .inr (.inr (.inr (.inr gx)))))] ++ va_pl L (pf f nx)) H := hP
            have hD : va_D A ([(wk, .inr (10, [.ref wl, .int tx, .int sx, .ref rt])), (wl, .inl (cV, 10000, .inr (.inr (.inr (.inr gx)))))] ++ va_pl L (pf f nx)) := hD
            exact vx_out (fun x hx => (hex x hx).elim) hlocks hce hcv hcl (fun t9 ht2 ha => ⟨(tx, sx, gx, nx), trivial, ⟨hEn, by rw [ht2]; exact hP, va_K.moved ha hK, hD⟩, hS.F ht2⟩) hS.2.2 (Nat.le_of_ble_eq_true rfl) (Nat.le_of_ble_eq_true rfl)
          · obtain ⟨⟨hP1, hK1, hD1⟩, hz9⟩ := hB
            rw [ht] at hP1
            rw [ht] at hz9
            refine w_tight (hq0.trans hz9) ?_
            have hq0 := hq0.trans hz9
            obtain ⟨hP, hD⟩ := va_joinP (wr := []) (rx := [(wk, .inr (10, [.ref wl, .int (nI t27), .int (nI s27), .ref rt])), (wl, .inl (cV, 10000, .inr (.inr (.inr (.inr g27)))))]) (pl1 := va_pl L (pf f n27)) hP hD [0, 1] [] rfl rfl (by decide) (by decide) hk1 hFc hP1 hD1
            generalize H1 = H at hP hS hq0 ⊢
            have hP : va_P (dC, dI) classes ([(wk, .inr (10, [.ref wl, .int (nI t27), .int (nI s27), .ref rt])), (wl, .inl (cV, 10000, .inr (.inr (.inr (.inr g27)))))] ++ va_pl L (pf f n27)) H := hP
            have hD : va_D A ([(wk, .inr (10, [.ref wl, .int (nI t27), .int (nI s27), .ref rt])), (wl, .inl (cV, 10000, .inr (.inr (.inr (.inr g27)))))] ++ va_pl L (pf f n27)) := hD
            obtain ⟨ha27, hb27, hW27⟩ := hw
            have ha27 : t ≤ t27 := ha27
            have hb27 : s9 ≤ s27 := hb27
            have hW27 : WI E t27 s27 g27 := hW27
            have hhW271 := hW27.1
            have hhW272 := hW27.2.1
            refine lv_goto (tgt := 94) hx hb d_Walk_choose_61 (by decide) ?_
            refine lv_aload_n hx hb d_Walk_choose_94 rfl (lv_at hl 3 rfl) ?_
            rcases nx23 with _ | b28
            · refine vq_get (D := (dC, dI)) (ci := 7) (v := .null) (C := R_Selector) (T := F_Selector) (N := 9) hx hb hts in_Selector hown hK hP (hO.inL (a := ob) (by rw [hob1]; decide)) (pf_L ef23) rfl 8 (by decide) (hts _ z_630) (fun _ h9 => h9) rfl d_Walk_choose_95 ?_
              refine lv_astore_nN (lv' := [(3, .null), (0, .ref wk), (1, .ref sg), (2, .ref nd)]) hx hb d_Walk_choose_98 rfl hl (by decide) rfl (fun ls hl => ?_)
              refine lv_goto (tgt := 5) hx hb d_Walk_choose_99 (by decide) ?_
              exact ih (none, t27, s27, g27, n27) _ _ _ ⟨(fun b h => nomatch h), by show tp ≤ t27; omega, by show sp ≤ s27; omega, hW27⟩ (chL_lt (hO.inL (a := ob) (by rw [hob1]; decide)) (fun b h => nomatch h)) hP hD hS (lv_sub hl [1, 2, 3, 0] rfl)
            · refine vq_get (D := (dC, dI)) (ci := 7) (v := .ref b28) (C := R_Selector) (T := F_Selector) (N := 9) hx hb hts in_Selector hown hK hP (hO.inL (a := ob) (by rw [hob1]; decide)) (pf_L ef23) rfl 8 (by decide) (hts _ z_630) (fun _ h9 => h9) rfl d_Walk_choose_95 ?_
              refine lv_astore_n (lv' := [(3, .ref b28), (0, .ref wk), (1, .ref sg), (2, .ref nd)]) hx hb d_Walk_choose_98 rfl hl (by decide) rfl (fun ls hl => ?_)
              refine lv_goto (tgt := 5) hx hb d_Walk_choose_99 (by decide) ?_
              exact ih ((some b28), t27, s27, g27, n27) _ _ _ ⟨(fun b h => by cases h; exact ⟨(hv23.2.2.1 b28 rfl).1, Nat.le_trans (hv23.2.2.1 b28 rfl).2.1 hob2⟩), by show tp ≤ t27; omega, by show sp ≤ s27; omega, hW27⟩ (chL_lt (hO.inL (a := ob) (by rw [hob1]; decide)) (fun b h => by cases h; exact (hv23.2.2.1 b28 rfl).2.2)) hP hD hS (lv_sub hl [1, 2, 3, 0] rfl)
        · by_cases hs13_2 : kd23 = 2
          · refine lv_tableIn (tgt := 64) (off := 51) hx hb d_Walk_choose_13 (by rw [hs13_2]; decide) (by rw [hs13_2]; decide) (by rw [hs13_2]; rfl) (by decide) ?_
            refine lv_aload_n hx hb d_Walk_choose_64 rfl (lv_at hl 0 rfl) ?_
            refine lv_aload_n hx hb d_Walk_choose_65 rfl (lv_at hl 2 rfl) ?_
            refine lv_aload_n hx hb d_Walk_choose_66 rfl (lv_at hl 3 rfl) ?_
            refine vq_get (D := (dC, dI)) (ci := 7) (v := .long st23) (C := R_Selector) (T := F_Selector) (N := 9) hx hb hts in_Selector hown hK hP (hO.inL (a := ob) (by rw [hob1]; decide)) (pf_L ef23) rfl 4 (by decide) (hts _ z_619) (fun _ h9 => h9) rfl d_Walk_choose_67 ?_
            have hPc := hP.part (cx := [(wk, .inr (10, [.ref wl, .int (nI t), .int (nI s9), .ref rt])), (wl, .inl (cV, 10000, .inr (.inr (.inr (.inr g)))))]) [0, 1] rfl
            have hDc := hD.part (cx := [(wk, .inr (10, [.ref wl, .int (nI t), .int (nI s9), .ref rt])), (wl, .inl (cV, 10000, .inr (.inr (.inr (.inr g)))))]) [0, 1] (by decide) rfl
            have hFc := va_freeP (cx := [(wk, .inr (10, [.ref wl, .int (nI t), .int (nI s9), .ref rt])), (wl, .inl (cV, 10000, .inr (.inr (.inr (.inr g)))))]) hD hS hA [0, 1] rfl
            have hKc := hK.sub (tys' := [(cI, .int), (cV, .object "QueryBench$Value")]) [0, 1] rfl
            refine w_same (fun hq0 => ?_)
            refine vx_callv (vx_runV (As := [.ref nd, .long st23]) (rest := []) ⟨hx, hb, hml, hown, hts⟩ (c_Walk_pushAt l hl9 K dC dI H cI cV E lv L f hO hN1 wk wl rt hrt t s9 g ν hI3 nd hnd st23) (cwV 2 hts (gt_V (own := R_Walk) (C := R_Walk) (i := 96) (y := y_Walk_pushAt) i_Walk_pushAt z_875 z_877 (gt_sel (y := y_Walk_pushAt) (n := 4) (by decide +kernel)) w_5) rfl rfl rfl (by decide +kernel) ⟨by show 10 + 1 ≤ 58 + 5 * n; omega, by show 8 + (6 + 11) + (200) ≤ 2420 + 200 * n; omega⟩) ⟨ml_blind, va_recv hK hP (ci := 10) (q0 := 0) rfl rfl, fun U hU hW => ⟨rfl, ⟨hU, by rw [hU]; exact hPc, va_K.moved hW.alike hKc, hDc.weaken (fun _ _ _ _ => trivial)⟩, hN.warm hW, by rw [hU]; exact ZX.moved' hW.alike (ZX.narrow' (ZX.kept' hZ hS.2.1) hFc), by rw [hU]; exact CE.call hC hS.2.1 hFc hW, va_AO.moved hW.alike hV⟩⟩ rfl rfl hl.1 rfl (lv_room (Nat.le_of_ble_eq_true rfl)) d_Walk_choose_70 ⟨Nat.le_of_ble_eq_true rfl, Nat.le_of_ble_eq_true rfl⟩) hS (fun q _ h => hFc q h) hFc (fun q _ h => hFc q h) (fun En ce q9 ⟨tx, sx, gx, nx⟩ t9 H1 locs ht hvm hw hB hz1 hk1 hS hce hcv hcl => ?_) (fun ⟨t29, s29, g29, n29⟩ t9 H1 locs ht hvm hw hB hz1 hk1 hS => ?_)
            · obtain ⟨hEn, hP1, hK1, hD1⟩ := hB
              rw [ht] at hP1
              obtain ⟨hP, hD⟩ := va_joinP (wr := []) (rx := [(wk, .inr (10, [.ref wl, .int tx, .int sx, .ref rt])), (wl, .inl (cV, 10000, .inr (.inr (.inr (.inr gx)))))]) (pl1 := va_pl L (pf f nx)) hP hD [0, 1] [] rfl rfl (by decide) (by decide) hk1 hFc hP1 hD1
              generalize H1 = H at hP hS hce ⊢
              have hP : va_P (dC, dI) classes ([(wk, .inr (10, [.ref wl, .int tx, .int sx, .ref rt])), (wl, .inl (cV, 10000, .inr (.inr (.inr (.inr gx)))))] ++ va_pl L (pf f nx)) H := hP
              have hD : va_D A ([(wk, .inr (10, [.ref wl, .int tx, .int sx, .ref rt])), (wl, .inl (cV, 10000, .inr (.inr (.inr (.inr gx)))))] ++ va_pl L (pf f nx)) := hD
              exact vx_out (fun x hx => (hex x hx).elim) hlocks hce hcv hcl (fun t9 ht2 ha => ⟨(tx, sx, gx, nx), trivial, ⟨hEn, by rw [ht2]; exact hP, va_K.moved ha hK, hD⟩, hS.F ht2⟩) hS.2.2 (Nat.le_of_ble_eq_true rfl) (Nat.le_of_ble_eq_true rfl)
            · obtain ⟨⟨hP1, hK1, hD1⟩, hz9⟩ := hB
              rw [ht] at hP1
              rw [ht] at hz9
              refine w_tight (hq0.trans hz9) ?_
              have hq0 := hq0.trans hz9
              obtain ⟨hP, hD⟩ := va_joinP (wr := []) (rx := [(wk, .inr (10, [.ref wl, .int (nI t29), .int (nI s29), .ref rt])), (wl, .inl (cV, 10000, .inr (.inr (.inr (.inr g29)))))]) (pl1 := va_pl L (pf f n29)) hP hD [0, 1] [] rfl rfl (by decide) (by decide) hk1 hFc hP1 hD1
              generalize H1 = H at hP hS hq0 ⊢
              have hP : va_P (dC, dI) classes ([(wk, .inr (10, [.ref wl, .int (nI t29), .int (nI s29), .ref rt])), (wl, .inl (cV, 10000, .inr (.inr (.inr (.inr g29)))))] ++ va_pl L (pf f n29)) H := hP
              have hD : va_D A ([(wk, .inr (10, [.ref wl, .int (nI t29), .int (nI s29), .ref rt])), (wl, .inl (cV, 10000, .inr (.inr (.inr (.inr g29)))))] ++ va_pl L (pf f n29)) := hD
              obtain ⟨ha29, hb29, hW29⟩ := hw
              have ha29 : t ≤ t29 := ha29
              have hb29 : s9 ≤ s29 := hb29
              have hW29 : WI E t29 s29 g29 := hW29
              have hhW291 := hW29.1
              have hhW292 := hW29.2.1
              refine lv_goto (tgt := 94) hx hb d_Walk_choose_73 (by decide) ?_
              refine lv_aload_n hx hb d_Walk_choose_94 rfl (lv_at hl 3 rfl) ?_
              rcases nx23 with _ | b30
              · refine vq_get (D := (dC, dI)) (ci := 7) (v := .null) (C := R_Selector) (T := F_Selector) (N := 9) hx hb hts in_Selector hown hK hP (hO.inL (a := ob) (by rw [hob1]; decide)) (pf_L ef23) rfl 8 (by decide) (hts _ z_630) (fun _ h9 => h9) rfl d_Walk_choose_95 ?_
                refine lv_astore_nN (lv' := [(3, .null), (0, .ref wk), (1, .ref sg), (2, .ref nd)]) hx hb d_Walk_choose_98 rfl hl (by decide) rfl (fun ls hl => ?_)
                refine lv_goto (tgt := 5) hx hb d_Walk_choose_99 (by decide) ?_
                exact ih (none, t29, s29, g29, n29) _ _ _ ⟨(fun b h => nomatch h), by show tp ≤ t29; omega, by show sp ≤ s29; omega, hW29⟩ (chL_lt (hO.inL (a := ob) (by rw [hob1]; decide)) (fun b h => nomatch h)) hP hD hS (lv_sub hl [1, 2, 3, 0] rfl)
              · refine vq_get (D := (dC, dI)) (ci := 7) (v := .ref b30) (C := R_Selector) (T := F_Selector) (N := 9) hx hb hts in_Selector hown hK hP (hO.inL (a := ob) (by rw [hob1]; decide)) (pf_L ef23) rfl 8 (by decide) (hts _ z_630) (fun _ h9 => h9) rfl d_Walk_choose_95 ?_
                refine lv_astore_n (lv' := [(3, .ref b30), (0, .ref wk), (1, .ref sg), (2, .ref nd)]) hx hb d_Walk_choose_98 rfl hl (by decide) rfl (fun ls hl => ?_)
                refine lv_goto (tgt := 5) hx hb d_Walk_choose_99 (by decide) ?_
                exact ih ((some b30), t29, s29, g29, n29) _ _ _ ⟨(fun b h => by cases h; exact ⟨(hv23.2.2.1 b30 rfl).1, Nat.le_trans (hv23.2.2.1 b30 rfl).2.1 hob2⟩), by show tp ≤ t29; omega, by show sp ≤ s29; omega, hW29⟩ (chL_lt (hO.inL (a := ob) (by rw [hob1]; decide)) (fun b h => by cases h; exact (hv23.2.2.1 b30 rfl).2.2)) hP hD hS (lv_sub hl [1, 2, 3, 0] rfl)
          · by_cases hs13_3 : kd23 = 3
            · refine lv_tableIn (tgt := 76) (off := 63) hx hb d_Walk_choose_13 (by rw [hs13_3]; decide) (by rw [hs13_3]; decide) (by rw [hs13_3]; rfl) (by decide) ?_
              refine lv_aload_n hx hb d_Walk_choose_76 rfl (lv_at hl 0 rfl) ?_
              refine lv_aload_n hx hb d_Walk_choose_77 rfl (lv_at hl 2 rfl) ?_
              refine lv_aload_n hx hb d_Walk_choose_78 rfl (lv_at hl 3 rfl) ?_
              have hPc := hP.part (cx := [(wk, .inr (10, [.ref wl, .int (nI t), .int (nI s9), .ref rt])), (wl, .inl (cV, 10000, .inr (.inr (.inr (.inr g)))))]) [0, 1] rfl
              have hDc := hD.part (cx := [(wk, .inr (10, [.ref wl, .int (nI t), .int (nI s9), .ref rt])), (wl, .inl (cV, 10000, .inr (.inr (.inr (.inr g)))))]) [0, 1] (by decide) rfl
              have hFc := va_freeP (cx := [(wk, .inr (10, [.ref wl, .int (nI t), .int (nI s9), .ref rt])), (wl, .inl (cV, 10000, .inr (.inr (.inr (.inr g)))))]) hD hS hA [0, 1] rfl
              have hKc := hK.sub (tys' := [(cI, .int), (cV, .object "QueryBench$Value")]) [0, 1] rfl
              refine w_same (fun hq0 => ?_)
              refine vx_callv (vx_runV (As := [.ref nd, .ref ob]) (rest := []) ⟨hx, hb, hml, hown, hts⟩ (c_Walk_pushSlice l hl9 K dC dI H cI cV E lv L f hO hN1 wk wl rt hrt t s9 g ν hI3 nd hnd ob hob1) (cwV 2 hts (gt_V (own := R_Walk) (C := R_Walk) (i := 100) (y := y_Walk_pushSlice) i_Walk_pushSlice z_879 z_881 (gt_sel (y := y_Walk_pushSlice) (n := 4) (by decide +kernel)) w_5) rfl rfl rfl (by decide +kernel) ⟨by show 10 + 1 ≤ 58 + 5 * n; omega, by show 8 + (8 + 11) + (200) ≤ 2420 + 200 * n; omega⟩) ⟨ml_blind, va_recv hK hP (ci := 10) (q0 := 0) rfl rfl, fun U hU hW => ⟨rfl, ⟨hU, by rw [hU]; exact hPc, va_K.moved hW.alike hKc, hDc.weaken (fun _ _ _ _ => trivial)⟩, hN.warm hW, by rw [hU]; exact ZX.moved' hW.alike (ZX.narrow' (ZX.kept' hZ hS.2.1) hFc), by rw [hU]; exact CE.call hC hS.2.1 hFc hW, va_AO.moved hW.alike hV⟩⟩ rfl rfl hl.1 rfl (lv_room (Nat.le_of_ble_eq_true rfl)) d_Walk_choose_79 ⟨Nat.le_of_ble_eq_true rfl, Nat.le_of_ble_eq_true rfl⟩) hS (fun q _ h => hFc q h) hFc (fun q _ h => hFc q h) (fun En ce q9 ⟨tx, sx, gx, nx⟩ t9 H1 locs ht hvm hw hB hz1 hk1 hS hce hcv hcl => ?_) (fun ⟨t31, s31, g31, n31⟩ t9 H1 locs ht hvm hw hB hz1 hk1 hS => ?_)
              · obtain ⟨hEn, hP1, hK1, hD1⟩ := hB
                rw [ht] at hP1
                obtain ⟨hP, hD⟩ := va_joinP (wr := []) (rx := [(wk, .inr (10, [.ref wl, .int tx, .int sx, .ref rt])), (wl, .inl (cV, 10000, .inr (.inr (.inr (.inr gx)))))]) (pl1 := va_pl L (pf f nx)) hP hD [0, 1] [] rfl rfl (by decide) (by decide) hk1 hFc hP1 hD1
                generalize H1 = H at hP hS hce ⊢
                have hP : va_P (dC, dI) classes ([(wk, .inr (10, [.ref wl, .int tx, .int sx, .ref rt])), (wl, .inl (cV, 10000, .inr (.inr (.inr (.inr gx)))))] ++ va_pl L (pf f nx)) H := hP
                have hD : va_D A ([(wk, .inr (10, [.ref wl, .int tx, .int sx, .ref rt])), (wl, .inl (cV, 10000, .inr (.inr (.inr (.inr gx)))))] ++ va_pl L (pf f nx)) := hD
                exact vx_out (fun x hx => (hex x hx).elim) hlocks hce hcv hcl (fun t9 ht2 ha => ⟨(tx, sx, gx, nx), trivial, ⟨hEn, by rw [ht2]; exact hP, va_K.moved ha hK, hD⟩, hS.F ht2⟩) hS.2.2 (Nat.le_of_ble_eq_true rfl) (Nat.le_of_ble_eq_true rfl)
              · obtain ⟨⟨hP1, hK1, hD1⟩, hz9⟩ := hB
                rw [ht] at hP1
                rw [ht] at hz9
                refine w_tight (hq0.trans hz9) ?_
                have hq0 := hq0.trans hz9
                obtain ⟨hP, hD⟩ := va_joinP (wr := []) (rx := [(wk, .inr (10, [.ref wl, .int (nI t31), .int (nI s31), .ref rt])), (wl, .inl (cV, 10000, .inr (.inr (.inr (.inr g31)))))]) (pl1 := va_pl L (pf f n31)) hP hD [0, 1] [] rfl rfl (by decide) (by decide) hk1 hFc hP1 hD1
                generalize H1 = H at hP hS hq0 ⊢
                have hP : va_P (dC, dI) classes ([(wk, .inr (10, [.ref wl, .int (nI t31), .int (nI s31), .ref rt])), (wl, .inl (cV, 10000, .inr (.inr (.inr (.inr g31)))))] ++ va_pl L (pf f n31)) H := hP
                have hD : va_D A ([(wk, .inr (10, [.ref wl, .int (nI t31), .int (nI s31), .ref rt])), (wl, .inl (cV, 10000, .inr (.inr (.inr (.inr g31)))))] ++ va_pl L (pf f n31)) := hD
                obtain ⟨ha31, hb31, hW31⟩ := hw
                have ha31 : t ≤ t31 := ha31
                have hb31 : s9 ≤ s31 := hb31
                have hW31 : WI E t31 s31 g31 := hW31
                have hhW311 := hW31.1
                have hhW312 := hW31.2.1
                refine lv_goto (tgt := 94) hx hb d_Walk_choose_82 (by decide) ?_
                refine lv_aload_n hx hb d_Walk_choose_94 rfl (lv_at hl 3 rfl) ?_
                rcases nx23 with _ | b32
                · refine vq_get (D := (dC, dI)) (ci := 7) (v := .null) (C := R_Selector) (T := F_Selector) (N := 9) hx hb hts in_Selector hown hK hP (hO.inL (a := ob) (by rw [hob1]; decide)) (pf_L ef23) rfl 8 (by decide) (hts _ z_630) (fun _ h9 => h9) rfl d_Walk_choose_95 ?_
                  refine lv_astore_nN (lv' := [(3, .null), (0, .ref wk), (1, .ref sg), (2, .ref nd)]) hx hb d_Walk_choose_98 rfl hl (by decide) rfl (fun ls hl => ?_)
                  refine lv_goto (tgt := 5) hx hb d_Walk_choose_99 (by decide) ?_
                  exact ih (none, t31, s31, g31, n31) _ _ _ ⟨(fun b h => nomatch h), by show tp ≤ t31; omega, by show sp ≤ s31; omega, hW31⟩ (chL_lt (hO.inL (a := ob) (by rw [hob1]; decide)) (fun b h => nomatch h)) hP hD hS (lv_sub hl [1, 2, 3, 0] rfl)
                · refine vq_get (D := (dC, dI)) (ci := 7) (v := .ref b32) (C := R_Selector) (T := F_Selector) (N := 9) hx hb hts in_Selector hown hK hP (hO.inL (a := ob) (by rw [hob1]; decide)) (pf_L ef23) rfl 8 (by decide) (hts _ z_630) (fun _ h9 => h9) rfl d_Walk_choose_95 ?_
                  refine lv_astore_n (lv' := [(3, .ref b32), (0, .ref wk), (1, .ref sg), (2, .ref nd)]) hx hb d_Walk_choose_98 rfl hl (by decide) rfl (fun ls hl => ?_)
                  refine lv_goto (tgt := 5) hx hb d_Walk_choose_99 (by decide) ?_
                  exact ih ((some b32), t31, s31, g31, n31) _ _ _ ⟨(fun b h => by cases h; exact ⟨(hv23.2.2.1 b32 rfl).1, Nat.le_trans (hv23.2.2.1 b32 rfl).2.1 hob2⟩), by show tp ≤ t31; omega, by show sp ≤ s31; omega, hW31⟩ (chL_lt (hO.inL (a := ob) (by rw [hob1]; decide)) (fun b h => by cases h; exact (hv23.2.2.1 b32 rfl).2.2)) hP hD hS (lv_sub hl [1, 2, 3, 0] rfl)
            · have hk13_0 := i_neN 0 rfl hs13_0
              have hk13_1 := i_neN 1 rfl hs13_1
              have hk13_2 := i_neN 2 rfl hs13_2
              have hk13_3 := i_neN 3 rfl hs13_3
              refine lv_tableOut (tgt := 85) hx hb d_Walk_choose_13 (by omega) (by decide) ?_
              refine lv_aload_n hx hb d_Walk_choose_85 rfl (lv_at hl 0 rfl) ?_
              refine lv_aload_n hx hb d_Walk_choose_86 rfl (lv_at hl 2 rfl) ?_
              refine lv_aload_n hx hb d_Walk_choose_87 rfl (lv_at hl 3 rfl) ?_
              rcases fl23 with _ | b33
              · exact absurd rfl (hv23.2.2.2.2.1 hs13_0 hs13_1 hs13_2 hs13_3)
              · refine vq_get (D := (dC, dI)) (ci := 7) (v := .ref b33) (C := R_Selector) (T := F_Selector) (N := 9) hx hb hts in_Selector hown hK hP (hO.inL (a := ob) (by rw [hob1]; decide)) (pf_L ef23) rfl 7 (by decide) (hts _ z_626) (fun _ h9 => h9) rfl d_Walk_choose_88 ?_
                have hlt := (hv23.2.1 b33 rfl).2
                have hPc := hP.part (cx := [(wk, .inr (10, [.ref wl, .int (nI t), .int (nI s9), .ref rt])), (wl, .inl (cV, 10000, .inr (.inr (.inr (.inr g)))))]) [0, 1] rfl
                have hDc := hD.part (cx := [(wk, .inr (10, [.ref wl, .int (nI t), .int (nI s9), .ref rt])), (wl, .inl (cV, 10000, .inr (.inr (.inr (.inr g)))))]) [0, 1] (by decide) rfl
                have hFc := va_freeP (cx := [(wk, .inr (10, [.ref wl, .int (nI t), .int (nI s9), .ref rt])), (wl, .inl (cV, 10000, .inr (.inr (.inr (.inr g)))))]) hD hS hA [0, 1] rfl
                have hKc := hK.sub (tys' := [(cI, .int), (cV, .object "QueryBench$Value")]) [0, 1] rfl
                refine w_same (fun hq0 => ?_)
                refine vx_callv (vx_runV (As := [.ref nd, .ref b33]) (rest := []) ⟨hx, hb, hml, hown, hts⟩ (c_Walk_pushFiltered l hl9 K dC dI H cI cV E lv L f hO hN1 wk wl rt hrt t s9 g ν hI3 n (by omega) (HI (by omega)) nd hnd b33 (hv23.2.1 b33 rfl).1 (by omega)) (cwV 2 hts (gt_V (own := R_Walk) (C := R_Walk) (i := 108) (y := y_Walk_pushFiltered) i_Walk_pushFiltered z_891 z_893 (gt_sel (y := y_Walk_pushFiltered) (n := 4) (by decide +kernel)) w_5) rfl rfl rfl (by decide +kernel) ⟨by show 57 + 5 * n + 1 ≤ 58 + 5 * n; omega, by show 8 + (4 + 11) + (2380 + 200 * n) ≤ 2420 + 200 * n; omega⟩) ⟨ml_blind, va_recv hK hP (ci := 10) (q0 := 0) rfl rfl, fun U hU hW => ⟨rfl, ⟨hU, by rw [hU]; exact hPc, va_K.moved hW.alike hKc, hDc.weaken (fun _ _ _ _ => trivial)⟩, hN.warm hW, by rw [hU]; exact ZX.moved' hW.alike (ZX.narrow' (ZX.kept' hZ hS.2.1) hFc), by rw [hU]; exact CE.call hC hS.2.1 hFc hW, va_AO.moved hW.alike hV⟩⟩ rfl rfl hl.1 rfl (lv_room (Nat.le_of_ble_eq_true rfl)) d_Walk_choose_91 ⟨Nat.le_of_ble_eq_true rfl, Nat.le_of_ble_eq_true rfl⟩) hS (fun q _ h => hFc q h) hFc (fun q _ h => hFc q h) (fun En ce q9 ⟨tx, sx, gx, nx⟩ t9 H1 locs ht hvm hw hB hz1 hk1 hS hce hcv hcl => ?_) (fun ⟨t34, s34, g34, n34⟩ t9 H1 locs ht hvm hw hB hz1 hk1 hS => ?_)
                · obtain ⟨hEn, hP1, hK1, hD1⟩ := hB
                  rw [ht] at hP1
                  obtain ⟨hP, hD⟩ := va_joinP (wr := []) (rx := [(wk, .inr (10, [.ref wl, .int tx, .int sx, .ref rt])), (wl, .inl (cV, 10000, .inr (.inr (.inr (.inr gx)))))]) (pl1 := va_pl L (pf f nx)) hP hD [0, 1] [] rfl rfl (by decide) (by decide) hk1 hFc hP1 hD1
                  generalize H1 = H at hP hS hce ⊢
                  have hP : va_P (dC, dI) classes ([(wk, .inr (10, [.ref wl, .int tx, .int sx, .ref rt])), (wl, .inl (cV, 10000, .inr (.inr (.inr (.inr gx)))))] ++ va_pl L (pf f nx)) H := hP
                  have hD : va_D A ([(wk, .inr (10, [.ref wl, .int tx, .int sx, .ref rt])), (wl, .inl (cV, 10000, .inr (.inr (.inr (.inr gx)))))] ++ va_pl L (pf f nx)) := hD
                  exact vx_out (fun x hx => (hex x hx).elim) hlocks hce hcv hcl (fun t9 ht2 ha => ⟨(tx, sx, gx, nx), trivial, ⟨hEn, by rw [ht2]; exact hP, va_K.moved ha hK, hD⟩, hS.F ht2⟩) hS.2.2 (Nat.le_of_ble_eq_true rfl) (Nat.le_of_ble_eq_true rfl)
                · obtain ⟨⟨hP1, hK1, hD1⟩, hz9⟩ := hB
                  rw [ht] at hP1
                  rw [ht] at hz9
                  refine w_tight (hq0.trans hz9) ?_
                  have hq0 := hq0.trans hz9
                  obtain ⟨hP, hD⟩ := va_joinP (wr := []) (rx := [(wk, .inr (10, [.ref wl, .int (nI t34), .int (nI s34), .ref rt])), (wl, .inl (cV, 10000, .inr (.inr (.inr (.inr g34)))))]) (pl1 := va_pl L (pf f n34)) hP hD [0, 1] [] rfl rfl (by decide) (by decide) hk1 hFc hP1 hD1
                  generalize H1 = H at hP hS hq0 ⊢
                  have hP : va_P (dC, dI) classes ([(wk, .inr (10, [.ref wl, .int (nI t34), .int (nI s34), .ref rt])), (wl, .inl (cV, 10000, .inr (.inr (.inr (.inr g34)))))] ++ va_pl L (pf f n34)) H := hP
                  have hD : va_D A ([(wk, .inr (10, [.ref wl, .int (nI t34), .int (nI s34), .ref rt])), (wl, .inl (cV, 10000, .inr (.inr (.inr (.inr g34)))))] ++ va_pl L (pf f n34)) := hD
                  obtain ⟨ha34, hb34, hW34⟩ := hw
                  have ha34 : t ≤ t34 := ha34
                  have hb34 : s9 ≤ s34 := hb34
                  have hW34 : WI E t34 s34 g34 := hW34
                  have hhW341 := hW34.1
                  have hhW342 := hW34.2.1
                  refine lv_aload_n hx hb d_Walk_choose_94 rfl (lv_at hl 3 rfl) ?_
                  rcases nx23 with _ | b35
                  · refine vq_get (D := (dC, dI)) (ci := 7) (v := .null) (C := R_Selector) (T := F_Selector) (N := 9) hx hb hts in_Selector hown hK hP (hO.inL (a := ob) (by rw [hob1]; decide)) (pf_L ef23) rfl 8 (by decide) (hts _ z_630) (fun _ h9 => h9) rfl d_Walk_choose_95 ?_
                    refine lv_astore_nN (lv' := [(3, .null), (0, .ref wk), (1, .ref sg), (2, .ref nd)]) hx hb d_Walk_choose_98 rfl hl (by decide) rfl (fun ls hl => ?_)
                    refine lv_goto (tgt := 5) hx hb d_Walk_choose_99 (by decide) ?_
                    exact ih (none, t34, s34, g34, n34) _ _ _ ⟨(fun b h => nomatch h), by show tp ≤ t34; omega, by show sp ≤ s34; omega, hW34⟩ (chL_lt (hO.inL (a := ob) (by rw [hob1]; decide)) (fun b h => nomatch h)) hP hD hS (lv_sub hl [1, 2, 3, 0] rfl)
                  · refine vq_get (D := (dC, dI)) (ci := 7) (v := .ref b35) (C := R_Selector) (T := F_Selector) (N := 9) hx hb hts in_Selector hown hK hP (hO.inL (a := ob) (by rw [hob1]; decide)) (pf_L ef23) rfl 8 (by decide) (hts _ z_630) (fun _ h9 => h9) rfl d_Walk_choose_95 ?_
                    refine lv_astore_n (lv' := [(3, .ref b35), (0, .ref wk), (1, .ref sg), (2, .ref nd)]) hx hb d_Walk_choose_98 rfl hl (by decide) rfl (fun ls hl => ?_)
                    refine lv_goto (tgt := 5) hx hb d_Walk_choose_99 (by decide) ?_
                    exact ih ((some b35), t34, s34, g34, n34) _ _ _ ⟨(fun b h => by cases h; exact ⟨(hv23.2.2.1 b35 rfl).1, Nat.le_trans (hv23.2.2.1 b35 rfl).2.1 hob2⟩), by show tp ≤ t34; omega, by show sp ≤ s34; omega, hW34⟩ (chL_lt (hO.inL (a := ob) (by rw [hob1]; decide)) (fun b h => by cases h; exact (hv23.2.2.1 b35 rfl).2.2)) hP hD hS (lv_sub hl [1, 2, 3, 0] rfl)
