theorem z_594 : (.methodLink "QueryBench$QueryReader" 95 ⟨"QueryBench$QueryReader", "takeOpening", "(I)V"⟩ : Cond) ∈ gtbl := gt_in 594 (by decide +kernel) (by decide +kernel)
theorem z_596 : (.instanceMethod ⟨"QueryBench$QueryReader", "takeOpening", "(I)V"⟩ : Cond) ∈ gtbl := gt_in 596 (by decide +kernel) (by decide +kernel)
theorem z_599 : (.methodLink "QueryBench$QueryReader" 98 ⟨"QueryBench$QueryReader", "selector", "(Z)LQueryBench$Selector;"⟩ : Cond) ∈ gtbl := gt_in 599 (by decide +kernel) (by decide +kernel)
theorem z_601 : (.instanceMethod ⟨"QueryBench$QueryReader", "selector", "(Z)LQueryBench$Selector;"⟩ : Cond) ∈ gtbl := gt_in 601 (by decide +kernel) (by decide +kernel)
theorem z_629 : (.fieldLink "QueryBench$QueryReader" 101 "QueryBench$Selector" "next" "LQueryBench$Selector;" : Cond) ∈ gtbl := gt_in 629 (by decide +kernel) (by decide +kernel)
theorem z_705 : (.methodLink "QueryBench$QueryReader" 104 ⟨"QueryBench$QueryReader", "takeClosing", "(I)V"⟩ : Cond) ∈ gtbl := gt_in 705 (by decide +kernel) (by decide +kernel)
theorem z_707 : (.instanceMethod ⟨"QueryBench$QueryReader", "takeClosing", "(I)V"⟩ : Cond) ∈ gtbl := gt_in 707 (by decide +kernel) (by decide +kernel)
/-- what a method of the reader of queries does -/
def QCT (l : Launch) (K : Nat → Nat × Nat) (dC : Nat → ClassId) (dI : Nat → Nat → Nat) (cI cV : ClassId) (cB : ClassId) (h0 qb qu : Nat) (ln : Int32) (bf : Nat → Int32) (n qr : Nat) (y : MethodName) (W : List Cond) (av : List Value) (o F Lo cc ss ca cm sa sm so bd dm e : Nat) (OK : Nat → Nat → (Nat → Nat) → (Nat → Nat) → (Nat → va_E) → Nat → Prop) (NO : Nat → Prop) : Prop := ∀ (sz : Heap) (E lv : Nat → Nat) (L : List Nat) (f : Nat → va_E) (i : Nat) (uc pl : Int32) (ug : Nat → Int32), PO cI cV E lv L f → i + e ≤ n → vx_Met l y W ({ frames := F, cells := 8 * (n - i) + cc, slots := 64 * (n - i) + ss, locals := Lo }) (va_Pc av (ml K dC dI ([(qr, .inr (5, [.ref h0, .int (nI o)])), (h0, .inr (8, [.ref qb, .ref qu, .int uc, .int ln, .int (nI n), .int (nI i), .int pl])), (qb, .inl (cB, 4096, .inl bf)), (qu, .inl (cI, 4096, .inl ug))] ++ va_pl L f) [(cB, .byte), (cI, .int), (cV, .object "QueryBench$Value")] sz)) (va_Qr (fun (u : Nat × Nat × List Nat × (Nat → Nat) × (Nat → va_E) × Int32 × (Nat → Int32)) => QPn cI cV E L f i n sz.size so bd dm u.1 u.2.1 u.2.2.1 u.2.2.2.1 u.2.2.2.2.1 ∧ OK i u.2.1 E u.2.2.2.1 u.2.2.2.2.1 u.1) (fun u a9 t9 => mz dC dI ([(qr, .inr (5, [.ref h0, .int (nI o)])), (h0, .inr (8, [.ref qb, .ref qu, .int u.2.2.2.2.2.1, .int ln, .int (nI n), .int (nI u.2.1), .int pl])), (qb, .inl (cB, 4096, .inl bf)), (qu, .inl (cI, 4096, .inl u.2.2.2.2.2.2))] ++ va_pl ((L ++ u.2.2.1)) u.2.2.2.2.1) [(cB, .byte), (cI, .int), (cV, .object "QueryBench$Value")] (va_A ([(qr, .inr (5, [.ref h0, .int (nI o)])), (h0, .inr (8, [.ref qb, .ref qu, .int uc, .int ln, .int (nI n), .int (nI i), .int pl])), (qb, .inl (cB, 4096, .inl bf)), (qu, .inl (cI, 4096, .inl ug))] ++ va_pl L f) sz.size) t9 ∧ szk sz t9.heap (8 * (u.2.1 - i) + ca - cm) (64 * (u.2.1 - i) + sa - sm) ∧ a9 = u.1) (va_A ([(qr, .inr (5, [.ref h0, .int (nI o)])), (h0, .inr (8, [.ref qb, .ref qu, .int uc, .int ln, .int (nI n), .int (nI i), .int pl])), (qb, .inl (cB, 4096, .inl bf)), (qu, .inl (cI, 4096, .inl ug))] ++ va_pl L f) sz.size)) (vx_X (fun (u : Int32 × Int32 × Int32 × (Nat → Int32) × Int32) => NO i) (fun En u t9 => En = UOX ∧ mz dC dI ([(qr, .inr (5, [.ref h0, .int u.2.2.2.2])), (h0, .inr (8, [.ref qb, .ref qu, .int u.2.1, .int ln, .int (nI n), .int u.1, .int u.2.2.1])), (qb, .inl (cB, 4096, .inl bf)), (qu, .inl (cI, 4096, .inl u.2.2.2.1))] ++ va_pl L f) [(cB, .byte), (cI, .int), (cV, .object "QueryBench$Value")] (va_A ([(qr, .inr (5, [.ref h0, .int (nI o)])), (h0, .inr (8, [.ref qb, .ref qu, .int uc, .int ln, .int (nI n), .int (nI i), .int pl])), (qb, .inl (cB, 4096, .inl bf)), (qu, .inl (cI, 4096, .inl ug))] ++ va_pl L f) sz.size) t9) (va_A ([(qr, .inr (5, [.ref h0, .int (nI o)])), (h0, .inr (8, [.ref qb, .ref qu, .int uc, .int ln, .int (nI n), .int (nI i), .int pl])), (qb, .inl (cB, 4096, .inl bf)), (qu, .inl (cI, 4096, .inl ug))] ++ va_pl L f) sz.size)) (8 * (n - i) + cc) (64 * (n - i) + ss) (va_A ([(qr, .inr (5, [.ref h0, .int (nI o)])), (h0, .inr (8, [.ref qb, .ref qu, .int uc, .int ln, .int (nI n), .int (nI i), .int pl])), (qb, .inl (cB, 4096, .inl bf)), (qu, .inl (cI, 4096, .inl ug))] ++ va_pl L f) sz.size)
abbrev b_QueryReader_selector : ByteArray := prog_7_method_8_code
def y_QueryReader_selector : MethodName := ⟨"QueryBench$QueryReader", "selector", "(Z)LQueryBench$Selector;"⟩
abbrev k_QueryReader_selector : Cond := .code y_QueryReader_selector b_QueryReader_selector 3 (some (.object "QueryBench$Selector"))
theorem i_QueryReader_selector : k_QueryReader_selector ∈ gtbl := gt_in 602 (by decide +kernel) (by decide +kernel)
theorem d_QueryReader_selector_0 : decode b_QueryReader_selector 0 = .ok (.aload_n 0, 1) := by decide +kernel
theorem d_QueryReader_selector_1 : decode b_QueryReader_selector 1 = .ok (.getfield 9, 3) := by decide +kernel
theorem d_QueryReader_selector_4 : decode b_QueryReader_selector 4 = .ok (.invokevirtual 39, 3) := by decide +kernel
theorem d_QueryReader_selector_7 : decode b_QueryReader_selector 7 = .ok (.new 77, 3) := by decide +kernel
theorem d_QueryReader_selector_10 : decode b_QueryReader_selector 10 = .ok (.dup, 1) := by decide +kernel
theorem d_QueryReader_selector_11 : decode b_QueryReader_selector 11 = .ok (.iconst 2, 1) := by decide +kernel
theorem d_QueryReader_selector_12 : decode b_QueryReader_selector 12 = .ok (.invokespecial 79, 3) := by decide +kernel
theorem d_QueryReader_selector_15 : decode b_QueryReader_selector 15 = .ok (.astore_n 2, 1) := by decide +kernel
theorem d_QueryReader_selector_16 : decode b_QueryReader_selector 16 = .ok (.aload_n 0, 1) := by decide +kernel
theorem d_QueryReader_selector_17 : decode b_QueryReader_selector 17 = .ok (.getfield 9, 3) := by decide +kernel
theorem d_QueryReader_selector_20 : decode b_QueryReader_selector 20 = .ok (.invokevirtual 19, 3) := by decide +kernel
theorem d_QueryReader_selector_23 : decode b_QueryReader_selector 23 = .ok (.invokestatic 107, 3) := by decide +kernel
theorem d_QueryReader_selector_26 : decode b_QueryReader_selector 26 = .ok (.ifCond .eq 22, 3) := by decide +kernel
theorem d_QueryReader_selector_29 : decode b_QueryReader_selector 29 = .ok (.aload_n 2, 1) := by decide +kernel
theorem d_QueryReader_selector_30 : decode b_QueryReader_selector 30 = .ok (.iconst 0, 1) := by decide +kernel
theorem d_QueryReader_selector_31 : decode b_QueryReader_selector 31 = .ok (.putfield 110, 3) := by decide +kernel
theorem d_QueryReader_selector_34 : decode b_QueryReader_selector 34 = .ok (.aload_n 2, 1) := by decide +kernel
theorem d_QueryReader_selector_35 : decode b_QueryReader_selector 35 = .ok (.aload_n 0, 1) := by decide +kernel
theorem d_QueryReader_selector_36 : decode b_QueryReader_selector 36 = .ok (.getfield 9, 3) := by decide +kernel
theorem d_QueryReader_selector_39 : decode b_QueryReader_selector 39 = .ok (.invokevirtual 113, 3) := by decide +kernel
theorem d_QueryReader_selector_42 : decode b_QueryReader_selector 42 = .ok (.putfield 87, 3) := by decide +kernel
theorem d_QueryReader_selector_45 : decode b_QueryReader_selector 45 = .ok (.goto 124, 3) := by decide +kernel
theorem d_QueryReader_selector_48 : decode b_QueryReader_selector 48 = .ok (.iload_n 1, 1) := by decide +kernel
theorem d_QueryReader_selector_49 : decode b_QueryReader_selector 49 = .ok (.ifCond .ne 23, 3) := by decide +kernel
theorem d_QueryReader_selector_52 : decode b_QueryReader_selector 52 = .ok (.aload_n 0, 1) := by decide +kernel
theorem d_QueryReader_selector_53 : decode b_QueryReader_selector 53 = .ok (.getfield 9, 3) := by decide +kernel
theorem d_QueryReader_selector_56 : decode b_QueryReader_selector 56 = .ok (.bipush 42, 2) := by decide +kernel
theorem d_QueryReader_selector_58 : decode b_QueryReader_selector 58 = .ok (.invokevirtual 58, 3) := by decide +kernel
theorem d_QueryReader_selector_61 : decode b_QueryReader_selector 61 = .ok (.ifCond .eq 11, 3) := by decide +kernel
theorem d_QueryReader_selector_64 : decode b_QueryReader_selector 64 = .ok (.aload_n 2, 1) := by decide +kernel
theorem d_QueryReader_selector_65 : decode b_QueryReader_selector 65 = .ok (.iconst 1, 1) := by decide +kernel
theorem d_QueryReader_selector_66 : decode b_QueryReader_selector 66 = .ok (.putfield 110, 3) := by decide +kernel
theorem d_QueryReader_selector_69 : decode b_QueryReader_selector 69 = .ok (.goto 100, 3) := by decide +kernel
theorem d_QueryReader_selector_72 : decode b_QueryReader_selector 72 = .ok (.iload_n 1, 1) := by decide +kernel
theorem d_QueryReader_selector_73 : decode b_QueryReader_selector 73 = .ok (.ifCond .ne 31, 3) := by decide +kernel
theorem d_QueryReader_selector_76 : decode b_QueryReader_selector 76 = .ok (.aload_n 0, 1) := by decide +kernel
theorem d_QueryReader_selector_77 : decode b_QueryReader_selector 77 = .ok (.getfield 9, 3) := by decide +kernel
theorem d_QueryReader_selector_80 : decode b_QueryReader_selector 80 = .ok (.bipush 63, 2) := by decide +kernel
theorem d_QueryReader_selector_82 : decode b_QueryReader_selector 82 = .ok (.invokevirtual 58, 3) := by decide +kernel
theorem d_QueryReader_selector_85 : decode b_QueryReader_selector 85 = .ok (.ifCond .eq 19, 3) := by decide +kernel
theorem d_QueryReader_selector_88 : decode b_QueryReader_selector 88 = .ok (.aload_n 2, 1) := by decide +kernel
theorem d_QueryReader_selector_89 : decode b_QueryReader_selector 89 = .ok (.iconst 4, 1) := by decide +kernel
theorem d_QueryReader_selector_90 : decode b_QueryReader_selector 90 = .ok (.putfield 110, 3) := by decide +kernel
theorem d_QueryReader_selector_93 : decode b_QueryReader_selector 93 = .ok (.aload_n 2, 1) := by decide +kernel
theorem d_QueryReader_selector_94 : decode b_QueryReader_selector 94 = .ok (.aload_n 0, 1) := by decide +kernel
theorem d_QueryReader_selector_95 : decode b_QueryReader_selector 95 = .ok (.invokevirtual 117, 3) := by decide +kernel
theorem d_QueryReader_selector_98 : decode b_QueryReader_selector 98 = .ok (.putfield 121, 3) := by decide +kernel
theorem d_QueryReader_selector_101 : decode b_QueryReader_selector 101 = .ok (.goto 68, 3) := by decide +kernel
theorem d_QueryReader_selector_104 : decode b_QueryReader_selector 104 = .ok (.iload_n 1, 1) := by decide +kernel
theorem d_QueryReader_selector_105 : decode b_QueryReader_selector 105 = .ok (.ifCond .ne 23, 3) := by decide +kernel
theorem d_QueryReader_selector_108 : decode b_QueryReader_selector 108 = .ok (.aload_n 0, 1) := by decide +kernel
theorem d_QueryReader_selector_109 : decode b_QueryReader_selector 109 = .ok (.getfield 9, 3) := by decide +kernel
theorem d_QueryReader_selector_112 : decode b_QueryReader_selector 112 = .ok (.invokevirtual 19, 3) := by decide +kernel
theorem d_QueryReader_selector_115 : decode b_QueryReader_selector 115 = .ok (.bipush 58, 2) := by decide +kernel
theorem d_QueryReader_selector_117 : decode b_QueryReader_selector 117 = .ok (.if_icmp .ne 11, 3) := by decide +kernel
theorem d_QueryReader_selector_120 : decode b_QueryReader_selector 120 = .ok (.aload_n 0, 1) := by decide +kernel
theorem d_QueryReader_selector_121 : decode b_QueryReader_selector 121 = .ok (.aload_n 2, 1) := by decide +kernel
theorem d_QueryReader_selector_122 : decode b_QueryReader_selector 122 = .ok (.invokevirtual 125, 3) := by decide +kernel
theorem d_QueryReader_selector_125 : decode b_QueryReader_selector 125 = .ok (.goto 44, 3) := by decide +kernel
theorem d_QueryReader_selector_128 : decode b_QueryReader_selector 128 = .ok (.aload_n 2, 1) := by decide +kernel
theorem d_QueryReader_selector_129 : decode b_QueryReader_selector 129 = .ok (.aload_n 0, 1) := by decide +kernel
theorem d_QueryReader_selector_130 : decode b_QueryReader_selector 130 = .ok (.invokevirtual 129, 3) := by decide +kernel
theorem d_QueryReader_selector_133 : decode b_QueryReader_selector 133 = .ok (.putfield 133, 3) := by decide +kernel
theorem d_QueryReader_selector_136 : decode b_QueryReader_selector 136 = .ok (.aload_n 2, 1) := by decide +kernel
theorem d_QueryReader_selector_137 : decode b_QueryReader_selector 137 = .ok (.iconst 1, 1) := by decide +kernel
theorem d_QueryReader_selector_138 : decode b_QueryReader_selector 138 = .ok (.putfield 137, 3) := by decide +kernel
theorem d_QueryReader_selector_141 : decode b_QueryReader_selector 141 = .ok (.aload_n 0, 1) := by decide +kernel
theorem d_QueryReader_selector_142 : decode b_QueryReader_selector 142 = .ok (.getfield 9, 3) := by decide +kernel
theorem d_QueryReader_selector_145 : decode b_QueryReader_selector 145 = .ok (.invokevirtual 39, 3) := by decide +kernel
theorem d_QueryReader_selector_148 : decode b_QueryReader_selector 148 = .ok (.iload_n 1, 1) := by decide +kernel
theorem d_QueryReader_selector_149 : decode b_QueryReader_selector 149 = .ok (.ifCond .ne 20, 3) := by decide +kernel
theorem d_QueryReader_selector_152 : decode b_QueryReader_selector 152 = .ok (.aload_n 0, 1) := by decide +kernel
theorem d_QueryReader_selector_153 : decode b_QueryReader_selector 153 = .ok (.getfield 9, 3) := by decide +kernel
theorem d_QueryReader_selector_156 : decode b_QueryReader_selector 156 = .ok (.invokevirtual 19, 3) := by decide +kernel
theorem d_QueryReader_selector_159 : decode b_QueryReader_selector 159 = .ok (.bipush 58, 2) := by decide +kernel
theorem d_QueryReader_selector_161 : decode b_QueryReader_selector 161 = .ok (.if_icmp .ne 8, 3) := by decide +kernel
theorem d_QueryReader_selector_164 : decode b_QueryReader_selector 164 = .ok (.aload_n 0, 1) := by decide +kernel
theorem d_QueryReader_selector_165 : decode b_QueryReader_selector 165 = .ok (.aload_n 2, 1) := by decide +kernel
theorem d_QueryReader_selector_166 : decode b_QueryReader_selector 166 = .ok (.invokevirtual 125, 3) := by decide +kernel
theorem d_QueryReader_selector_169 : decode b_QueryReader_selector 169 = .ok (.aload_n 0, 1) := by decide +kernel
theorem d_QueryReader_selector_170 : decode b_QueryReader_selector 170 = .ok (.getfield 9, 3) := by decide +kernel
theorem d_QueryReader_selector_173 : decode b_QueryReader_selector 173 = .ok (.invokevirtual 39, 3) := by decide +kernel
theorem d_QueryReader_selector_176 : decode b_QueryReader_selector 176 = .ok (.aload_n 2, 1) := by decide +kernel
theorem d_QueryReader_selector_177 : decode b_QueryReader_selector 177 = .ok (.areturn, 1) := by decide +kernel
abbrev b_QueryReader_selectors : ByteArray := prog_7_method_7_code
def y_QueryReader_selectors : MethodName := ⟨"QueryBench$QueryReader", "selectors", "(Z)LQueryBench$Selector;"⟩
abbrev k_QueryReader_selectors : Cond := .code y_QueryReader_selectors b_QueryReader_selectors 5 (some (.object "QueryBench$Selector"))
theorem i_QueryReader_selectors : k_QueryReader_selectors ∈ gtbl := gt_in 593 (by decide +kernel) (by decide +kernel)
theorem d_QueryReader_selectors_0 : decode b_QueryReader_selectors 0 = .ok (.aload_n 0, 1) := by decide +kernel
theorem d_QueryReader_selectors_1 : decode b_QueryReader_selectors 1 = .ok (.bipush 91, 2) := by decide +kernel
theorem d_QueryReader_selectors_3 : decode b_QueryReader_selectors 3 = .ok (.invokevirtual 95, 3) := by decide +kernel
theorem d_QueryReader_selectors_6 : decode b_QueryReader_selectors 6 = .ok (.aload_n 0, 1) := by decide +kernel
theorem d_QueryReader_selectors_7 : decode b_QueryReader_selectors 7 = .ok (.iload_n 1, 1) := by decide +kernel
theorem d_QueryReader_selectors_8 : decode b_QueryReader_selectors 8 = .ok (.invokevirtual 98, 3) := by decide +kernel
theorem d_QueryReader_selectors_11 : decode b_QueryReader_selectors 11 = .ok (.astore_n 2, 1) := by decide +kernel
theorem d_QueryReader_selectors_12 : decode b_QueryReader_selectors 12 = .ok (.aload_n 2, 1) := by decide +kernel
theorem d_QueryReader_selectors_13 : decode b_QueryReader_selectors 13 = .ok (.astore_n 3, 1) := by decide +kernel
theorem d_QueryReader_selectors_14 : decode b_QueryReader_selectors 14 = .ok (.iconst 0, 1) := by decide +kernel
theorem d_QueryReader_selectors_15 : decode b_QueryReader_selectors 15 = .ok (.istore 4, 2) := by decide +kernel
theorem d_QueryReader_selectors_17 : decode b_QueryReader_selectors 17 = .ok (.iload 4, 2) := by decide +kernel
theorem d_QueryReader_selectors_19 : decode b_QueryReader_selectors 19 = .ok (.sipush 4096, 3) := by decide +kernel
theorem d_QueryReader_selectors_22 : decode b_QueryReader_selectors 22 = .ok (.if_icmp .ge 39, 3) := by decide +kernel
theorem d_QueryReader_selectors_25 : decode b_QueryReader_selectors 25 = .ok (.iload_n 1, 1) := by decide +kernel
theorem d_QueryReader_selectors_26 : decode b_QueryReader_selectors 26 = .ok (.ifCond .ne 35, 3) := by decide +kernel
theorem d_QueryReader_selectors_29 : decode b_QueryReader_selectors 29 = .ok (.aload_n 0, 1) := by decide +kernel
theorem d_QueryReader_selectors_30 : decode b_QueryReader_selectors 30 = .ok (.getfield 9, 3) := by decide +kernel
theorem d_QueryReader_selectors_33 : decode b_QueryReader_selectors 33 = .ok (.bipush 44, 2) := by decide +kernel
theorem d_QueryReader_selectors_35 : decode b_QueryReader_selectors 35 = .ok (.invokevirtual 58, 3) := by decide +kernel
theorem d_QueryReader_selectors_38 : decode b_QueryReader_selectors 38 = .ok (.ifCond .eq 23, 3) := by decide +kernel
theorem d_QueryReader_selectors_41 : decode b_QueryReader_selectors 41 = .ok (.aload_n 3, 1) := by decide +kernel
theorem d_QueryReader_selectors_42 : decode b_QueryReader_selectors 42 = .ok (.aload_n 0, 1) := by decide +kernel
theorem d_QueryReader_selectors_43 : decode b_QueryReader_selectors 43 = .ok (.iload_n 1, 1) := by decide +kernel
theorem d_QueryReader_selectors_44 : decode b_QueryReader_selectors 44 = .ok (.invokevirtual 98, 3) := by decide +kernel
theorem d_QueryReader_selectors_47 : decode b_QueryReader_selectors 47 = .ok (.putfield 101, 3) := by decide +kernel
theorem d_QueryReader_selectors_50 : decode b_QueryReader_selectors 50 = .ok (.aload_n 3, 1) := by decide +kernel
theorem d_QueryReader_selectors_51 : decode b_QueryReader_selectors 51 = .ok (.getfield 101, 3) := by decide +kernel
theorem d_QueryReader_selectors_54 : decode b_QueryReader_selectors 54 = .ok (.astore_n 3, 1) := by decide +kernel
theorem d_QueryReader_selectors_55 : decode b_QueryReader_selectors 55 = .ok (.iinc 4 1, 3) := by decide +kernel
theorem d_QueryReader_selectors_58 : decode b_QueryReader_selectors 58 = .ok (.goto (-41), 3) := by decide +kernel
theorem d_QueryReader_selectors_61 : decode b_QueryReader_selectors 61 = .ok (.aload_n 0, 1) := by decide +kernel
theorem d_QueryReader_selectors_62 : decode b_QueryReader_selectors 62 = .ok (.bipush 93, 2) := by decide +kernel
theorem d_QueryReader_selectors_64 : decode b_QueryReader_selectors 64 = .ok (.invokevirtual 104, 3) := by decide +kernel
theorem d_QueryReader_selectors_67 : decode b_QueryReader_selectors 67 = .ok (.aload_n 2, 1) := by decide +kernel
theorem d_QueryReader_selectors_68 : decode b_QueryReader_selectors 68 = .ok (.areturn, 1) := by decide +kernel
abbrev b_QueryReader_segment : ByteArray := prog_7_method_4_code
def y_QueryReader_segment : MethodName := ⟨"QueryBench$QueryReader", "segment", "(Z)LQueryBench$Segment;"⟩
abbrev k_QueryReader_segment : Cond := .code y_QueryReader_segment b_QueryReader_segment 5 (some (.object "QueryBench$Segment"))
theorem i_QueryReader_segment : k_QueryReader_segment ∈ gtbl := gt_in 567 (by decide +kernel) (by decide +kernel)
theorem d_QueryReader_segment_0 : decode b_QueryReader_segment 0 = .ok (.new 55, 3) := by decide +kernel
theorem d_QueryReader_segment_3 : decode b_QueryReader_segment 3 = .ok (.dup, 1) := by decide +kernel
theorem d_QueryReader_segment_4 : decode b_QueryReader_segment 4 = .ok (.invokespecial 57, 3) := by decide +kernel
theorem d_QueryReader_segment_7 : decode b_QueryReader_segment 7 = .ok (.astore_n 2, 1) := by decide +kernel
theorem d_QueryReader_segment_8 : decode b_QueryReader_segment 8 = .ok (.aload_n 0, 1) := by decide +kernel
theorem d_QueryReader_segment_9 : decode b_QueryReader_segment 9 = .ok (.getfield 9, 3) := by decide +kernel
theorem d_QueryReader_segment_12 : decode b_QueryReader_segment 12 = .ok (.bipush 46, 2) := by decide +kernel
theorem d_QueryReader_segment_14 : decode b_QueryReader_segment 14 = .ok (.invokevirtual 58, 3) := by decide +kernel
theorem d_QueryReader_segment_17 : decode b_QueryReader_segment 17 = .ok (.istore_n 3, 1) := by decide +kernel
theorem d_QueryReader_segment_18 : decode b_QueryReader_segment 18 = .ok (.aload_n 2, 1) := by decide +kernel
theorem d_QueryReader_segment_19 : decode b_QueryReader_segment 19 = .ok (.iload_n 3, 1) := by decide +kernel
theorem d_QueryReader_segment_20 : decode b_QueryReader_segment 20 = .ok (.ifCond .eq 23, 3) := by decide +kernel
theorem d_QueryReader_segment_23 : decode b_QueryReader_segment 23 = .ok (.iload_n 1, 1) := by decide +kernel
theorem d_QueryReader_segment_24 : decode b_QueryReader_segment 24 = .ok (.ifCond .ne 19, 3) := by decide +kernel
theorem d_QueryReader_segment_27 : decode b_QueryReader_segment 27 = .ok (.aload_n 0, 1) := by decide +kernel
theorem d_QueryReader_segment_28 : decode b_QueryReader_segment 28 = .ok (.getfield 9, 3) := by decide +kernel
theorem d_QueryReader_segment_31 : decode b_QueryReader_segment 31 = .ok (.bipush 46, 2) := by decide +kernel
theorem d_QueryReader_segment_33 : decode b_QueryReader_segment 33 = .ok (.invokevirtual 58, 3) := by decide +kernel
theorem d_QueryReader_segment_36 : decode b_QueryReader_segment 36 = .ok (.ifCond .eq 7, 3) := by decide +kernel
theorem d_QueryReader_segment_39 : decode b_QueryReader_segment 39 = .ok (.iconst 1, 1) := by decide +kernel
theorem d_QueryReader_segment_40 : decode b_QueryReader_segment 40 = .ok (.goto 4, 3) := by decide +kernel
theorem d_QueryReader_segment_43 : decode b_QueryReader_segment 43 = .ok (.iconst 0, 1) := by decide +kernel
theorem d_QueryReader_segment_44 : decode b_QueryReader_segment 44 = .ok (.putfield 62, 3) := by decide +kernel
theorem d_QueryReader_segment_47 : decode b_QueryReader_segment 47 = .ok (.iload_n 3, 1) := by decide +kernel
theorem d_QueryReader_segment_48 : decode b_QueryReader_segment 48 = .ok (.ifCond .eq 22, 3) := by decide +kernel
theorem d_QueryReader_segment_51 : decode b_QueryReader_segment 51 = .ok (.aload_n 2, 1) := by decide +kernel
theorem d_QueryReader_segment_52 : decode b_QueryReader_segment 52 = .ok (.getfield 62, 3) := by decide +kernel
theorem d_QueryReader_segment_55 : decode b_QueryReader_segment 55 = .ok (.ifCond .eq 19, 3) := by decide +kernel
theorem d_QueryReader_segment_58 : decode b_QueryReader_segment 58 = .ok (.aload_n 0, 1) := by decide +kernel
theorem d_QueryReader_segment_59 : decode b_QueryReader_segment 59 = .ok (.getfield 9, 3) := by decide +kernel
theorem d_QueryReader_segment_62 : decode b_QueryReader_segment 62 = .ok (.invokevirtual 19, 3) := by decide +kernel
theorem d_QueryReader_segment_65 : decode b_QueryReader_segment 65 = .ok (.bipush 91, 2) := by decide +kernel
theorem d_QueryReader_segment_67 : decode b_QueryReader_segment 67 = .ok (.if_icmp .ne 7, 3) := by decide +kernel
theorem d_QueryReader_segment_70 : decode b_QueryReader_segment 70 = .ok (.iconst 1, 1) := by decide +kernel
theorem d_QueryReader_segment_71 : decode b_QueryReader_segment 71 = .ok (.goto 4, 3) := by decide +kernel
theorem d_QueryReader_segment_74 : decode b_QueryReader_segment 74 = .ok (.iconst 0, 1) := by decide +kernel
theorem d_QueryReader_segment_75 : decode b_QueryReader_segment 75 = .ok (.istore 4, 2) := by decide +kernel
theorem d_QueryReader_segment_77 : decode b_QueryReader_segment 77 = .ok (.aload_n 2, 1) := by decide +kernel
theorem d_QueryReader_segment_78 : decode b_QueryReader_segment 78 = .ok (.iload 4, 2) := by decide +kernel
theorem d_QueryReader_segment_80 : decode b_QueryReader_segment 80 = .ok (.ifCond .eq 11, 3) := by decide +kernel
theorem d_QueryReader_segment_83 : decode b_QueryReader_segment 83 = .ok (.aload_n 0, 1) := by decide +kernel
theorem d_QueryReader_segment_84 : decode b_QueryReader_segment 84 = .ok (.iload_n 1, 1) := by decide +kernel
theorem d_QueryReader_segment_85 : decode b_QueryReader_segment 85 = .ok (.invokevirtual 66, 3) := by decide +kernel
theorem d_QueryReader_segment_88 : decode b_QueryReader_segment 88 = .ok (.goto 8, 3) := by decide +kernel
theorem d_QueryReader_segment_91 : decode b_QueryReader_segment 91 = .ok (.aload_n 0, 1) := by decide +kernel
theorem d_QueryReader_segment_92 : decode b_QueryReader_segment 92 = .ok (.iload_n 1, 1) := by decide +kernel
theorem d_QueryReader_segment_93 : decode b_QueryReader_segment 93 = .ok (.invokevirtual 70, 3) := by decide +kernel
theorem d_QueryReader_segment_96 : decode b_QueryReader_segment 96 = .ok (.putfield 73, 3) := by decide +kernel
theorem d_QueryReader_segment_99 : decode b_QueryReader_segment 99 = .ok (.aload_n 2, 1) := by decide +kernel
theorem d_QueryReader_segment_100 : decode b_QueryReader_segment 100 = .ok (.areturn, 1) := by decide +kernel
abbrev b_QueryReader_query : ByteArray := prog_7_method_3_code
def y_QueryReader_query : MethodName := ⟨"QueryBench$QueryReader", "query", "(Z)LQueryBench$Query;"⟩
abbrev k_QueryReader_query : Cond := .code y_QueryReader_query b_QueryReader_query 5 (some (.object "QueryBench$Query"))
theorem i_QueryReader_query : k_QueryReader_query ∈ gtbl := gt_in 539 (by decide +kernel) (by decide +kernel)
theorem d_QueryReader_query_0 : decode b_QueryReader_query 0 = .ok (.new 42, 3) := by decide +kernel
theorem d_QueryReader_query_3 : decode b_QueryReader_query 3 = .ok (.dup, 1) := by decide +kernel
theorem d_QueryReader_query_4 : decode b_QueryReader_query 4 = .ok (.aload_n 0, 1) := by decide +kernel
theorem d_QueryReader_query_5 : decode b_QueryReader_query 5 = .ok (.getfield 9, 3) := by decide +kernel
theorem d_QueryReader_query_8 : decode b_QueryReader_query 8 = .ok (.invokevirtual 19, 3) := by decide +kernel
theorem d_QueryReader_query_11 : decode b_QueryReader_query 11 = .ok (.bipush 36, 2) := by decide +kernel
theorem d_QueryReader_query_13 : decode b_QueryReader_query 13 = .ok (.if_icmp .ne 7, 3) := by decide +kernel
theorem d_QueryReader_query_16 : decode b_QueryReader_query 16 = .ok (.iconst 1, 1) := by decide +kernel
theorem d_QueryReader_query_17 : decode b_QueryReader_query 17 = .ok (.goto 4, 3) := by decide +kernel
theorem d_QueryReader_query_20 : decode b_QueryReader_query 20 = .ok (.iconst 0, 1) := by decide +kernel
theorem d_QueryReader_query_21 : decode b_QueryReader_query 21 = .ok (.invokespecial 44, 3) := by decide +kernel
theorem d_QueryReader_query_24 : decode b_QueryReader_query 24 = .ok (.astore_n 2, 1) := by decide +kernel
theorem d_QueryReader_query_25 : decode b_QueryReader_query 25 = .ok (.aload_n 0, 1) := by decide +kernel
theorem d_QueryReader_query_26 : decode b_QueryReader_query 26 = .ok (.getfield 9, 3) := by decide +kernel
theorem d_QueryReader_query_29 : decode b_QueryReader_query 29 = .ok (.dup, 1) := by decide +kernel
theorem d_QueryReader_query_30 : decode b_QueryReader_query 30 = .ok (.getfield 25, 3) := by decide +kernel
theorem d_QueryReader_query_33 : decode b_QueryReader_query 33 = .ok (.iconst 1, 1) := by decide +kernel
theorem d_QueryReader_query_34 : decode b_QueryReader_query 34 = .ok (.iadd, 1) := by decide +kernel
theorem d_QueryReader_query_35 : decode b_QueryReader_query 35 = .ok (.putfield 25, 3) := by decide +kernel
theorem d_QueryReader_query_38 : decode b_QueryReader_query 38 = .ok (.iconst 0, 1) := by decide +kernel
theorem d_QueryReader_query_39 : decode b_QueryReader_query 39 = .ok (.istore_n 3, 1) := by decide +kernel
theorem d_QueryReader_query_40 : decode b_QueryReader_query 40 = .ok (.iload_n 3, 1) := by decide +kernel
theorem d_QueryReader_query_41 : decode b_QueryReader_query 41 = .ok (.sipush 4096, 3) := by decide +kernel
theorem d_QueryReader_query_44 : decode b_QueryReader_query 44 = .ok (.if_icmp .ge 69, 3) := by decide +kernel
theorem d_QueryReader_query_47 : decode b_QueryReader_query 47 = .ok (.aload_n 0, 1) := by decide +kernel
theorem d_QueryReader_query_48 : decode b_QueryReader_query 48 = .ok (.getfield 9, 3) := by decide +kernel
theorem d_QueryReader_query_51 : decode b_QueryReader_query 51 = .ok (.getfield 25, 3) := by decide +kernel
theorem d_QueryReader_query_54 : decode b_QueryReader_query 54 = .ok (.istore 4, 2) := by decide +kernel
theorem d_QueryReader_query_56 : decode b_QueryReader_query 56 = .ok (.aload_n 0, 1) := by decide +kernel
theorem d_QueryReader_query_57 : decode b_QueryReader_query 57 = .ok (.getfield 9, 3) := by decide +kernel
theorem d_QueryReader_query_60 : decode b_QueryReader_query 60 = .ok (.invokevirtual 39, 3) := by decide +kernel
theorem d_QueryReader_query_63 : decode b_QueryReader_query 63 = .ok (.aload_n 0, 1) := by decide +kernel
theorem d_QueryReader_query_64 : decode b_QueryReader_query 64 = .ok (.getfield 9, 3) := by decide +kernel
theorem d_QueryReader_query_67 : decode b_QueryReader_query 67 = .ok (.invokevirtual 19, 3) := by decide +kernel
theorem d_QueryReader_query_70 : decode b_QueryReader_query 70 = .ok (.bipush 46, 2) := by decide +kernel
theorem d_QueryReader_query_72 : decode b_QueryReader_query 72 = .ok (.if_icmp .eq 26, 3) := by decide +kernel
theorem d_QueryReader_query_75 : decode b_QueryReader_query 75 = .ok (.aload_n 0, 1) := by decide +kernel
theorem d_QueryReader_query_76 : decode b_QueryReader_query 76 = .ok (.getfield 9, 3) := by decide +kernel
theorem d_QueryReader_query_79 : decode b_QueryReader_query 79 = .ok (.invokevirtual 19, 3) := by decide +kernel
theorem d_QueryReader_query_82 : decode b_QueryReader_query 82 = .ok (.bipush 91, 2) := by decide +kernel
theorem d_QueryReader_query_84 : decode b_QueryReader_query 84 = .ok (.if_icmp .eq 14, 3) := by decide +kernel
theorem d_QueryReader_query_87 : decode b_QueryReader_query 87 = .ok (.aload_n 0, 1) := by decide +kernel
theorem d_QueryReader_query_88 : decode b_QueryReader_query 88 = .ok (.getfield 9, 3) := by decide +kernel
theorem d_QueryReader_query_91 : decode b_QueryReader_query 91 = .ok (.iload 4, 2) := by decide +kernel
theorem d_QueryReader_query_93 : decode b_QueryReader_query 93 = .ok (.putfield 25, 3) := by decide +kernel
theorem d_QueryReader_query_96 : decode b_QueryReader_query 96 = .ok (.aload_n 2, 1) := by decide +kernel
theorem d_QueryReader_query_97 : decode b_QueryReader_query 97 = .ok (.areturn, 1) := by decide +kernel
theorem d_QueryReader_query_98 : decode b_QueryReader_query 98 = .ok (.aload_n 2, 1) := by decide +kernel
theorem d_QueryReader_query_99 : decode b_QueryReader_query 99 = .ok (.aload_n 0, 1) := by decide +kernel
theorem d_QueryReader_query_100 : decode b_QueryReader_query 100 = .ok (.iload_n 1, 1) := by decide +kernel
theorem d_QueryReader_query_101 : decode b_QueryReader_query 101 = .ok (.invokevirtual 47, 3) := by decide +kernel
theorem d_QueryReader_query_104 : decode b_QueryReader_query 104 = .ok (.invokevirtual 51, 3) := by decide +kernel
theorem d_QueryReader_query_107 : decode b_QueryReader_query 107 = .ok (.iinc 3 1, 3) := by decide +kernel
theorem d_QueryReader_query_110 : decode b_QueryReader_query 110 = .ok (.goto (-70), 3) := by decide +kernel
abbrev b_QueryReader_anyQuery : ByteArray := prog_7_method_16_code
def y_QueryReader_anyQuery : MethodName := ⟨"QueryBench$QueryReader", "anyQuery", "()LQueryBench$Query;"⟩
abbrev k_QueryReader_anyQuery : Cond := .code y_QueryReader_anyQuery b_QueryReader_anyQuery 1 (some (.object "QueryBench$Query"))
theorem i_QueryReader_anyQuery : k_QueryReader_anyQuery ∈ gtbl := gt_in 712 (by decide +kernel) (by decide +kernel)
theorem d_QueryReader_anyQuery_0 : decode b_QueryReader_anyQuery 0 = .ok (.aload_n 0, 1) := by decide +kernel
theorem d_QueryReader_anyQuery_1 : decode b_QueryReader_anyQuery 1 = .ok (.getfield 9, 3) := by decide +kernel
theorem d_QueryReader_anyQuery_4 : decode b_QueryReader_anyQuery 4 = .ok (.invokevirtual 19, 3) := by decide +kernel
theorem d_QueryReader_anyQuery_7 : decode b_QueryReader_anyQuery 7 = .ok (.invokestatic 178, 3) := by decide +kernel
theorem d_QueryReader_anyQuery_10 : decode b_QueryReader_anyQuery 10 = .ok (.ifCond .ne 17, 3) := by decide +kernel
theorem d_QueryReader_anyQuery_13 : decode b_QueryReader_anyQuery 13 = .ok (.aload_n 0, 1) := by decide +kernel
theorem d_QueryReader_anyQuery_14 : decode b_QueryReader_anyQuery 14 = .ok (.getfield 9, 3) := by decide +kernel
theorem d_QueryReader_anyQuery_17 : decode b_QueryReader_anyQuery 17 = .ok (.aload_n 0, 1) := by decide +kernel
theorem d_QueryReader_anyQuery_18 : decode b_QueryReader_anyQuery 18 = .ok (.getfield 9, 3) := by decide +kernel
theorem d_QueryReader_anyQuery_21 : decode b_QueryReader_anyQuery 21 = .ok (.getfield 25, 3) := by decide +kernel
theorem d_QueryReader_anyQuery_24 : decode b_QueryReader_anyQuery 24 = .ok (.invokevirtual 28, 3) := by decide +kernel
theorem d_QueryReader_anyQuery_27 : decode b_QueryReader_anyQuery 27 = .ok (.aload_n 0, 1) := by decide +kernel
theorem d_QueryReader_anyQuery_28 : decode b_QueryReader_anyQuery 28 = .ok (.iconst 0, 1) := by decide +kernel
theorem d_QueryReader_anyQuery_29 : decode b_QueryReader_anyQuery 29 = .ok (.invokevirtual 32, 3) := by decide +kernel
theorem d_QueryReader_anyQuery_32 : decode b_QueryReader_anyQuery 32 = .ok (.areturn, 1) := by decide +kernel
abbrev b_QueryReader_written : ByteArray := prog_7_method_23_code
def y_QueryReader_written : MethodName := ⟨"QueryBench$QueryReader", "written", "()LQueryBench$Value;"⟩
abbrev k_QueryReader_written : Cond := .code y_QueryReader_written b_QueryReader_written 3 (some (.object "QueryBench$Value"))
theorem i_QueryReader_written : k_QueryReader_written ∈ gtbl := gt_in 772 (by decide +kernel) (by decide +kernel)
theorem d_QueryReader_written_0 : decode b_QueryReader_written 0 = .ok (.aload_n 0, 1) := by decide +kernel
theorem d_QueryReader_written_1 : decode b_QueryReader_written 1 = .ok (.getfield 9, 3) := by decide +kernel
theorem d_QueryReader_written_4 : decode b_QueryReader_written 4 = .ok (.invokevirtual 19, 3) := by decide +kernel
theorem d_QueryReader_written_7 : decode b_QueryReader_written 7 = .ok (.istore_n 1, 1) := by decide +kernel
theorem d_QueryReader_written_8 : decode b_QueryReader_written 8 = .ok (.iload_n 1, 1) := by decide +kernel
theorem d_QueryReader_written_9 : decode b_QueryReader_written 9 = .ok (.bipush 116, 2) := by decide +kernel
theorem d_QueryReader_written_11 : decode b_QueryReader_written 11 = .ok (.if_icmp .ne 21, 3) := by decide +kernel
theorem d_QueryReader_written_14 : decode b_QueryReader_written 14 = .ok (.aload_n 0, 1) := by decide +kernel
theorem d_QueryReader_written_15 : decode b_QueryReader_written 15 = .ok (.getfield 9, 3) := by decide +kernel
theorem d_QueryReader_written_18 : decode b_QueryReader_written 18 = .ok (.ldc 245, 2) := by decide +kernel
theorem d_QueryReader_written_20 : decode b_QueryReader_written 20 = .ok (.invokevirtual 238, 3) := by decide +kernel
theorem d_QueryReader_written_23 : decode b_QueryReader_written 23 = .ok (.new 223, 3) := by decide +kernel
theorem d_QueryReader_written_26 : decode b_QueryReader_written 26 = .ok (.dup, 1) := by decide +kernel
theorem d_QueryReader_written_27 : decode b_QueryReader_written 27 = .ok (.iconst 2, 1) := by decide +kernel
theorem d_QueryReader_written_28 : decode b_QueryReader_written 28 = .ok (.invokespecial 225, 3) := by decide +kernel
theorem d_QueryReader_written_31 : decode b_QueryReader_written 31 = .ok (.areturn, 1) := by decide +kernel
theorem d_QueryReader_written_32 : decode b_QueryReader_written 32 = .ok (.iload_n 1, 1) := by decide +kernel
theorem d_QueryReader_written_33 : decode b_QueryReader_written 33 = .ok (.bipush 102, 2) := by decide +kernel
theorem d_QueryReader_written_35 : decode b_QueryReader_written 35 = .ok (.if_icmp .ne 21, 3) := by decide +kernel
theorem d_QueryReader_written_38 : decode b_QueryReader_written 38 = .ok (.aload_n 0, 1) := by decide +kernel
theorem d_QueryReader_written_39 : decode b_QueryReader_written 39 = .ok (.getfield 9, 3) := by decide +kernel
theorem d_QueryReader_written_42 : decode b_QueryReader_written 42 = .ok (.ldc 247, 2) := by decide +kernel
theorem d_QueryReader_written_44 : decode b_QueryReader_written 44 = .ok (.invokevirtual 238, 3) := by decide +kernel
theorem d_QueryReader_written_47 : decode b_QueryReader_written 47 = .ok (.new 223, 3) := by decide +kernel
theorem d_QueryReader_written_50 : decode b_QueryReader_written 50 = .ok (.dup, 1) := by decide +kernel
theorem d_QueryReader_written_51 : decode b_QueryReader_written 51 = .ok (.iconst 1, 1) := by decide +kernel
theorem d_QueryReader_written_52 : decode b_QueryReader_written 52 = .ok (.invokespecial 225, 3) := by decide +kernel
theorem d_QueryReader_written_55 : decode b_QueryReader_written 55 = .ok (.areturn, 1) := by decide +kernel
theorem d_QueryReader_written_56 : decode b_QueryReader_written 56 = .ok (.iload_n 1, 1) := by decide +kernel
theorem d_QueryReader_written_57 : decode b_QueryReader_written 57 = .ok (.bipush 110, 2) := by decide +kernel
theorem d_QueryReader_written_59 : decode b_QueryReader_written 59 = .ok (.if_icmp .ne 21, 3) := by decide +kernel
theorem d_QueryReader_written_62 : decode b_QueryReader_written 62 = .ok (.aload_n 0, 1) := by decide +kernel
theorem d_QueryReader_written_63 : decode b_QueryReader_written 63 = .ok (.getfield 9, 3) := by decide +kernel
theorem d_QueryReader_written_66 : decode b_QueryReader_written 66 = .ok (.ldc 249, 2) := by decide +kernel
theorem d_QueryReader_written_68 : decode b_QueryReader_written 68 = .ok (.invokevirtual 238, 3) := by decide +kernel
theorem d_QueryReader_written_71 : decode b_QueryReader_written 71 = .ok (.new 223, 3) := by decide +kernel
theorem d_QueryReader_written_74 : decode b_QueryReader_written 74 = .ok (.dup, 1) := by decide +kernel
theorem d_QueryReader_written_75 : decode b_QueryReader_written 75 = .ok (.iconst 0, 1) := by decide +kernel
theorem d_QueryReader_written_76 : decode b_QueryReader_written 76 = .ok (.invokespecial 225, 3) := by decide +kernel
theorem d_QueryReader_written_79 : decode b_QueryReader_written 79 = .ok (.areturn, 1) := by decide +kernel
theorem d_QueryReader_written_80 : decode b_QueryReader_written 80 = .ok (.iload_n 1, 1) := by decide +kernel
theorem d_QueryReader_written_81 : decode b_QueryReader_written 81 = .ok (.invokestatic 107, 3) := by decide +kernel
theorem d_QueryReader_written_84 : decode b_QueryReader_written 84 = .ok (.ifCond .eq 25, 3) := by decide +kernel
theorem d_QueryReader_written_87 : decode b_QueryReader_written 87 = .ok (.new 223, 3) := by decide +kernel
theorem d_QueryReader_written_90 : decode b_QueryReader_written 90 = .ok (.dup, 1) := by decide +kernel
theorem d_QueryReader_written_91 : decode b_QueryReader_written 91 = .ok (.iconst 4, 1) := by decide +kernel
theorem d_QueryReader_written_92 : decode b_QueryReader_written 92 = .ok (.invokespecial 225, 3) := by decide +kernel
theorem d_QueryReader_written_95 : decode b_QueryReader_written 95 = .ok (.astore_n 2, 1) := by decide +kernel
theorem d_QueryReader_written_96 : decode b_QueryReader_written 96 = .ok (.aload_n 2, 1) := by decide +kernel
theorem d_QueryReader_written_97 : decode b_QueryReader_written 97 = .ok (.aload_n 0, 1) := by decide +kernel
theorem d_QueryReader_written_98 : decode b_QueryReader_written 98 = .ok (.getfield 9, 3) := by decide +kernel
theorem d_QueryReader_written_101 : decode b_QueryReader_written 101 = .ok (.invokevirtual 113, 3) := by decide +kernel
theorem d_QueryReader_written_104 : decode b_QueryReader_written 104 = .ok (.putfield 251, 3) := by decide +kernel
theorem d_QueryReader_written_107 : decode b_QueryReader_written 107 = .ok (.aload_n 2, 1) := by decide +kernel
theorem d_QueryReader_written_108 : decode b_QueryReader_written 108 = .ok (.areturn, 1) := by decide +kernel
theorem d_QueryReader_written_109 : decode b_QueryReader_written 109 = .ok (.new 223, 3) := by decide +kernel
theorem d_QueryReader_written_112 : decode b_QueryReader_written 112 = .ok (.dup, 1) := by decide +kernel
theorem d_QueryReader_written_113 : decode b_QueryReader_written 113 = .ok (.iconst 3, 1) := by decide +kernel
theorem d_QueryReader_written_114 : decode b_QueryReader_written 114 = .ok (.invokespecial 225, 3) := by decide +kernel
theorem d_QueryReader_written_117 : decode b_QueryReader_written 117 = .ok (.astore_n 2, 1) := by decide +kernel
theorem d_QueryReader_written_118 : decode b_QueryReader_written 118 = .ok (.aload_n 2, 1) := by decide +kernel
theorem d_QueryReader_written_119 : decode b_QueryReader_written 119 = .ok (.aload_n 0, 1) := by decide +kernel
theorem d_QueryReader_written_120 : decode b_QueryReader_written 120 = .ok (.invokevirtual 129, 3) := by decide +kernel
theorem d_QueryReader_written_123 : decode b_QueryReader_written 123 = .ok (.putfield 254, 3) := by decide +kernel
theorem d_QueryReader_written_126 : decode b_QueryReader_written 126 = .ok (.aload_n 2, 1) := by decide +kernel
theorem d_QueryReader_written_127 : decode b_QueryReader_written 127 = .ok (.areturn, 1) := by decide +kernel
abbrev b_QueryReader_lengthOperand : ByteArray := prog_7_method_21_code
def y_QueryReader_lengthOperand : MethodName := ⟨"QueryBench$QueryReader", "lengthOperand", "()LQueryBench$Operand;"⟩
abbrev k_QueryReader_lengthOperand : Cond := .code y_QueryReader_lengthOperand b_QueryReader_lengthOperand 2 (some (.object "QueryBench$Operand"))
theorem i_QueryReader_lengthOperand : k_QueryReader_lengthOperand ∈ gtbl := gt_in 758 (by decide +kernel) (by decide +kernel)
theorem d_QueryReader_lengthOperand_0 : decode b_QueryReader_lengthOperand 0 = .ok (.aload_n 0, 1) := by decide +kernel
theorem d_QueryReader_lengthOperand_1 : decode b_QueryReader_lengthOperand 1 = .ok (.getfield 9, 3) := by decide +kernel
theorem d_QueryReader_lengthOperand_4 : decode b_QueryReader_lengthOperand 4 = .ok (.ldc 236, 2) := by decide +kernel
theorem d_QueryReader_lengthOperand_6 : decode b_QueryReader_lengthOperand 6 = .ok (.invokevirtual 238, 3) := by decide +kernel
theorem d_QueryReader_lengthOperand_9 : decode b_QueryReader_lengthOperand 9 = .ok (.aload_n 0, 1) := by decide +kernel
theorem d_QueryReader_lengthOperand_10 : decode b_QueryReader_lengthOperand 10 = .ok (.bipush 40, 2) := by decide +kernel
theorem d_QueryReader_lengthOperand_12 : decode b_QueryReader_lengthOperand 12 = .ok (.invokevirtual 95, 3) := by decide +kernel
theorem d_QueryReader_lengthOperand_15 : decode b_QueryReader_lengthOperand 15 = .ok (.aload_n 0, 1) := by decide +kernel
theorem d_QueryReader_lengthOperand_16 : decode b_QueryReader_lengthOperand 16 = .ok (.getfield 9, 3) := by decide +kernel
theorem d_QueryReader_lengthOperand_19 : decode b_QueryReader_lengthOperand 19 = .ok (.invokevirtual 39, 3) := by decide +kernel
theorem d_QueryReader_lengthOperand_22 : decode b_QueryReader_lengthOperand 22 = .ok (.new 202, 3) := by decide +kernel
theorem d_QueryReader_lengthOperand_25 : decode b_QueryReader_lengthOperand 25 = .ok (.dup, 1) := by decide +kernel
theorem d_QueryReader_lengthOperand_26 : decode b_QueryReader_lengthOperand 26 = .ok (.iconst 3, 1) := by decide +kernel
theorem d_QueryReader_lengthOperand_27 : decode b_QueryReader_lengthOperand 27 = .ok (.new 223, 3) := by decide +kernel
theorem d_QueryReader_lengthOperand_30 : decode b_QueryReader_lengthOperand 30 = .ok (.dup, 1) := by decide +kernel
theorem d_QueryReader_lengthOperand_31 : decode b_QueryReader_lengthOperand 31 = .ok (.iconst 3, 1) := by decide +kernel
theorem d_QueryReader_lengthOperand_32 : decode b_QueryReader_lengthOperand 32 = .ok (.invokespecial 225, 3) := by decide +kernel
theorem d_QueryReader_lengthOperand_35 : decode b_QueryReader_lengthOperand 35 = .ok (.invokespecial 204, 3) := by decide +kernel
theorem d_QueryReader_lengthOperand_38 : decode b_QueryReader_lengthOperand 38 = .ok (.astore_n 1, 1) := by decide +kernel
theorem d_QueryReader_lengthOperand_39 : decode b_QueryReader_lengthOperand 39 = .ok (.aload_n 1, 1) := by decide +kernel
theorem d_QueryReader_lengthOperand_40 : decode b_QueryReader_lengthOperand 40 = .ok (.aload_n 0, 1) := by decide +kernel
theorem d_QueryReader_lengthOperand_41 : decode b_QueryReader_lengthOperand 41 = .ok (.invokevirtual 184, 3) := by decide +kernel
theorem d_QueryReader_lengthOperand_44 : decode b_QueryReader_lengthOperand 44 = .ok (.putfield 242, 3) := by decide +kernel
theorem d_QueryReader_lengthOperand_47 : decode b_QueryReader_lengthOperand 47 = .ok (.aload_n 0, 1) := by decide +kernel
theorem d_QueryReader_lengthOperand_48 : decode b_QueryReader_lengthOperand 48 = .ok (.getfield 9, 3) := by decide +kernel
theorem d_QueryReader_lengthOperand_51 : decode b_QueryReader_lengthOperand 51 = .ok (.invokevirtual 39, 3) := by decide +kernel
theorem d_QueryReader_lengthOperand_54 : decode b_QueryReader_lengthOperand 54 = .ok (.aload_n 0, 1) := by decide +kernel
theorem d_QueryReader_lengthOperand_55 : decode b_QueryReader_lengthOperand 55 = .ok (.bipush 41, 2) := by decide +kernel
theorem d_QueryReader_lengthOperand_57 : decode b_QueryReader_lengthOperand 57 = .ok (.invokevirtual 104, 3) := by decide +kernel
theorem d_QueryReader_lengthOperand_60 : decode b_QueryReader_lengthOperand 60 = .ok (.aload_n 1, 1) := by decide +kernel
theorem d_QueryReader_lengthOperand_61 : decode b_QueryReader_lengthOperand 61 = .ok (.areturn, 1) := by decide +kernel
abbrev b_QueryReader_operand : ByteArray := prog_7_method_20_code
def y_QueryReader_operand : MethodName := ⟨"QueryBench$QueryReader", "operand", "()LQueryBench$Operand;"⟩
abbrev k_QueryReader_operand : Cond := .code y_QueryReader_operand b_QueryReader_operand 3 (some (.object "QueryBench$Operand"))
theorem i_QueryReader_operand : k_QueryReader_operand ∈ gtbl := gt_in 754 (by decide +kernel) (by decide +kernel)
theorem d_QueryReader_operand_0 : decode b_QueryReader_operand 0 = .ok (.aload_n 0, 1) := by decide +kernel
theorem d_QueryReader_operand_1 : decode b_QueryReader_operand 1 = .ok (.getfield 9, 3) := by decide +kernel
theorem d_QueryReader_operand_4 : decode b_QueryReader_operand 4 = .ok (.invokevirtual 19, 3) := by decide +kernel
theorem d_QueryReader_operand_7 : decode b_QueryReader_operand 7 = .ok (.istore_n 1, 1) := by decide +kernel
theorem d_QueryReader_operand_8 : decode b_QueryReader_operand 8 = .ok (.iload_n 1, 1) := by decide +kernel
theorem d_QueryReader_operand_9 : decode b_QueryReader_operand 9 = .ok (.invokestatic 178, 3) := by decide +kernel
theorem d_QueryReader_operand_12 : decode b_QueryReader_operand 12 = .ok (.ifCond .eq 24, 3) := by decide +kernel
theorem d_QueryReader_operand_15 : decode b_QueryReader_operand 15 = .ok (.new 202, 3) := by decide +kernel
theorem d_QueryReader_operand_18 : decode b_QueryReader_operand 18 = .ok (.dup, 1) := by decide +kernel
theorem d_QueryReader_operand_19 : decode b_QueryReader_operand 19 = .ok (.iconst 1, 1) := by decide +kernel
theorem d_QueryReader_operand_20 : decode b_QueryReader_operand 20 = .ok (.aconst_null, 1) := by decide +kernel
theorem d_QueryReader_operand_21 : decode b_QueryReader_operand 21 = .ok (.invokespecial 204, 3) := by decide +kernel
theorem d_QueryReader_operand_24 : decode b_QueryReader_operand 24 = .ok (.astore_n 2, 1) := by decide +kernel
theorem d_QueryReader_operand_25 : decode b_QueryReader_operand 25 = .ok (.aload_n 2, 1) := by decide +kernel
theorem d_QueryReader_operand_26 : decode b_QueryReader_operand 26 = .ok (.aload_n 0, 1) := by decide +kernel
theorem d_QueryReader_operand_27 : decode b_QueryReader_operand 27 = .ok (.iconst 1, 1) := by decide +kernel
theorem d_QueryReader_operand_28 : decode b_QueryReader_operand 28 = .ok (.invokevirtual 32, 3) := by decide +kernel
theorem d_QueryReader_operand_31 : decode b_QueryReader_operand 31 = .ok (.putfield 207, 3) := by decide +kernel
theorem d_QueryReader_operand_34 : decode b_QueryReader_operand 34 = .ok (.aload_n 2, 1) := by decide +kernel
theorem d_QueryReader_operand_35 : decode b_QueryReader_operand 35 = .ok (.areturn, 1) := by decide +kernel
theorem d_QueryReader_operand_36 : decode b_QueryReader_operand 36 = .ok (.iload_n 1, 1) := by decide +kernel
theorem d_QueryReader_operand_37 : decode b_QueryReader_operand 37 = .ok (.lookupswitch 79 #[(99, 40), (108, 35), (118, 63)], 35) := by decide +kernel
theorem d_QueryReader_operand_72 : decode b_QueryReader_operand 72 = .ok (.aload_n 0, 1) := by decide +kernel
theorem d_QueryReader_operand_73 : decode b_QueryReader_operand 73 = .ok (.invokevirtual 218, 3) := by decide +kernel
theorem d_QueryReader_operand_76 : decode b_QueryReader_operand 76 = .ok (.areturn, 1) := by decide +kernel
theorem d_QueryReader_operand_77 : decode b_QueryReader_operand 77 = .ok (.aload_n 0, 1) := by decide +kernel
theorem d_QueryReader_operand_78 : decode b_QueryReader_operand 78 = .ok (.ldc 221, 2) := by decide +kernel
theorem d_QueryReader_operand_80 : decode b_QueryReader_operand 80 = .ok (.new 202, 3) := by decide +kernel
theorem d_QueryReader_operand_83 : decode b_QueryReader_operand 83 = .ok (.dup, 1) := by decide +kernel
theorem d_QueryReader_operand_84 : decode b_QueryReader_operand 84 = .ok (.iconst 2, 1) := by decide +kernel
theorem d_QueryReader_operand_85 : decode b_QueryReader_operand 85 = .ok (.new 223, 3) := by decide +kernel
theorem d_QueryReader_operand_88 : decode b_QueryReader_operand 88 = .ok (.dup, 1) := by decide +kernel
theorem d_QueryReader_operand_89 : decode b_QueryReader_operand 89 = .ok (.iconst 3, 1) := by decide +kernel
theorem d_QueryReader_operand_90 : decode b_QueryReader_operand 90 = .ok (.invokespecial 225, 3) := by decide +kernel
theorem d_QueryReader_operand_93 : decode b_QueryReader_operand 93 = .ok (.invokespecial 204, 3) := by decide +kernel
theorem d_QueryReader_operand_96 : decode b_QueryReader_operand 96 = .ok (.invokevirtual 226, 3) := by decide +kernel
theorem d_QueryReader_operand_99 : decode b_QueryReader_operand 99 = .ok (.areturn, 1) := by decide +kernel
theorem d_QueryReader_operand_100 : decode b_QueryReader_operand 100 = .ok (.aload_n 0, 1) := by decide +kernel
theorem d_QueryReader_operand_101 : decode b_QueryReader_operand 101 = .ok (.ldc 230, 2) := by decide +kernel
theorem d_QueryReader_operand_103 : decode b_QueryReader_operand 103 = .ok (.new 202, 3) := by decide +kernel
theorem d_QueryReader_operand_106 : decode b_QueryReader_operand 106 = .ok (.dup, 1) := by decide +kernel
theorem d_QueryReader_operand_107 : decode b_QueryReader_operand 107 = .ok (.iconst 1, 1) := by decide +kernel
theorem d_QueryReader_operand_108 : decode b_QueryReader_operand 108 = .ok (.aconst_null, 1) := by decide +kernel
theorem d_QueryReader_operand_109 : decode b_QueryReader_operand 109 = .ok (.invokespecial 204, 3) := by decide +kernel
theorem d_QueryReader_operand_112 : decode b_QueryReader_operand 112 = .ok (.invokevirtual 226, 3) := by decide +kernel
theorem d_QueryReader_operand_115 : decode b_QueryReader_operand 115 = .ok (.areturn, 1) := by decide +kernel
theorem d_QueryReader_operand_116 : decode b_QueryReader_operand 116 = .ok (.new 202, 3) := by decide +kernel
theorem d_QueryReader_operand_119 : decode b_QueryReader_operand 119 = .ok (.dup, 1) := by decide +kernel
theorem d_QueryReader_operand_120 : decode b_QueryReader_operand 120 = .ok (.iconst 0, 1) := by decide +kernel
theorem d_QueryReader_operand_121 : decode b_QueryReader_operand 121 = .ok (.aload_n 0, 1) := by decide +kernel
theorem d_QueryReader_operand_122 : decode b_QueryReader_operand 122 = .ok (.invokevirtual 232, 3) := by decide +kernel
theorem d_QueryReader_operand_125 : decode b_QueryReader_operand 125 = .ok (.invokespecial 204, 3) := by decide +kernel
theorem d_QueryReader_operand_128 : decode b_QueryReader_operand 128 = .ok (.areturn, 1) := by decide +kernel
abbrev b_QueryReader_testOrComparison : ByteArray := prog_7_method_17_code
def y_QueryReader_testOrComparison : MethodName := ⟨"QueryBench$QueryReader", "testOrComparison", "()LQueryBench$Condition;"⟩
abbrev k_QueryReader_testOrComparison : Cond := .code y_QueryReader_testOrComparison b_QueryReader_testOrComparison 4 (some (.object "QueryBench$Condition"))
theorem i_QueryReader_testOrComparison : k_QueryReader_testOrComparison ∈ gtbl := gt_in 719 (by decide +kernel) (by decide +kernel)
theorem d_QueryReader_testOrComparison_0 : decode b_QueryReader_testOrComparison 0 = .ok (.aload_n 0, 1) := by decide +kernel
theorem d_QueryReader_testOrComparison_1 : decode b_QueryReader_testOrComparison 1 = .ok (.iconst 0, 1) := by decide +kernel
theorem d_QueryReader_testOrComparison_2 : decode b_QueryReader_testOrComparison 2 = .ok (.invokevirtual 32, 3) := by decide +kernel
theorem d_QueryReader_testOrComparison_5 : decode b_QueryReader_testOrComparison 5 = .ok (.astore_n 1, 1) := by decide +kernel
theorem d_QueryReader_testOrComparison_6 : decode b_QueryReader_testOrComparison 6 = .ok (.aload_n 0, 1) := by decide +kernel
theorem d_QueryReader_testOrComparison_7 : decode b_QueryReader_testOrComparison 7 = .ok (.getfield 9, 3) := by decide +kernel
theorem d_QueryReader_testOrComparison_10 : decode b_QueryReader_testOrComparison 10 = .ok (.invokevirtual 39, 3) := by decide +kernel
theorem d_QueryReader_testOrComparison_13 : decode b_QueryReader_testOrComparison 13 = .ok (.aload_n 0, 1) := by decide +kernel
theorem d_QueryReader_testOrComparison_14 : decode b_QueryReader_testOrComparison 14 = .ok (.getfield 9, 3) := by decide +kernel
theorem d_QueryReader_testOrComparison_17 : decode b_QueryReader_testOrComparison 17 = .ok (.invokevirtual 19, 3) := by decide +kernel
theorem d_QueryReader_testOrComparison_20 : decode b_QueryReader_testOrComparison 20 = .ok (.istore_n 2, 1) := by decide +kernel
theorem d_QueryReader_testOrComparison_21 : decode b_QueryReader_testOrComparison 21 = .ok (.iload_n 2, 1) := by decide +kernel
theorem d_QueryReader_testOrComparison_22 : decode b_QueryReader_testOrComparison 22 = .ok (.bipush 61, 2) := by decide +kernel
theorem d_QueryReader_testOrComparison_24 : decode b_QueryReader_testOrComparison 24 = .ok (.if_icmp .eq 37, 3) := by decide +kernel
theorem d_QueryReader_testOrComparison_27 : decode b_QueryReader_testOrComparison 27 = .ok (.iload_n 2, 1) := by decide +kernel
theorem d_QueryReader_testOrComparison_28 : decode b_QueryReader_testOrComparison 28 = .ok (.bipush 33, 2) := by decide +kernel
theorem d_QueryReader_testOrComparison_30 : decode b_QueryReader_testOrComparison 30 = .ok (.if_icmp .eq 31, 3) := by decide +kernel
theorem d_QueryReader_testOrComparison_33 : decode b_QueryReader_testOrComparison 33 = .ok (.iload_n 2, 1) := by decide +kernel
theorem d_QueryReader_testOrComparison_34 : decode b_QueryReader_testOrComparison 34 = .ok (.bipush 60, 2) := by decide +kernel
theorem d_QueryReader_testOrComparison_36 : decode b_QueryReader_testOrComparison 36 = .ok (.if_icmp .eq 25, 3) := by decide +kernel
theorem d_QueryReader_testOrComparison_39 : decode b_QueryReader_testOrComparison 39 = .ok (.iload_n 2, 1) := by decide +kernel
theorem d_QueryReader_testOrComparison_40 : decode b_QueryReader_testOrComparison 40 = .ok (.bipush 62, 2) := by decide +kernel
theorem d_QueryReader_testOrComparison_42 : decode b_QueryReader_testOrComparison 42 = .ok (.if_icmp .eq 19, 3) := by decide +kernel
theorem d_QueryReader_testOrComparison_45 : decode b_QueryReader_testOrComparison 45 = .ok (.new 159, 3) := by decide +kernel
theorem d_QueryReader_testOrComparison_48 : decode b_QueryReader_testOrComparison 48 = .ok (.dup, 1) := by decide +kernel
theorem d_QueryReader_testOrComparison_49 : decode b_QueryReader_testOrComparison 49 = .ok (.iconst 3, 1) := by decide +kernel
theorem d_QueryReader_testOrComparison_50 : decode b_QueryReader_testOrComparison 50 = .ok (.invokespecial 161, 3) := by decide +kernel
theorem d_QueryReader_testOrComparison_53 : decode b_QueryReader_testOrComparison 53 = .ok (.astore_n 3, 1) := by decide +kernel
theorem d_QueryReader_testOrComparison_54 : decode b_QueryReader_testOrComparison 54 = .ok (.aload_n 3, 1) := by decide +kernel
theorem d_QueryReader_testOrComparison_55 : decode b_QueryReader_testOrComparison 55 = .ok (.aload_n 1, 1) := by decide +kernel
theorem d_QueryReader_testOrComparison_56 : decode b_QueryReader_testOrComparison 56 = .ok (.putfield 196, 3) := by decide +kernel
theorem d_QueryReader_testOrComparison_59 : decode b_QueryReader_testOrComparison 59 = .ok (.aload_n 3, 1) := by decide +kernel
theorem d_QueryReader_testOrComparison_60 : decode b_QueryReader_testOrComparison 60 = .ok (.areturn, 1) := by decide +kernel
theorem d_QueryReader_testOrComparison_61 : decode b_QueryReader_testOrComparison 61 = .ok (.aload_n 1, 1) := by decide +kernel
theorem d_QueryReader_testOrComparison_62 : decode b_QueryReader_testOrComparison 62 = .ok (.getfield 199, 3) := by decide +kernel
theorem d_QueryReader_testOrComparison_65 : decode b_QueryReader_testOrComparison 65 = .ok (.ifCond .ne 17, 3) := by decide +kernel
theorem d_QueryReader_testOrComparison_68 : decode b_QueryReader_testOrComparison 68 = .ok (.aload_n 0, 1) := by decide +kernel
theorem d_QueryReader_testOrComparison_69 : decode b_QueryReader_testOrComparison 69 = .ok (.getfield 9, 3) := by decide +kernel
theorem d_QueryReader_testOrComparison_72 : decode b_QueryReader_testOrComparison 72 = .ok (.aload_n 0, 1) := by decide +kernel
theorem d_QueryReader_testOrComparison_73 : decode b_QueryReader_testOrComparison 73 = .ok (.getfield 9, 3) := by decide +kernel
theorem d_QueryReader_testOrComparison_76 : decode b_QueryReader_testOrComparison 76 = .ok (.getfield 25, 3) := by decide +kernel
theorem d_QueryReader_testOrComparison_79 : decode b_QueryReader_testOrComparison 79 = .ok (.invokevirtual 28, 3) := by decide +kernel
theorem d_QueryReader_testOrComparison_82 : decode b_QueryReader_testOrComparison 82 = .ok (.new 202, 3) := by decide +kernel
theorem d_QueryReader_testOrComparison_85 : decode b_QueryReader_testOrComparison 85 = .ok (.dup, 1) := by decide +kernel
theorem d_QueryReader_testOrComparison_86 : decode b_QueryReader_testOrComparison 86 = .ok (.iconst 1, 1) := by decide +kernel
theorem d_QueryReader_testOrComparison_87 : decode b_QueryReader_testOrComparison 87 = .ok (.aconst_null, 1) := by decide +kernel
theorem d_QueryReader_testOrComparison_88 : decode b_QueryReader_testOrComparison 88 = .ok (.invokespecial 204, 3) := by decide +kernel
theorem d_QueryReader_testOrComparison_91 : decode b_QueryReader_testOrComparison 91 = .ok (.astore_n 3, 1) := by decide +kernel
theorem d_QueryReader_testOrComparison_92 : decode b_QueryReader_testOrComparison 92 = .ok (.aload_n 3, 1) := by decide +kernel
theorem d_QueryReader_testOrComparison_93 : decode b_QueryReader_testOrComparison 93 = .ok (.aload_n 1, 1) := by decide +kernel
theorem d_QueryReader_testOrComparison_94 : decode b_QueryReader_testOrComparison 94 = .ok (.putfield 207, 3) := by decide +kernel
theorem d_QueryReader_testOrComparison_97 : decode b_QueryReader_testOrComparison 97 = .ok (.aload_n 0, 1) := by decide +kernel
theorem d_QueryReader_testOrComparison_98 : decode b_QueryReader_testOrComparison 98 = .ok (.aload_n 3, 1) := by decide +kernel
theorem d_QueryReader_testOrComparison_99 : decode b_QueryReader_testOrComparison 99 = .ok (.invokevirtual 188, 3) := by decide +kernel
theorem d_QueryReader_testOrComparison_102 : decode b_QueryReader_testOrComparison 102 = .ok (.areturn, 1) := by decide +kernel
abbrev b_QueryReader_group : ByteArray := prog_7_method_15_code
def y_QueryReader_group : MethodName := ⟨"QueryBench$QueryReader", "group", "()LQueryBench$Condition;"⟩
abbrev k_QueryReader_group : Cond := .code y_QueryReader_group b_QueryReader_group 2 (some (.object "QueryBench$Condition"))
theorem i_QueryReader_group : k_QueryReader_group ∈ gtbl := gt_in 704 (by decide +kernel) (by decide +kernel)
theorem d_QueryReader_group_0 : decode b_QueryReader_group 0 = .ok (.aload_n 0, 1) := by decide +kernel
theorem d_QueryReader_group_1 : decode b_QueryReader_group 1 = .ok (.bipush 40, 2) := by decide +kernel
theorem d_QueryReader_group_3 : decode b_QueryReader_group 3 = .ok (.invokevirtual 95, 3) := by decide +kernel
theorem d_QueryReader_group_6 : decode b_QueryReader_group 6 = .ok (.aload_n 0, 1) := by decide +kernel
theorem d_QueryReader_group_7 : decode b_QueryReader_group 7 = .ok (.invokevirtual 117, 3) := by decide +kernel
theorem d_QueryReader_group_10 : decode b_QueryReader_group 10 = .ok (.astore_n 1, 1) := by decide +kernel
theorem d_QueryReader_group_11 : decode b_QueryReader_group 11 = .ok (.aload_n 0, 1) := by decide +kernel
theorem d_QueryReader_group_12 : decode b_QueryReader_group 12 = .ok (.bipush 41, 2) := by decide +kernel
theorem d_QueryReader_group_14 : decode b_QueryReader_group 14 = .ok (.invokevirtual 104, 3) := by decide +kernel
theorem d_QueryReader_group_17 : decode b_QueryReader_group 17 = .ok (.aload_n 1, 1) := by decide +kernel
theorem d_QueryReader_group_18 : decode b_QueryReader_group 18 = .ok (.areturn, 1) := by decide +kernel
abbrev b_QueryReader_negation : ByteArray := prog_7_method_14_code
def y_QueryReader_negation : MethodName := ⟨"QueryBench$QueryReader", "negation", "()LQueryBench$Condition;"⟩
abbrev k_QueryReader_negation : Cond := .code y_QueryReader_negation b_QueryReader_negation 2 (some (.object "QueryBench$Condition"))
theorem i_QueryReader_negation : k_QueryReader_negation ∈ gtbl := gt_in 669 (by decide +kernel) (by decide +kernel)
theorem d_QueryReader_negation_0 : decode b_QueryReader_negation 0 = .ok (.aload_n 0, 1) := by decide +kernel
theorem d_QueryReader_negation_1 : decode b_QueryReader_negation 1 = .ok (.getfield 9, 3) := by decide +kernel
theorem d_QueryReader_negation_4 : decode b_QueryReader_negation 4 = .ok (.dup, 1) := by decide +kernel
theorem d_QueryReader_negation_5 : decode b_QueryReader_negation 5 = .ok (.getfield 25, 3) := by decide +kernel
theorem d_QueryReader_negation_8 : decode b_QueryReader_negation 8 = .ok (.iconst 1, 1) := by decide +kernel
theorem d_QueryReader_negation_9 : decode b_QueryReader_negation 9 = .ok (.iadd, 1) := by decide +kernel
theorem d_QueryReader_negation_10 : decode b_QueryReader_negation 10 = .ok (.putfield 25, 3) := by decide +kernel
theorem d_QueryReader_negation_13 : decode b_QueryReader_negation 13 = .ok (.aload_n 0, 1) := by decide +kernel
theorem d_QueryReader_negation_14 : decode b_QueryReader_negation 14 = .ok (.getfield 9, 3) := by decide +kernel
theorem d_QueryReader_negation_17 : decode b_QueryReader_negation 17 = .ok (.invokevirtual 39, 3) := by decide +kernel
theorem d_QueryReader_negation_20 : decode b_QueryReader_negation 20 = .ok (.new 159, 3) := by decide +kernel
theorem d_QueryReader_negation_23 : decode b_QueryReader_negation 23 = .ok (.dup, 1) := by decide +kernel
theorem d_QueryReader_negation_24 : decode b_QueryReader_negation 24 = .ok (.iconst 2, 1) := by decide +kernel
theorem d_QueryReader_negation_25 : decode b_QueryReader_negation 25 = .ok (.invokespecial 161, 3) := by decide +kernel
theorem d_QueryReader_negation_28 : decode b_QueryReader_negation 28 = .ok (.astore_n 1, 1) := by decide +kernel
theorem d_QueryReader_negation_29 : decode b_QueryReader_negation 29 = .ok (.aload_n 0, 1) := by decide +kernel
theorem d_QueryReader_negation_30 : decode b_QueryReader_negation 30 = .ok (.getfield 9, 3) := by decide +kernel
theorem d_QueryReader_negation_33 : decode b_QueryReader_negation 33 = .ok (.invokevirtual 19, 3) := by decide +kernel
theorem d_QueryReader_negation_36 : decode b_QueryReader_negation 36 = .ok (.bipush 40, 2) := by decide +kernel
theorem d_QueryReader_negation_38 : decode b_QueryReader_negation 38 = .ok (.if_icmp .ne 14, 3) := by decide +kernel
theorem d_QueryReader_negation_41 : decode b_QueryReader_negation 41 = .ok (.aload_n 1, 1) := by decide +kernel
theorem d_QueryReader_negation_42 : decode b_QueryReader_negation 42 = .ok (.aload_n 0, 1) := by decide +kernel
theorem d_QueryReader_negation_43 : decode b_QueryReader_negation 43 = .ok (.invokevirtual 175, 3) := by decide +kernel
theorem d_QueryReader_negation_46 : decode b_QueryReader_negation 46 = .ok (.putfield 162, 3) := by decide +kernel
theorem d_QueryReader_negation_49 : decode b_QueryReader_negation 49 = .ok (.goto 26, 3) := by decide +kernel
theorem d_QueryReader_negation_52 : decode b_QueryReader_negation 52 = .ok (.aload_n 1, 1) := by decide +kernel
theorem d_QueryReader_negation_53 : decode b_QueryReader_negation 53 = .ok (.new 159, 3) := by decide +kernel
theorem d_QueryReader_negation_56 : decode b_QueryReader_negation 56 = .ok (.dup, 1) := by decide +kernel
theorem d_QueryReader_negation_57 : decode b_QueryReader_negation 57 = .ok (.iconst 3, 1) := by decide +kernel
theorem d_QueryReader_negation_58 : decode b_QueryReader_negation 58 = .ok (.invokespecial 161, 3) := by decide +kernel
theorem d_QueryReader_negation_61 : decode b_QueryReader_negation 61 = .ok (.putfield 162, 3) := by decide +kernel
theorem d_QueryReader_negation_64 : decode b_QueryReader_negation 64 = .ok (.aload_n 1, 1) := by decide +kernel
theorem d_QueryReader_negation_65 : decode b_QueryReader_negation 65 = .ok (.getfield 162, 3) := by decide +kernel
theorem d_QueryReader_negation_68 : decode b_QueryReader_negation 68 = .ok (.aload_n 0, 1) := by decide +kernel
theorem d_QueryReader_negation_69 : decode b_QueryReader_negation 69 = .ok (.invokevirtual 192, 3) := by decide +kernel
theorem d_QueryReader_negation_72 : decode b_QueryReader_negation 72 = .ok (.putfield 196, 3) := by decide +kernel
theorem d_QueryReader_negation_75 : decode b_QueryReader_negation 75 = .ok (.aload_n 1, 1) := by decide +kernel
theorem d_QueryReader_negation_76 : decode b_QueryReader_negation 76 = .ok (.areturn, 1) := by decide +kernel
abbrev b_QueryReader_basic : ByteArray := prog_7_method_13_code
def y_QueryReader_basic : MethodName := ⟨"QueryBench$QueryReader", "basic", "()LQueryBench$Condition;"⟩
abbrev k_QueryReader_basic : Cond := .code y_QueryReader_basic b_QueryReader_basic 3 (some (.object "QueryBench$Condition"))
theorem i_QueryReader_basic : k_QueryReader_basic ∈ gtbl := gt_in 665 (by decide +kernel) (by decide +kernel)
theorem d_QueryReader_basic_0 : decode b_QueryReader_basic 0 = .ok (.aload_n 0, 1) := by decide +kernel
theorem d_QueryReader_basic_1 : decode b_QueryReader_basic 1 = .ok (.getfield 9, 3) := by decide +kernel
theorem d_QueryReader_basic_4 : decode b_QueryReader_basic 4 = .ok (.invokevirtual 39, 3) := by decide +kernel
theorem d_QueryReader_basic_7 : decode b_QueryReader_basic 7 = .ok (.aload_n 0, 1) := by decide +kernel
theorem d_QueryReader_basic_8 : decode b_QueryReader_basic 8 = .ok (.getfield 9, 3) := by decide +kernel
theorem d_QueryReader_basic_11 : decode b_QueryReader_basic 11 = .ok (.invokevirtual 19, 3) := by decide +kernel
theorem d_QueryReader_basic_14 : decode b_QueryReader_basic 14 = .ok (.bipush 33, 2) := by decide +kernel
theorem d_QueryReader_basic_16 : decode b_QueryReader_basic 16 = .ok (.if_icmp .ne 11, 3) := by decide +kernel
theorem d_QueryReader_basic_19 : decode b_QueryReader_basic 19 = .ok (.aload_n 0, 1) := by decide +kernel
theorem d_QueryReader_basic_20 : decode b_QueryReader_basic 20 = .ok (.invokevirtual 172, 3) := by decide +kernel
theorem d_QueryReader_basic_23 : decode b_QueryReader_basic 23 = .ok (.astore_n 1, 1) := by decide +kernel
theorem d_QueryReader_basic_24 : decode b_QueryReader_basic 24 = .ok (.goto 62, 3) := by decide +kernel
theorem d_QueryReader_basic_27 : decode b_QueryReader_basic 27 = .ok (.aload_n 0, 1) := by decide +kernel
theorem d_QueryReader_basic_28 : decode b_QueryReader_basic 28 = .ok (.getfield 9, 3) := by decide +kernel
theorem d_QueryReader_basic_31 : decode b_QueryReader_basic 31 = .ok (.invokevirtual 19, 3) := by decide +kernel
theorem d_QueryReader_basic_34 : decode b_QueryReader_basic 34 = .ok (.bipush 40, 2) := by decide +kernel
theorem d_QueryReader_basic_36 : decode b_QueryReader_basic 36 = .ok (.if_icmp .ne 11, 3) := by decide +kernel
theorem d_QueryReader_basic_39 : decode b_QueryReader_basic 39 = .ok (.aload_n 0, 1) := by decide +kernel
theorem d_QueryReader_basic_40 : decode b_QueryReader_basic 40 = .ok (.invokevirtual 175, 3) := by decide +kernel
theorem d_QueryReader_basic_43 : decode b_QueryReader_basic 43 = .ok (.astore_n 1, 1) := by decide +kernel
theorem d_QueryReader_basic_44 : decode b_QueryReader_basic 44 = .ok (.goto 42, 3) := by decide +kernel
theorem d_QueryReader_basic_47 : decode b_QueryReader_basic 47 = .ok (.aload_n 0, 1) := by decide +kernel
theorem d_QueryReader_basic_48 : decode b_QueryReader_basic 48 = .ok (.getfield 9, 3) := by decide +kernel
theorem d_QueryReader_basic_51 : decode b_QueryReader_basic 51 = .ok (.invokevirtual 19, 3) := by decide +kernel
theorem d_QueryReader_basic_54 : decode b_QueryReader_basic 54 = .ok (.invokestatic 178, 3) := by decide +kernel
theorem d_QueryReader_basic_57 : decode b_QueryReader_basic 57 = .ok (.ifCond .eq 11, 3) := by decide +kernel
theorem d_QueryReader_basic_60 : decode b_QueryReader_basic 60 = .ok (.aload_n 0, 1) := by decide +kernel
theorem d_QueryReader_basic_61 : decode b_QueryReader_basic 61 = .ok (.invokevirtual 181, 3) := by decide +kernel
theorem d_QueryReader_basic_64 : decode b_QueryReader_basic 64 = .ok (.astore_n 1, 1) := by decide +kernel
theorem d_QueryReader_basic_65 : decode b_QueryReader_basic 65 = .ok (.goto 21, 3) := by decide +kernel
theorem d_QueryReader_basic_68 : decode b_QueryReader_basic 68 = .ok (.aload_n 0, 1) := by decide +kernel
theorem d_QueryReader_basic_69 : decode b_QueryReader_basic 69 = .ok (.invokevirtual 184, 3) := by decide +kernel
theorem d_QueryReader_basic_72 : decode b_QueryReader_basic 72 = .ok (.astore_n 2, 1) := by decide +kernel
theorem d_QueryReader_basic_73 : decode b_QueryReader_basic 73 = .ok (.aload_n 0, 1) := by decide +kernel
theorem d_QueryReader_basic_74 : decode b_QueryReader_basic 74 = .ok (.getfield 9, 3) := by decide +kernel
theorem d_QueryReader_basic_77 : decode b_QueryReader_basic 77 = .ok (.invokevirtual 39, 3) := by decide +kernel
theorem d_QueryReader_basic_80 : decode b_QueryReader_basic 80 = .ok (.aload_n 0, 1) := by decide +kernel
theorem d_QueryReader_basic_81 : decode b_QueryReader_basic 81 = .ok (.aload_n 2, 1) := by decide +kernel
theorem d_QueryReader_basic_82 : decode b_QueryReader_basic 82 = .ok (.invokevirtual 188, 3) := by decide +kernel
theorem d_QueryReader_basic_85 : decode b_QueryReader_basic 85 = .ok (.astore_n 1, 1) := by decide +kernel
theorem d_QueryReader_basic_86 : decode b_QueryReader_basic 86 = .ok (.aload_n 0, 1) := by decide +kernel
theorem d_QueryReader_basic_87 : decode b_QueryReader_basic 87 = .ok (.getfield 9, 3) := by decide +kernel
theorem d_QueryReader_basic_90 : decode b_QueryReader_basic 90 = .ok (.invokevirtual 39, 3) := by decide +kernel
theorem d_QueryReader_basic_93 : decode b_QueryReader_basic 93 = .ok (.aload_n 1, 1) := by decide +kernel
theorem d_QueryReader_basic_94 : decode b_QueryReader_basic 94 = .ok (.areturn, 1) := by decide +kernel
abbrev b_QueryReader_and : ByteArray := prog_7_method_12_code
def y_QueryReader_and : MethodName := ⟨"QueryBench$QueryReader", "and", "()LQueryBench$Condition;"⟩
abbrev k_QueryReader_and : Cond := .code y_QueryReader_and b_QueryReader_and 5 (some (.object "QueryBench$Condition"))
theorem i_QueryReader_and : k_QueryReader_and ∈ gtbl := gt_in 661 (by decide +kernel) (by decide +kernel)
theorem d_QueryReader_and_0 : decode b_QueryReader_and 0 = .ok (.aload_n 0, 1) := by decide +kernel
theorem d_QueryReader_and_1 : decode b_QueryReader_and 1 = .ok (.invokevirtual 169, 3) := by decide +kernel
theorem d_QueryReader_and_4 : decode b_QueryReader_and 4 = .ok (.astore_n 1, 1) := by decide +kernel
theorem d_QueryReader_and_5 : decode b_QueryReader_and 5 = .ok (.aload_n 0, 1) := by decide +kernel
theorem d_QueryReader_and_6 : decode b_QueryReader_and 6 = .ok (.getfield 9, 3) := by decide +kernel
theorem d_QueryReader_and_9 : decode b_QueryReader_and 9 = .ok (.invokevirtual 19, 3) := by decide +kernel
theorem d_QueryReader_and_12 : decode b_QueryReader_and 12 = .ok (.bipush 38, 2) := by decide +kernel
theorem d_QueryReader_and_14 : decode b_QueryReader_and 14 = .ok (.if_icmp .eq 5, 3) := by decide +kernel
theorem d_QueryReader_and_17 : decode b_QueryReader_and 17 = .ok (.aload_n 1, 1) := by decide +kernel
theorem d_QueryReader_and_18 : decode b_QueryReader_and 18 = .ok (.areturn, 1) := by decide +kernel
theorem d_QueryReader_and_19 : decode b_QueryReader_and 19 = .ok (.new 159, 3) := by decide +kernel
theorem d_QueryReader_and_22 : decode b_QueryReader_and 22 = .ok (.dup, 1) := by decide +kernel
theorem d_QueryReader_and_23 : decode b_QueryReader_and 23 = .ok (.iconst 1, 1) := by decide +kernel
theorem d_QueryReader_and_24 : decode b_QueryReader_and 24 = .ok (.invokespecial 161, 3) := by decide +kernel
theorem d_QueryReader_and_27 : decode b_QueryReader_and 27 = .ok (.astore_n 2, 1) := by decide +kernel
theorem d_QueryReader_and_28 : decode b_QueryReader_and 28 = .ok (.aload_n 2, 1) := by decide +kernel
theorem d_QueryReader_and_29 : decode b_QueryReader_and 29 = .ok (.aload_n 1, 1) := by decide +kernel
theorem d_QueryReader_and_30 : decode b_QueryReader_and 30 = .ok (.putfield 162, 3) := by decide +kernel
theorem d_QueryReader_and_33 : decode b_QueryReader_and 33 = .ok (.aload_n 1, 1) := by decide +kernel
theorem d_QueryReader_and_34 : decode b_QueryReader_and 34 = .ok (.astore_n 3, 1) := by decide +kernel
theorem d_QueryReader_and_35 : decode b_QueryReader_and 35 = .ok (.iconst 0, 1) := by decide +kernel
theorem d_QueryReader_and_36 : decode b_QueryReader_and 36 = .ok (.istore 4, 2) := by decide +kernel
theorem d_QueryReader_and_38 : decode b_QueryReader_and 38 = .ok (.iload 4, 2) := by decide +kernel
theorem d_QueryReader_and_40 : decode b_QueryReader_and 40 = .ok (.sipush 4096, 3) := by decide +kernel
theorem d_QueryReader_and_43 : decode b_QueryReader_and 43 = .ok (.if_icmp .ge 43, 3) := by decide +kernel
theorem d_QueryReader_and_46 : decode b_QueryReader_and 46 = .ok (.aload_n 0, 1) := by decide +kernel
theorem d_QueryReader_and_47 : decode b_QueryReader_and 47 = .ok (.getfield 9, 3) := by decide +kernel
theorem d_QueryReader_and_50 : decode b_QueryReader_and 50 = .ok (.bipush 38, 2) := by decide +kernel
theorem d_QueryReader_and_52 : decode b_QueryReader_and 52 = .ok (.invokevirtual 58, 3) := by decide +kernel
theorem d_QueryReader_and_55 : decode b_QueryReader_and 55 = .ok (.ifCond .eq 31, 3) := by decide +kernel
theorem d_QueryReader_and_58 : decode b_QueryReader_and 58 = .ok (.aload_n 0, 1) := by decide +kernel
theorem d_QueryReader_and_59 : decode b_QueryReader_and 59 = .ok (.getfield 9, 3) := by decide +kernel
theorem d_QueryReader_and_62 : decode b_QueryReader_and 62 = .ok (.bipush 38, 2) := by decide +kernel
theorem d_QueryReader_and_64 : decode b_QueryReader_and 64 = .ok (.invokevirtual 164, 3) := by decide +kernel
theorem d_QueryReader_and_67 : decode b_QueryReader_and 67 = .ok (.aload_n 3, 1) := by decide +kernel
theorem d_QueryReader_and_68 : decode b_QueryReader_and 68 = .ok (.aload_n 0, 1) := by decide +kernel
theorem d_QueryReader_and_69 : decode b_QueryReader_and 69 = .ok (.invokevirtual 169, 3) := by decide +kernel
theorem d_QueryReader_and_72 : decode b_QueryReader_and 72 = .ok (.putfield 167, 3) := by decide +kernel
theorem d_QueryReader_and_75 : decode b_QueryReader_and 75 = .ok (.aload_n 3, 1) := by decide +kernel
theorem d_QueryReader_and_76 : decode b_QueryReader_and 76 = .ok (.getfield 167, 3) := by decide +kernel
theorem d_QueryReader_and_79 : decode b_QueryReader_and 79 = .ok (.astore_n 3, 1) := by decide +kernel
theorem d_QueryReader_and_80 : decode b_QueryReader_and 80 = .ok (.iinc 4 1, 3) := by decide +kernel
theorem d_QueryReader_and_83 : decode b_QueryReader_and 83 = .ok (.goto (-45), 3) := by decide +kernel
theorem d_QueryReader_and_86 : decode b_QueryReader_and 86 = .ok (.aload_n 2, 1) := by decide +kernel
theorem d_QueryReader_and_87 : decode b_QueryReader_and 87 = .ok (.areturn, 1) := by decide +kernel
abbrev b_QueryReader_or : ByteArray := prog_7_method_11_code
def y_QueryReader_or : MethodName := ⟨"QueryBench$QueryReader", "or", "()LQueryBench$Condition;"⟩
abbrev k_QueryReader_or : Cond := .code y_QueryReader_or b_QueryReader_or 5 (some (.object "QueryBench$Condition"))
theorem i_QueryReader_or : k_QueryReader_or ∈ gtbl := gt_in 657 (by decide +kernel) (by decide +kernel)
theorem d_QueryReader_or_0 : decode b_QueryReader_or 0 = .ok (.aload_n 0, 1) := by decide +kernel
theorem d_QueryReader_or_1 : decode b_QueryReader_or 1 = .ok (.invokevirtual 156, 3) := by decide +kernel
theorem d_QueryReader_or_4 : decode b_QueryReader_or 4 = .ok (.astore_n 1, 1) := by decide +kernel
theorem d_QueryReader_or_5 : decode b_QueryReader_or 5 = .ok (.aload_n 0, 1) := by decide +kernel
theorem d_QueryReader_or_6 : decode b_QueryReader_or 6 = .ok (.getfield 9, 3) := by decide +kernel
theorem d_QueryReader_or_9 : decode b_QueryReader_or 9 = .ok (.invokevirtual 19, 3) := by decide +kernel
theorem d_QueryReader_or_12 : decode b_QueryReader_or 12 = .ok (.bipush 124, 2) := by decide +kernel
theorem d_QueryReader_or_14 : decode b_QueryReader_or 14 = .ok (.if_icmp .eq 5, 3) := by decide +kernel
theorem d_QueryReader_or_17 : decode b_QueryReader_or 17 = .ok (.aload_n 1, 1) := by decide +kernel
theorem d_QueryReader_or_18 : decode b_QueryReader_or 18 = .ok (.areturn, 1) := by decide +kernel
theorem d_QueryReader_or_19 : decode b_QueryReader_or 19 = .ok (.new 159, 3) := by decide +kernel
theorem d_QueryReader_or_22 : decode b_QueryReader_or 22 = .ok (.dup, 1) := by decide +kernel
theorem d_QueryReader_or_23 : decode b_QueryReader_or 23 = .ok (.iconst 0, 1) := by decide +kernel
theorem d_QueryReader_or_24 : decode b_QueryReader_or 24 = .ok (.invokespecial 161, 3) := by decide +kernel
theorem d_QueryReader_or_27 : decode b_QueryReader_or 27 = .ok (.astore_n 2, 1) := by decide +kernel
theorem d_QueryReader_or_28 : decode b_QueryReader_or 28 = .ok (.aload_n 2, 1) := by decide +kernel
theorem d_QueryReader_or_29 : decode b_QueryReader_or 29 = .ok (.aload_n 1, 1) := by decide +kernel
theorem d_QueryReader_or_30 : decode b_QueryReader_or 30 = .ok (.putfield 162, 3) := by decide +kernel
theorem d_QueryReader_or_33 : decode b_QueryReader_or 33 = .ok (.aload_n 1, 1) := by decide +kernel
theorem d_QueryReader_or_34 : decode b_QueryReader_or 34 = .ok (.astore_n 3, 1) := by decide +kernel
theorem d_QueryReader_or_35 : decode b_QueryReader_or 35 = .ok (.iconst 0, 1) := by decide +kernel
theorem d_QueryReader_or_36 : decode b_QueryReader_or 36 = .ok (.istore 4, 2) := by decide +kernel
theorem d_QueryReader_or_38 : decode b_QueryReader_or 38 = .ok (.iload 4, 2) := by decide +kernel
theorem d_QueryReader_or_40 : decode b_QueryReader_or 40 = .ok (.sipush 4096, 3) := by decide +kernel
theorem d_QueryReader_or_43 : decode b_QueryReader_or 43 = .ok (.if_icmp .ge 43, 3) := by decide +kernel
theorem d_QueryReader_or_46 : decode b_QueryReader_or 46 = .ok (.aload_n 0, 1) := by decide +kernel
theorem d_QueryReader_or_47 : decode b_QueryReader_or 47 = .ok (.getfield 9, 3) := by decide +kernel
theorem d_QueryReader_or_50 : decode b_QueryReader_or 50 = .ok (.bipush 124, 2) := by decide +kernel
theorem d_QueryReader_or_52 : decode b_QueryReader_or 52 = .ok (.invokevirtual 58, 3) := by decide +kernel
theorem d_QueryReader_or_55 : decode b_QueryReader_or 55 = .ok (.ifCond .eq 31, 3) := by decide +kernel
theorem d_QueryReader_or_58 : decode b_QueryReader_or 58 = .ok (.aload_n 0, 1) := by decide +kernel
theorem d_QueryReader_or_59 : decode b_QueryReader_or 59 = .ok (.getfield 9, 3) := by decide +kernel
theorem d_QueryReader_or_62 : decode b_QueryReader_or 62 = .ok (.bipush 124, 2) := by decide +kernel
theorem d_QueryReader_or_64 : decode b_QueryReader_or 64 = .ok (.invokevirtual 164, 3) := by decide +kernel
theorem d_QueryReader_or_67 : decode b_QueryReader_or 67 = .ok (.aload_n 3, 1) := by decide +kernel
theorem d_QueryReader_or_68 : decode b_QueryReader_or 68 = .ok (.aload_n 0, 1) := by decide +kernel
theorem d_QueryReader_or_69 : decode b_QueryReader_or 69 = .ok (.invokevirtual 156, 3) := by decide +kernel
theorem d_QueryReader_or_72 : decode b_QueryReader_or 72 = .ok (.putfield 167, 3) := by decide +kernel
theorem d_QueryReader_or_75 : decode b_QueryReader_or 75 = .ok (.aload_n 3, 1) := by decide +kernel
theorem d_QueryReader_or_76 : decode b_QueryReader_or 76 = .ok (.getfield 167, 3) := by decide +kernel
theorem d_QueryReader_or_79 : decode b_QueryReader_or 79 = .ok (.astore_n 3, 1) := by decide +kernel
theorem d_QueryReader_or_80 : decode b_QueryReader_or 80 = .ok (.iinc 4 1, 3) := by decide +kernel
theorem d_QueryReader_or_83 : decode b_QueryReader_or 83 = .ok (.goto (-45), 3) := by decide +kernel
theorem d_QueryReader_or_86 : decode b_QueryReader_or 86 = .ok (.aload_n 2, 1) := by decide +kernel
theorem d_QueryReader_or_87 : decode b_QueryReader_or 87 = .ok (.areturn, 1) := by decide +kernel
abbrev b_QueryReader_queryOperand : ByteArray := prog_7_method_22_code
def y_QueryReader_queryOperand : MethodName := ⟨"QueryBench$QueryReader", "queryOperand", "(Ljava/lang/String;LQueryBench$Operand;)LQueryBench$Operand;"⟩
abbrev k_QueryReader_queryOperand : Cond := .code y_QueryReader_queryOperand b_QueryReader_queryOperand 3 (some (.object "QueryBench$Operand"))
theorem i_QueryReader_queryOperand : k_QueryReader_queryOperand ∈ gtbl := gt_in 767 (by decide +kernel) (by decide +kernel)
theorem d_QueryReader_queryOperand_0 : decode b_QueryReader_queryOperand 0 = .ok (.aload_n 0, 1) := by decide +kernel
theorem d_QueryReader_queryOperand_1 : decode b_QueryReader_queryOperand 1 = .ok (.getfield 9, 3) := by decide +kernel
theorem d_QueryReader_queryOperand_4 : decode b_QueryReader_queryOperand 4 = .ok (.aload_n 1, 1) := by decide +kernel
theorem d_QueryReader_queryOperand_5 : decode b_QueryReader_queryOperand 5 = .ok (.invokevirtual 238, 3) := by decide +kernel
theorem d_QueryReader_queryOperand_8 : decode b_QueryReader_queryOperand 8 = .ok (.aload_n 0, 1) := by decide +kernel
theorem d_QueryReader_queryOperand_9 : decode b_QueryReader_queryOperand 9 = .ok (.bipush 40, 2) := by decide +kernel
theorem d_QueryReader_queryOperand_11 : decode b_QueryReader_queryOperand 11 = .ok (.invokevirtual 95, 3) := by decide +kernel
theorem d_QueryReader_queryOperand_14 : decode b_QueryReader_queryOperand 14 = .ok (.aload_n 0, 1) := by decide +kernel
theorem d_QueryReader_queryOperand_15 : decode b_QueryReader_queryOperand 15 = .ok (.getfield 9, 3) := by decide +kernel
theorem d_QueryReader_queryOperand_18 : decode b_QueryReader_queryOperand 18 = .ok (.invokevirtual 39, 3) := by decide +kernel
theorem d_QueryReader_queryOperand_21 : decode b_QueryReader_queryOperand 21 = .ok (.aload_n 2, 1) := by decide +kernel
theorem d_QueryReader_queryOperand_22 : decode b_QueryReader_queryOperand 22 = .ok (.aload_n 0, 1) := by decide +kernel
theorem d_QueryReader_queryOperand_23 : decode b_QueryReader_queryOperand 23 = .ok (.invokevirtual 192, 3) := by decide +kernel
theorem d_QueryReader_queryOperand_26 : decode b_QueryReader_queryOperand 26 = .ok (.putfield 207, 3) := by decide +kernel
theorem d_QueryReader_queryOperand_29 : decode b_QueryReader_queryOperand 29 = .ok (.aload_n 0, 1) := by decide +kernel
theorem d_QueryReader_queryOperand_30 : decode b_QueryReader_queryOperand 30 = .ok (.getfield 9, 3) := by decide +kernel
theorem d_QueryReader_queryOperand_33 : decode b_QueryReader_queryOperand 33 = .ok (.invokevirtual 39, 3) := by decide +kernel
theorem d_QueryReader_queryOperand_36 : decode b_QueryReader_queryOperand 36 = .ok (.aload_n 0, 1) := by decide +kernel
theorem d_QueryReader_queryOperand_37 : decode b_QueryReader_queryOperand 37 = .ok (.bipush 41, 2) := by decide +kernel
theorem d_QueryReader_queryOperand_39 : decode b_QueryReader_queryOperand 39 = .ok (.invokevirtual 104, 3) := by decide +kernel
theorem d_QueryReader_queryOperand_42 : decode b_QueryReader_queryOperand 42 = .ok (.aload_n 2, 1) := by decide +kernel
theorem d_QueryReader_queryOperand_43 : decode b_QueryReader_queryOperand 43 = .ok (.areturn, 1) := by decide +kernel
abbrev b_QueryReader_comparison : ByteArray := prog_7_method_18_code
def y_QueryReader_comparison : MethodName := ⟨"QueryBench$QueryReader", "comparison", "(LQueryBench$Operand;)LQueryBench$Condition;"⟩
abbrev k_QueryReader_comparison : Cond := .code y_QueryReader_comparison b_QueryReader_comparison 3 (some (.object "QueryBench$Condition"))
theorem i_QueryReader_comparison : k_QueryReader_comparison ∈ gtbl := gt_in 746 (by decide +kernel) (by decide +kernel)
theorem d_QueryReader_comparison_0 : decode b_QueryReader_comparison 0 = .ok (.new 159, 3) := by decide +kernel
theorem d_QueryReader_comparison_3 : decode b_QueryReader_comparison 3 = .ok (.dup, 1) := by decide +kernel
theorem d_QueryReader_comparison_4 : decode b_QueryReader_comparison 4 = .ok (.aload_n 0, 1) := by decide +kernel
theorem d_QueryReader_comparison_5 : decode b_QueryReader_comparison 5 = .ok (.invokevirtual 208, 3) := by decide +kernel
theorem d_QueryReader_comparison_8 : decode b_QueryReader_comparison 8 = .ok (.invokespecial 161, 3) := by decide +kernel
theorem d_QueryReader_comparison_11 : decode b_QueryReader_comparison 11 = .ok (.astore_n 2, 1) := by decide +kernel
theorem d_QueryReader_comparison_12 : decode b_QueryReader_comparison 12 = .ok (.aload_n 0, 1) := by decide +kernel
theorem d_QueryReader_comparison_13 : decode b_QueryReader_comparison 13 = .ok (.getfield 9, 3) := by decide +kernel
theorem d_QueryReader_comparison_16 : decode b_QueryReader_comparison 16 = .ok (.invokevirtual 39, 3) := by decide +kernel
theorem d_QueryReader_comparison_19 : decode b_QueryReader_comparison 19 = .ok (.aload_n 2, 1) := by decide +kernel
theorem d_QueryReader_comparison_20 : decode b_QueryReader_comparison 20 = .ok (.aload_n 1, 1) := by decide +kernel
theorem d_QueryReader_comparison_21 : decode b_QueryReader_comparison 21 = .ok (.putfield 211, 3) := by decide +kernel
theorem d_QueryReader_comparison_24 : decode b_QueryReader_comparison 24 = .ok (.aload_n 2, 1) := by decide +kernel
theorem d_QueryReader_comparison_25 : decode b_QueryReader_comparison 25 = .ok (.aload_n 0, 1) := by decide +kernel
theorem d_QueryReader_comparison_26 : decode b_QueryReader_comparison 26 = .ok (.invokevirtual 184, 3) := by decide +kernel
theorem d_QueryReader_comparison_29 : decode b_QueryReader_comparison 29 = .ok (.putfield 215, 3) := by decide +kernel
theorem d_QueryReader_comparison_32 : decode b_QueryReader_comparison 32 = .ok (.aload_n 2, 1) := by decide +kernel
theorem d_QueryReader_comparison_33 : decode b_QueryReader_comparison 33 = .ok (.areturn, 1) := by decide +kernel
abbrev b_QueryReader_whole : ByteArray := prog_7_method_2_code
def y_QueryReader_whole : MethodName := ⟨"QueryBench$QueryReader", "whole", "()LQueryBench$Query;"⟩
abbrev k_QueryReader_whole : Cond := .code y_QueryReader_whole b_QueryReader_whole 2 (some (.object "QueryBench$Query"))
theorem i_QueryReader_whole : k_QueryReader_whole ∈ gtbl := gt_in 533 (by decide +kernel) (by decide +kernel)
theorem d_QueryReader_whole_0 : decode b_QueryReader_whole 0 = .ok (.aload_n 0, 1) := by decide +kernel
theorem d_QueryReader_whole_1 : decode b_QueryReader_whole 1 = .ok (.iconst 0, 1) := by decide +kernel
theorem d_QueryReader_whole_2 : decode b_QueryReader_whole 2 = .ok (.putfield 15, 3) := by decide +kernel
theorem d_QueryReader_whole_5 : decode b_QueryReader_whole 5 = .ok (.aload_n 0, 1) := by decide +kernel
theorem d_QueryReader_whole_6 : decode b_QueryReader_whole 6 = .ok (.getfield 9, 3) := by decide +kernel
theorem d_QueryReader_whole_9 : decode b_QueryReader_whole 9 = .ok (.invokevirtual 19, 3) := by decide +kernel
theorem d_QueryReader_whole_12 : decode b_QueryReader_whole 12 = .ok (.bipush 36, 2) := by decide +kernel
theorem d_QueryReader_whole_14 : decode b_QueryReader_whole 14 = .ok (.if_icmp .eq 17, 3) := by decide +kernel
theorem d_QueryReader_whole_17 : decode b_QueryReader_whole 17 = .ok (.aload_n 0, 1) := by decide +kernel
theorem d_QueryReader_whole_18 : decode b_QueryReader_whole 18 = .ok (.getfield 9, 3) := by decide +kernel
theorem d_QueryReader_whole_21 : decode b_QueryReader_whole 21 = .ok (.aload_n 0, 1) := by decide +kernel
theorem d_QueryReader_whole_22 : decode b_QueryReader_whole 22 = .ok (.getfield 9, 3) := by decide +kernel
theorem d_QueryReader_whole_25 : decode b_QueryReader_whole 25 = .ok (.getfield 25, 3) := by decide +kernel
theorem d_QueryReader_whole_28 : decode b_QueryReader_whole 28 = .ok (.invokevirtual 28, 3) := by decide +kernel
theorem d_QueryReader_whole_31 : decode b_QueryReader_whole 31 = .ok (.aload_n 0, 1) := by decide +kernel
theorem d_QueryReader_whole_32 : decode b_QueryReader_whole 32 = .ok (.iconst 0, 1) := by decide +kernel
theorem d_QueryReader_whole_33 : decode b_QueryReader_whole 33 = .ok (.invokevirtual 32, 3) := by decide +kernel
theorem d_QueryReader_whole_36 : decode b_QueryReader_whole 36 = .ok (.astore_n 1, 1) := by decide +kernel
theorem d_QueryReader_whole_37 : decode b_QueryReader_whole 37 = .ok (.aload_n 0, 1) := by decide +kernel
theorem d_QueryReader_whole_38 : decode b_QueryReader_whole 38 = .ok (.getfield 9, 3) := by decide +kernel
theorem d_QueryReader_whole_41 : decode b_QueryReader_whole 41 = .ok (.getfield 25, 3) := by decide +kernel
theorem d_QueryReader_whole_44 : decode b_QueryReader_whole 44 = .ok (.aload_n 0, 1) := by decide +kernel
theorem d_QueryReader_whole_45 : decode b_QueryReader_whole 45 = .ok (.getfield 9, 3) := by decide +kernel
theorem d_QueryReader_whole_48 : decode b_QueryReader_whole 48 = .ok (.getfield 36, 3) := by decide +kernel
theorem d_QueryReader_whole_51 : decode b_QueryReader_whole 51 = .ok (.if_icmp .ge 24, 3) := by decide +kernel
theorem d_QueryReader_whole_54 : decode b_QueryReader_whole 54 = .ok (.aload_n 0, 1) := by decide +kernel
theorem d_QueryReader_whole_55 : decode b_QueryReader_whole 55 = .ok (.getfield 9, 3) := by decide +kernel
theorem d_QueryReader_whole_58 : decode b_QueryReader_whole 58 = .ok (.invokevirtual 39, 3) := by decide +kernel
theorem d_QueryReader_whole_61 : decode b_QueryReader_whole 61 = .ok (.aload_n 0, 1) := by decide +kernel
theorem d_QueryReader_whole_62 : decode b_QueryReader_whole 62 = .ok (.getfield 9, 3) := by decide +kernel
theorem d_QueryReader_whole_65 : decode b_QueryReader_whole 65 = .ok (.aload_n 0, 1) := by decide +kernel
theorem d_QueryReader_whole_66 : decode b_QueryReader_whole 66 = .ok (.getfield 9, 3) := by decide +kernel
theorem d_QueryReader_whole_69 : decode b_QueryReader_whole 69 = .ok (.getfield 25, 3) := by decide +kernel
theorem d_QueryReader_whole_72 : decode b_QueryReader_whole 72 = .ok (.invokevirtual 28, 3) := by decide +kernel
theorem d_QueryReader_whole_75 : decode b_QueryReader_whole 75 = .ok (.aload_n 1, 1) := by decide +kernel
theorem d_QueryReader_whole_76 : decode b_QueryReader_whole 76 = .ok (.areturn, 1) := by decide +kernel
set_option maxHeartbeats 4000000 in
set_option maxRecDepth 100000 in
/-- QueryReader.selectors -/
theorem c_QR_selectors (l : Launch) (hl9 : l.stackTraces = false) (K : Nat → Nat × Nat) (dC : Nat → ClassId) (dI : Nat → Nat → Nat) (cI cV : ClassId) (cB : ClassId) (h0 qb qu : Nat) (ln : Int32) (bf : Nat → Int32) (n qr : Nat) (hn0 : n ≤ 4096) (hbf : byR bf) (o : Nat) (ho : o ≤ 16) (ok : Bool) (orL : Nat → Option (Nat × CT)) (cmL : Nat → Option (Nat × OT)) (qyL : Nat → Option (Nat × Bool × QT)) (hok : ok = true ↔ o < 16) (HS : o < 16 → ∀ nw : Int32, QCT l K dC dI cI cV cB h0 qb qu ln bf n qr y_QueryReader_selector (k_QueryReader_selector :: gtbl) [.ref qr, .int nw] ((o + 1)) (12 * (16 - (o + 1)) + 22) (360 * (16 - (o + 1)) + 660) 13 150 2 0 10 0 9 (5 * (16 - (o + 1)) + 5) 0 0 (OKe LD 8 (selD bf n orL (nwB nw)) sgLs) (NOd (selD bf n orL (nwB nw)))) (nw : Int32) : QCT l K dC dI cI cV cB h0 qb qu ln bf n qr y_QueryReader_selectors (k_QueryReader_selectors :: gtbl) [.ref qr, .int nw] o (12 * (16 - o) + 12) (360 * (16 - o) + 360) 6 90 0 6 0 54 9 (5 * (16 - o)) 2 0 (OKc LD 8 (slsD bf n ok orL (nwB nw)) sgLs) (NOd (slsD bf n ok orL (nwB nw))) := by
  intro sz E lv L f i uc pl ug hO hin
  refine vx_ofW (cc := b_QueryReader_selectors) (maxL := 5) (ret := (some (.object "QueryBench$Selector"))) (by decide) rfl ?_
  intro p e s m args below meth c s₁ B hml hex hv
  obtain ⟨rfl, ⟨hsz, hP, hK, hD0⟩, hN, hZ, hC, hV⟩ := hv
  have hx := B.exec
  have hb := B.bytes
  have hr := B.returns
  have hts0 := atoms_spec (ws := k_QueryReader_selectors :: gtbl) B.pre
  have hts := fun w h => hts0 w (List.mem_cons_of_mem _ h)
  have hown : s.vm.findClass R_QueryReader = some m.cls := findClass_of_methodNamed B.named
  have hlocks := B.notSynchronized
  subst hsz
  have hD := hD0.self (sz := s.heap.size)
  generalize hAe : va_A ([(qr, .inr (5, [.ref h0, .int (nI o)])), (h0, .inr (8, [.ref qb, .ref qu, .int uc, .int ln, .int (nI n), .int (nI i), .int pl])), (qb, .inl (cB, 4096, .inl bf)), (qu, .inl (cI, 4096, .inl ug))] ++ va_pl L f) s.heap.size = A at hD hZ hC ⊢
  have hA : ∀ q : Nat, s.heap.size ≤ q → A q := fun q h => by rw [← hAe]; exact Or.inr h
  have hS : va_S A s.heap s.heap [] := va_S.rf
  have hP : va_P (dC, dI) classes ([(qr, .inr (5, [.ref h0, .int (nI o)])), (h0, .inr (8, [.ref qb, .ref qu, .int uc, .int ln, .int (nI n), .int (nI i), .int pl])), (qb, .inl (cB, 4096, .inl bf)), (qu, .inl (cI, 4096, .inl ug))] ++ va_pl L f) s.heap := hP
  have hl := lv_entry ([.ref qr, .int nw]) (n := 5) (Nat.le_of_ble_eq_true rfl)
  rw [lg_entry_eq]
  generalize (lg_sl ([.ref qr, .int nw]) ++ List.replicate (5 - (lg_sl ([.ref qr, .int nw])).length) Slot.unset).toArray = ls at hl ⊢
  have hl : lv_has ls 5 [(0, .ref qr), (1, .int nw)] := hl
  have hLz : ∀ a, a ∈ L → a < s.heap.size := fun a ha => va_pl_lt hP ha
  have hi9 : i ≤ n := by omega
  have hP : va_P (dC, dI) classes ([(qr, .inr (5, [.ref h0, .int (nI o)])), (h0, .inr (8, [.ref qb, .ref qu, .int uc, .int ln, .int (nI n), .int (nI i), .int pl])), (qb, .inl (cB, 4096, .inl bf)), (qu, .inl (cI, 4096, .inl ug))] ++ va_pl (L ++ []) f) s.heap := by rw [List.append_nil]; exact hP
  have hD : va_D A ([(qr, .inr (5, [.ref h0, .int (nI o)])), (h0, .inr (8, [.ref qb, .ref qu, .int uc, .int ln, .int (nI n), .int (nI i), .int pl])), (qb, .inl (cB, 4096, .inl bf)), (qu, .inl (cI, 4096, .inl ug))] ++ va_pl (L ++ []) f) := by rw [List.append_nil]; exact hD
  have hG0 : QG cI cV E lv L f i n i s.heap.size [] E lv f := QG.rf hO hi9
  refine lv_aload_n hx hb d_QueryReader_selectors_0 rfl (lv_at hl 0 rfl) ?_
  refine lv_bipush (v := 91) hx hb d_QueryReader_selectors_1 (by decide) ?_
  have hPc := hP.sub (ws' := [(qr, .inr (5, [.ref h0, .int (nI o)])), (h0, .inr (8, [.ref qb, .ref qu, .int uc, .int ln, .int (nI n), .int (nI i), .int pl])), (qb, .inl (cB, 4096, .inl bf)), (qu, .inl (cI, 4096, .inl ug))]) [0, 1, 2, 3] rfl
  have hDc := hD.sub (ws' := [(qr, .inr (5, [.ref h0, .int (nI o)])), (h0, .inr (8, [.ref qb, .ref qu, .int uc, .int ln, .int (nI n), .int (nI i), .int pl])), (qb, .inl (cB, 4096, .inl bf)), (qu, .inl (cI, 4096, .inl ug))]) [0, 1, 2, 3] (by decide) rfl
  have hFc := va_free (wc := [(qr, .inr (5, [.ref h0, .int (nI o)])), (h0, .inr (8, [.ref qb, .ref qu, .int uc, .int ln, .int (nI n), .int (nI i), .int pl])), (qb, .inl (cB, 4096, .inl bf)), (qu, .inl (cI, 4096, .inl ug))]) hD hS hA [0, 1, 2, 3] rfl
  have hKc := hK.sub (tys' := [(cB, .byte), (cI, .int)]) [0, 1] rfl
  refine w_same (fun hq0 => ?_)
  refine vx_callv (vx_runV (As := [.int 91]) (rest := []) ⟨hx, hb, hml, hown, hts⟩ (c_QueryReader_takeOpening l hl9 dC dI s.heap cB cI h0 qb qu uc ln pl bf ug n i hn0 (by omega) qr o (by omega) 91 (by decide)) (cwV 1 hts (gt_V (own := R_QueryReader) (C := R_QueryReader) (i := 95) (y := y_QueryReader_takeOpening) i_QueryReader_takeOpening z_594 z_596 (gt_sel (y := y_QueryReader_takeOpening) (n := 2) (by decide +kernel)) w_4) rfl rfl rfl (by decide +kernel) ⟨by show 10 + 1 ≤ 12 * (16 - o) + 12; omega, by show 8 + (2 + 11) + (170) ≤ 360 * (16 - o) + 360; omega⟩) ⟨mx_blind, va_recv hK hP (ci := 5) (q0 := 0) rfl rfl, fun U hU hW => ⟨rfl, ⟨hU, by rw [hU]; exact hPc, va_K.moved hW.alike hKc, hDc.weaken (fun _ _ _ _ => trivial)⟩, hN.warm hW, by rw [hU]; exact ZX.moved' hW.alike (ZX.narrow' (ZX.kept' hZ hS.2.1) hFc)⟩⟩ rfl rfl hl.1 rfl (lv_room (Nat.le_of_ble_eq_true rfl)) d_QueryReader_selectors_3 ⟨by show 0 + (1) ≤ 8 * (n - i) + 6; omega, by show 0 + (6) ≤ 64 * (n - i) + 90; omega⟩) hS (fun q _ h => hFc q h) hFc (fun q _ h => hFc q h) (fun En ce q9 ⟨ax, cx, px, gx, ox⟩ t9 H1 locs ht hvm hw hB hz1 hk1 hS hce hcv hcl => ?_) (fun _u t9 H1 locs ht hvm hw hB hz1 hk1 hS => ?_)
  · obtain ⟨hEn, hP1, hK1, hD1⟩ := hB
    rw [ht] at hP1
    obtain ⟨hP, hD⟩ := va_joinQ (wr := []) (w1 := [(qr, .inr (5, [.ref h0, .int ox])), (h0, .inr (8, [.ref qb, .ref qu, .int cx, .int ln, .int (nI n), .int ax, .int px])), (qb, .inl (cB, 4096, .inl bf)), (qu, .inl (cI, 4096, .inl gx))]) hP hD [0, 1, 2, 3] [] rfl rfl (by decide) (by decide) hk1 hFc hP1 hD1
    generalize H1 = H at hP hS hce ⊢
    have hP : va_P (dC, dI) classes ([(qr, .inr (5, [.ref h0, .int ox])), (h0, .inr (8, [.ref qb, .ref qu, .int cx, .int ln, .int (nI n), .int ax, .int px])), (qb, .inl (cB, 4096, .inl bf)), (qu, .inl (cI, 4096, .inl gx))] ++ va_pl ((L ++ [])) f) H := hP
    have hD : va_D A ([(qr, .inr (5, [.ref h0, .int ox])), (h0, .inr (8, [.ref qb, .ref qu, .int cx, .int ln, .int (nI n), .int ax, .int px])), (qb, .inl (cB, 4096, .inl bf)), (qu, .inl (cI, 4096, .inl gx))] ++ va_pl ((L ++ [])) f) := hD
    have hP := plP_cut (hP.part (cx := [(qr, .inr (5, [.ref h0, .int ox])), (h0, .inr (8, [.ref qb, .ref qu, .int cx, .int ln, .int (nI n), .int ax, .int px])), (qb, .inl (cB, 4096, .inl bf)), (qu, .inl (cI, 4096, .inl gx))]) [0, 1, 2, 3] rfl) hG0.on
    have hD := plD_cut (hD.part (cx := [(qr, .inr (5, [.ref h0, .int ox])), (h0, .inr (8, [.ref qb, .ref qu, .int cx, .int ln, .int (nI n), .int ax, .int px])), (qb, .inl (cB, 4096, .inl bf)), (qu, .inl (cI, 4096, .inl gx))]) [0, 1, 2, 3] (by decide) rfl) hG0.on
    have hno : (slsD bf n ok orL (nwB nw)) i = none := slsD_0 (fun q => hw (hok.mp q.1) q.2)
    exact vx_out (fun x hx => (hex x hx).elim) hlocks hce hcv hcl (fun t9 ht2 ha => ⟨(ax, cx, px, gx, ox), hno, ⟨hEn, by rw [ht2]; exact hP, va_K.moved ha hK, hD⟩, hS.F ht2⟩) hS.2.2 (by show 0 + (1) ≤ 8 * (n - i) + 6; omega) (by show 0 + (6) ≤ 64 * (n - i) + 90; omega)
  · obtain ⟨⟨hP1, hK1, hD1⟩, hz9⟩ := hB
    rw [ht] at hP1
    rw [ht] at hz9
    refine w_tight (hq0.trans hz9) ?_
    have hq0 := hq0.trans hz9
    obtain ⟨hP, hD⟩ := va_joinQ (wr := []) (w1 := [(qr, .inr (5, [.ref h0, .int (nI (o + 1))])), (h0, .inr (8, [.ref qb, .ref qu, .int uc, .int ln, .int (nI n), .int (nI (i + 1)), .int pl])), (qb, .inl (cB, 4096, .inl bf)), (qu, .inl (cI, 4096, .inl ug))]) hP hD [0, 1, 2, 3] [] rfl rfl (by decide) (by decide) hk1 hFc hP1 hD1
    generalize H1 = H at hP hS hq0 ⊢
    have hP : va_P (dC, dI) classes ([(qr, .inr (5, [.ref h0, .int (nI (o + 1))])), (h0, .inr (8, [.ref qb, .ref qu, .int uc, .int ln, .int (nI n), .int (nI (i + 1)), .int pl])), (qb, .inl (cB, 4096, .inl bf)), (qu, .inl (cI, 4096, .inl ug))] ++ va_pl ((L ++ [])) f) H := hP
    have hD : va_D A ([(qr, .inr (5, [.ref h0, .int (nI (o + 1))])), (h0, .inr (8, [.ref qb, .ref qu, .int uc, .int ln, .int (nI n), .int (nI (i + 1)), .int pl])), (qb, .inl (cB, 4096, .inl bf)), (qu, .inl (cI, 4096, .inl ug))] ++ va_pl ((L ++ [])) f) := hD
    obtain ⟨ho21, hl21, hto21⟩ := hw
    have hto21 : hereV bf n i = 91 := hto21
    have ho1 : o < 16 := ho21
    have hl21 : i < n := hl21
    refine lv_aload_n hx hb d_QueryReader_selectors_6 rfl (lv_at hl 0 rfl) ?_
    refine lv_iload_n hx hb d_QueryReader_selectors_7 rfl (lv_at hl 1 rfl) ?_
    have hG22 := hG0.mv (show i ≤ (i + 1) by omega) (show (i + 1) ≤ n by omega)
    have hzz22 : s.heap.size ≤ H.size := hS.1
    have hPc := hP.part (cx := [(qr, .inr (5, [.ref h0, .int (nI (o + 1))])), (h0, .inr (8, [.ref qb, .ref qu, .int uc, .int ln, .int (nI n), .int (nI (i + 1)), .int pl])), (qb, .inl (cB, 4096, .inl bf)), (qu, .inl (cI, 4096, .inl ug))]) [0, 1, 2, 3] rfl
    have hDc := hD.part (cx := [(qr, .inr (5, [.ref h0, .int (nI (o + 1))])), (h0, .inr (8, [.ref qb, .ref qu, .int uc, .int ln, .int (nI n), .int (nI (i + 1)), .int pl])), (qb, .inl (cB, 4096, .inl bf)), (qu, .inl (cI, 4096, .inl ug))]) [0, 1, 2, 3] (by decide) rfl
    have hFc := va_freeP (cx := [(qr, .inr (5, [.ref h0, .int (nI (o + 1))])), (h0, .inr (8, [.ref qb, .ref qu, .int uc, .int ln, .int (nI n), .int (nI (i + 1)), .int pl])), (qb, .inl (cB, 4096, .inl bf)), (qu, .inl (cI, 4096, .inl ug))]) hD hS hA [0, 1, 2, 3] rfl
    have hKc := hK.sub (tys' := [(cB, .byte), (cI, .int), (cV, .object "QueryBench$Value")]) [0, 1, 2] rfl
    refine w_same (fun hq0 => ?_)
    refine vx_callr (vx_runV (As := [.int nw]) (rest := []) ⟨hx, hb, hml, hown, hts⟩ ((HS ho1 nw) H E lv (L ++ []) f ((i + 1)) uc pl ug hG22.po (by omega)) (cwV 1 hts (gt_V (own := R_QueryReader) (C := R_QueryReader) (i := 98) (y := y_QueryReader_selector) i_QueryReader_selector z_599 z_601 (gt_sel (y := y_QueryReader_selector) (n := 2) (by decide +kernel)) w_4) rfl rfl rfl (by decide +kernel) ⟨by show 12 * (16 - (o + 1)) + 22 + 1 ≤ 12 * (16 - o) + 12; omega, by show 8 + (3 + 11) + (360 * (16 - (o + 1)) + 660) ≤ 360 * (16 - o) + 360; omega⟩) ⟨ml_blind, va_recv hK hP (ci := 5) (q0 := 0) rfl rfl, fun U hU hW => ⟨rfl, ⟨hU, by rw [hU]; exact hPc, va_K.moved hW.alike hKc, hDc.weaken (fun _ _ _ _ => trivial)⟩, hN.warm hW, by rw [hU]; exact ZX.moved' hW.alike (ZX.narrow' (ZX.kept' hZ hS.2.1) hFc), by rw [hU]; exact CE.call hC hS.2.1 hFc hW, va_AO.moved hW.alike hV⟩⟩ rfl rfl hl.1 rfl (lv_room (Nat.le_of_ble_eq_true rfl)) d_QueryReader_selectors_8 ⟨by show 0 + (8 * (n - (i + 1)) + 13) ≤ 8 * (n - i) + 6; omega, by show 0 + (64 * (n - (i + 1)) + 150) ≤ 64 * (n - i) + 90; omega⟩) hS (fun q _ h => hFc q h) hFc (fun q _ h => hFc q h) (fun En ce q9 ⟨ax, cx, px, gx, ox⟩ t9 H1 locs ht hvm hw hB hz1 hk1 hS hce hcv hcl => ?_) (fun ⟨w22, p22, N22, E22, f22, uc22, ug22⟩ v22 t9 H1 locs ht hvm hw hB hz1 hk1 hS => ?_)
    · obtain ⟨hEn, hP1, hK1, hD1⟩ := hB
      rw [ht] at hP1
      obtain ⟨hP, hD⟩ := va_joinP (wr := []) (rx := [(qr, .inr (5, [.ref h0, .int ox])), (h0, .inr (8, [.ref qb, .ref qu, .int cx, .int ln, .int (nI n), .int ax, .int px])), (qb, .inl (cB, 4096, .inl bf)), (qu, .inl (cI, 4096, .inl gx))]) (pl1 := va_pl ((L ++ [])) f) hP hD [0, 1, 2, 3] [] rfl rfl (by decide) (by decide) hk1 hFc hP1 hD1
      generalize H1 = H at hP hS hce ⊢
      have hP : va_P (dC, dI) classes ([(qr, .inr (5, [.ref h0, .int ox])), (h0, .inr (8, [.ref qb, .ref qu, .int cx, .int ln, .int (nI n), .int ax, .int px])), (qb, .inl (cB, 4096, .inl bf)), (qu, .inl (cI, 4096, .inl gx))] ++ va_pl ((L ++ [])) f) H := hP
      have hD : va_D A ([(qr, .inr (5, [.ref h0, .int ox])), (h0, .inr (8, [.ref qb, .ref qu, .int cx, .int ln, .int (nI n), .int ax, .int px])), (qb, .inl (cB, 4096, .inl bf)), (qu, .inl (cI, 4096, .inl gx))] ++ va_pl ((L ++ [])) f) := hD
      have hP := plP_cut (hP.part (cx := [(qr, .inr (5, [.ref h0, .int ox])), (h0, .inr (8, [.ref qb, .ref qu, .int cx, .int ln, .int (nI n), .int ax, .int px])), (qb, .inl (cB, 4096, .inl bf)), (qu, .inl (cI, 4096, .inl gx))]) [0, 1, 2, 3] rfl) hG22.on
      have hD := plD_cut (hD.part (cx := [(qr, .inr (5, [.ref h0, .int ox])), (h0, .inr (8, [.ref qb, .ref qu, .int cx, .int ln, .int (nI n), .int ax, .int px])), (qb, .inl (cB, 4096, .inl bf)), (qu, .inl (cI, 4096, .inl gx))]) [0, 1, 2, 3] (by decide) rfl) hG22.on
      have hno : (slsD bf n ok orL (nwB nw)) i = none := slsD_1 (hok.mpr ho1) hto21 hw
      exact vx_out (fun x hx => (hex x hx).elim) hlocks hce hcv hcl (fun t9 ht2 ha => ⟨(ax, cx, px, gx, ox), hno, ⟨hEn, by rw [ht2]; exact hP, va_K.moved ha hK, hD⟩, hS.F ht2⟩) hS.2.2 (by show 0 + (8 * (n - (i + 1)) + 13) ≤ 8 * (n - i) + 6; omega) (by show 0 + (64 * (n - (i + 1)) + 150) ≤ 64 * (n - i) + 90; omega)
    · obtain ⟨⟨hP1, hK1, hD1⟩, hz9, ha9⟩ := hB
      rw [ht] at hP1
      rw [ht] at hz9
      have ha9 : v22 = w22 := ha9
      subst ha9
      have hq0 : szk s.heap H1 (0 + (8 * (p22 - (i + 1)) + 2 - 0)) (0 + (64 * (p22 - (i + 1)) + 10 - 0)) := (hq0.trans hz9).mono (Nat.le_refl _) (Nat.le_refl _)
      refine w_tight hq0 ?_
      obtain ⟨hP, hD⟩ := va_joinP (wr := []) (rx := [(qr, .inr (5, [.ref h0, .int (nI (o + 1))])), (h0, .inr (8, [.ref qb, .ref qu, .int uc22, .int ln, .int (nI n), .int (nI p22), .int pl])), (qb, .inl (cB, 4096, .inl bf)), (qu, .inl (cI, 4096, .inl ug22))]) (pl1 := va_pl (((L ++ []) ++ N22)) f22) hP hD [0, 1, 2, 3] [] rfl rfl (by decide) (by decide) hk1 hFc hP1 hD1
      generalize H1 = H at hP hS hq0 ⊢
      have hP : va_P (dC, dI) classes ([(qr, .inr (5, [.ref h0, .int (nI (o + 1))])), (h0, .inr (8, [.ref qb, .ref qu, .int uc22, .int ln, .int (nI n), .int (nI p22), .int pl])), (qb, .inl (cB, 4096, .inl bf)), (qu, .inl (cI, 4096, .inl ug22))] ++ va_pl (((L ++ []) ++ N22)) f22) H := hP
      have hD : va_D A ([(qr, .inr (5, [.ref h0, .int (nI (o + 1))])), (h0, .inr (8, [.ref qb, .ref qu, .int uc22, .int ln, .int (nI n), .int (nI p22), .int pl])), (qb, .inl (cB, 4096, .inl bf)), (qu, .inl (cI, 4096, .inl ug22))] ++ va_pl (((L ++ []) ++ N22)) f22) := hD
      obtain ⟨hw, m22, hf22, hd22⟩ := hw
      have hf22 : (selD bf n orL (nwB nw)) ((i + 1)) = some (p22, sgL (f22 v22), m22) := hf22
      have hd22 : DNx LD 8 E E22 f22 v22 m22 := hd22
      have hQ22 : QPn cI cV E (L ++ []) f ((i + 1)) n _ 9 (5 * (16 - (o + 1)) + 5) 0 v22 p22 N22 E22 f22 := hw
      obtain ⟨lv22, hg22, hlv22⟩ := hQ22.x lv hG22.po _ (Nat.le_refl _)
      have hex22 := hg22.ex
      have hge22 := hg22.ge hQ22.new (by rw [hQ22.so]; decide)
      have hkp22 : KPx E E22 f f22 := KPx.of hg22 hG22.po
      have hnv22 : E v22 = 0 := hQ22.new
      have hsv22 : ¬ E22 v22 = 0 := by rw [hQ22.so]; decide
      have hG22 := hG22.tr hg22 hzz22
      obtain ⟨ha22, hb22⟩ := hQ22.num
      have ha22 : (i + 1) + 0 ≤ p22 := ha22
      have hb22 : p22 ≤ n := hb22
      rw [List.append_assoc] at hP hD
      have hP : va_P (dC, dI) classes ([(qr, .inr (5, [.ref h0, .int (nI (o + 1))])), (h0, .inr (8, [.ref qb, .ref qu, .int uc22, .int ln, .int (nI n), .int (nI p22), .int pl])), (qb, .inl (cB, 4096, .inl bf)), (qu, .inl (cI, 4096, .inl ug22))] ++ va_pl ((L ++ ([] ++ N22))) f22) H := hP
      have hD : va_D A ([(qr, .inr (5, [.ref h0, .int (nI (o + 1))])), (h0, .inr (8, [.ref qb, .ref qu, .int uc22, .int ln, .int (nI n), .int (nI p22), .int pl])), (qb, .inl (cB, 4096, .inl bf)), (qu, .inl (cI, 4096, .inl ug22))] ++ va_pl ((L ++ ([] ++ N22))) f22) := hD
      have hC0 : CI cI cV E L f i n s.heap.size 9 (5 * (16 - o)) v22 v22 p22 ([] ++ N22) E22 f22 := CI.start (hQ22.up (dm2 := 1) (by omega) (by omega) hzz22 (by omega) (by omega))
      refine lv_astore_n (lv' := [(2, .ref v22), (0, .ref qr), (1, .int nw)]) hx hb d_QueryReader_selectors_11 rfl hl (by decide) rfl (fun ls hl => ?_)
      refine lv_aload_n hx hb d_QueryReader_selectors_12 rfl (lv_at hl 0 rfl) ?_
      refine lv_astore_n (lv' := [(3, .ref v22), (2, .ref v22), (0, .ref qr), (1, .int nw)]) hx hb d_QueryReader_selectors_13 rfl hl (by decide) rfl (fun ls hl => ?_)
      refine lv_iconst (v := 0) hx hb d_QueryReader_selectors_14 (by decide) ?_
      refine lv_istore (lv' := [(4, .int 0), (3, .ref v22), (2, .ref v22), (0, .ref qr), (1, .int nw)]) hx hb d_QueryReader_selectors_15 hl (by decide) rfl (fun ls hl => ?_)
      refine w_same (fun hq => ?_)
      refine W.widen (k := 8 * (n - i) + 6) (n := 64 * (n - i) + 90) (by show (0 + (8 * (p22 - (i + 1)) + 2 - 0)) ≤ 8 * (n - i) + 6; omega) (by show (0 + (64 * (p22 - (i + 1)) + 10 - 0)) ≤ 64 * (n - i) + 90; omega) ?_
      refine w_loopG (D := (dC, dI)) (cl := classes) (A := A) (H0 := s.heap) (nL := 5) 17 (σ := Nat × Nat × Nat × List Nat × (Nat → Nat) × (Nat → va_E) × Int32 × (Nat → Int32)) (fun ⟨m9, y, p, N, E1, f1, uc, ug⟩ H => m9 ≤ 4096 ∧ m9 + i + 1 ≤ p ∧ CI cI cV E L f i n s.heap.size 9 (5 * (16 - o)) v22 y p N E1 f1 ∧ szk s.heap H (8 * (p - i) - 6) (64 * (p - i) - 54) ∧ SLI bf n (nwB nw) p22 v22 y p (sgL (f22 v22)) m9 f1 ∧ SLd LD 8 (slsLD bf n orL (nwB nw) 4098 p22) (slsLD bf n orL (nwB nw) (4098 - m9) p) E E1 f1 v22 y m22 m9) (fun ⟨m9, y, p, N, E1, f1, uc, ug⟩ => 4097 - m9) (fun ⟨m9, y, p, N, E1, f1, uc, ug⟩ => [(qr, .inr (5, [.ref h0, .int (nI (o + 1))])), (h0, .inr (8, [.ref qb, .ref qu, .int uc, .int ln, .int (nI n), .int (nI p), .int pl])), (qb, .inl (cB, 4096, .inl bf)), (qu, .inl (cI, 4096, .inl ug))] ++ va_pl ((L ++ N)) f1) (fun ⟨m9, y, p, N, E1, f1, uc, ug⟩ => [(0, .ref qr), (1, .int nw), (2, .ref v22), (3, .ref y), (4, .int (nI m9))]) ?_ (0, v22, p22, ([] ++ N22), E22, f22, uc22, ug22) ⟨Nat.zero_le _, (by show 0 + i + 1 ≤ p22; omega), hC0, hq.mono (by show (0 + (8 * (p22 - (i + 1)) + 2 - 0)) ≤ 8 * (p22 - i) - 6; omega) (by show (0 + (64 * (p22 - (i + 1)) + 10 - 0)) ≤ 64 * (p22 - i) - 54; omega), Or.inl ⟨rfl, rfl, rfl, rfl⟩, SLd.start hd22 (by decide)⟩ hP hD hS (lv_sub hl [3, 4, 2, 1, 0] rfl)
      rintro ⟨m9, y, p, N, E1, f1, uc, ug⟩ H locs ls hI ih hP hD hS hl
      obtain ⟨hm9, hp1, hCh, hIz, hLI, hSL⟩ := hI
      have hm9 : m9 ≤ 4096 := hm9
      have hp1 : m9 + i + 1 ≤ p := hp1
      have hLI : SLI bf n (nwB nw) p22 v22 y p (sgL (f22 v22)) m9 f1 := hLI
      have hSL : SLd LD 8 (slsLD bf n orL (nwB nw) 4098 p22) (slsLD bf n orL (nwB nw) (4098 - m9) p) E E1 f1 v22 y m22 m9 := hSL
      have hCh : CI cI cV E L f i n s.heap.size 9 (5 * (16 - o)) v22 y p N E1 f1 := hCh
      have hp2 := hCh.le
      have hmL : m9 ≤ 4095 := by omega
      have hIz : szk s.heap H (8 * (p - i) - 6) (64 * (p - i) - 54) := hIz
      refine w_tight hIz ?_
      obtain ⟨lv1, hG, hlx, hly⟩ := hCh.x lv hO _ (Nat.le_refl _)
      have hP : va_P (dC, dI) classes ([(qr, .inr (5, [.ref h0, .int (nI (o + 1))])), (h0, .inr (8, [.ref qb, .ref qu, .int uc, .int ln, .int (nI n), .int (nI p), .int pl])), (qb, .inl (cB, 4096, .inl bf)), (qu, .inl (cI, 4096, .inl ug))] ++ va_pl ((L ++ N)) f1) H := hP
      have hD : va_D A ([(qr, .inr (5, [.ref h0, .int (nI (o + 1))])), (h0, .inr (8, [.ref qb, .ref qu, .int uc, .int ln, .int (nI n), .int (nI p), .int pl])), (qb, .inl (cB, 4096, .inl bf)), (qu, .inl (cI, 4096, .inl ug))] ++ va_pl ((L ++ N)) f1) := hD
      have hl : lv_has ls 5 [(0, .ref qr), (1, .int nw), (2, .ref v22), (3, .ref y), (4, .int (nI m9))] := hl
      refine lv_iload hx hb d_QueryReader_selectors_17 (lv_at hl 4 rfl) ?_
      refine lv_sipush (v := 4096) hx hb d_QueryReader_selectors_19 (by decide) ?_
      refine lv_icmp_ge (tgt := 61) hx hb d_QueryReader_selectors_22 (by decide) (fun c22 => ?_) (fun c22 => ?_)
      · rw [show (4096 : Int32) = nI 4096 from rfl, nI_leI (by omega) (by omega)] at c22
        exact absurd c22 (by omega)
      · refine lv_iload_n hx hb d_QueryReader_selectors_25 rfl (lv_at hl 1 rfl) ?_
        refine lv_if_ne (tgt := 61) hx hb d_QueryReader_selectors_26 (by decide) (fun c26 => ?_) (fun c26 => ?_)
        · refine lv_aload_n hx hb d_QueryReader_selectors_61 rfl (lv_at hl 0 rfl) ?_
          refine lv_bipush (v := 93) hx hb d_QueryReader_selectors_62 (by decide) ?_
          obtain ⟨tl9, hSe, hln9, hDch9⟩ := hSL.fin (p := p) LD_mo hCh.2.1 (by rw [hCh.2.2.2.1]; decide) (slLD_e hmL (fun q => by rw [nwB_1 c26] at q; exact absurd q.1 (by decide)))
          have hPc := hP.sub (ws' := [(qr, .inr (5, [.ref h0, .int (nI (o + 1))])), (h0, .inr (8, [.ref qb, .ref qu, .int uc, .int ln, .int (nI n), .int (nI p), .int pl])), (qb, .inl (cB, 4096, .inl bf)), (qu, .inl (cI, 4096, .inl ug))]) [0, 1, 2, 3] rfl
          have hDc := hD.sub (ws' := [(qr, .inr (5, [.ref h0, .int (nI (o + 1))])), (h0, .inr (8, [.ref qb, .ref qu, .int uc, .int ln, .int (nI n), .int (nI p), .int pl])), (qb, .inl (cB, 4096, .inl bf)), (qu, .inl (cI, 4096, .inl ug))]) [0, 1, 2, 3] (by decide) rfl
          have hFc := va_free (wc := [(qr, .inr (5, [.ref h0, .int (nI (o + 1))])), (h0, .inr (8, [.ref qb, .ref qu, .int uc, .int ln, .int (nI n), .int (nI p), .int pl])), (qb, .inl (cB, 4096, .inl bf)), (qu, .inl (cI, 4096, .inl ug))]) hD hS hA [0, 1, 2, 3] rfl
          have hKc := hK.sub (tys' := [(cB, .byte), (cI, .int)]) [0, 1] rfl
          refine w_same (fun hq0 => ?_)
          refine vx_callv (vx_runV (As := [.int 93]) (rest := []) ⟨hx, hb, hml, hown, hts⟩ (c_QueryReader_takeClosing l hl9 dC dI H cB cI h0 qb qu uc ln pl bf ug n p hn0 (by omega) qr o 93 (by decide)) (cwV 1 hts (gt_V (own := R_QueryReader) (C := R_QueryReader) (i := 104) (y := y_QueryReader_takeClosing) i_QueryReader_takeClosing z_705 z_707 (gt_sel (y := y_QueryReader_takeClosing) (n := 2) (by decide +kernel)) w_4) rfl rfl rfl (by decide +kernel) ⟨by show 10 + 1 ≤ 12 * (16 - o) + 12; omega, by show 8 + (2 + 11) + (170) ≤ 360 * (16 - o) + 360; omega⟩) ⟨mx_blind, va_recv hK hP (ci := 5) (q0 := 0) rfl rfl, fun U hU hW => ⟨rfl, ⟨hU, by rw [hU]; exact hPc, va_K.moved hW.alike hKc, hDc.weaken (fun _ _ _ _ => trivial)⟩, hN.warm hW, by rw [hU]; exact ZX.moved' hW.alike (ZX.narrow' (ZX.kept' hZ hS.2.1) hFc)⟩⟩ rfl rfl hl.1 rfl (lv_room (Nat.le_of_ble_eq_true rfl)) d_QueryReader_selectors_64 ⟨by show (8 * (p - i) - 6) + (1) ≤ 8 * (n - i) + 6; omega, by show (64 * (p - i) - 54) + (6) ≤ 64 * (n - i) + 90; omega⟩) hS (fun q _ h => hFc q h) hFc (fun q _ h => hFc q h) (fun En ce q9 ⟨ax, cx, px, gx, ox⟩ t9 H1 locs ht hvm hw hB hz1 hk1 hS hce hcv hcl => ?_) (fun _u t9 H1 locs ht hvm hw hB hz1 hk1 hS => ?_)
          · obtain ⟨hEn, hP1, hK1, hD1⟩ := hB
            rw [ht] at hP1
            obtain ⟨hP, hD⟩ := va_joinQ (wr := []) (w1 := [(qr, .inr (5, [.ref h0, .int ox])), (h0, .inr (8, [.ref qb, .ref qu, .int cx, .int ln, .int (nI n), .int ax, .int px])), (qb, .inl (cB, 4096, .inl bf)), (qu, .inl (cI, 4096, .inl gx))]) hP hD [0, 1, 2, 3] [] rfl rfl (by decide) (by decide) hk1 hFc hP1 hD1
            generalize H1 = H at hP hS hce ⊢
            have hP : va_P (dC, dI) classes ([(qr, .inr (5, [.ref h0, .int ox])), (h0, .inr (8, [.ref qb, .ref qu, .int cx, .int ln, .int (nI n), .int ax, .int px])), (qb, .inl (cB, 4096, .inl bf)), (qu, .inl (cI, 4096, .inl gx))] ++ va_pl ((L ++ N)) f1) H := hP
            have hD : va_D A ([(qr, .inr (5, [.ref h0, .int ox])), (h0, .inr (8, [.ref qb, .ref qu, .int cx, .int ln, .int (nI n), .int ax, .int px])), (qb, .inl (cB, 4096, .inl bf)), (qu, .inl (cI, 4096, .inl gx))] ++ va_pl ((L ++ N)) f1) := hD
            have hP := plP_cut (hP.part (cx := [(qr, .inr (5, [.ref h0, .int ox])), (h0, .inr (8, [.ref qb, .ref qu, .int cx, .int ln, .int (nI n), .int ax, .int px])), (qb, .inl (cB, 4096, .inl bf)), (qu, .inl (cI, 4096, .inl gx))]) [0, 1, 2, 3] rfl) hG.on
            have hD := plD_cut (hD.part (cx := [(qr, .inr (5, [.ref h0, .int ox])), (h0, .inr (8, [.ref qb, .ref qu, .int cx, .int ln, .int (nI n), .int ax, .int px])), (qb, .inl (cB, 4096, .inl bf)), (qu, .inl (cI, 4096, .inl gx))]) [0, 1, 2, 3] (by decide) rfl) hG.on
            have hno : (slsD bf n ok orL (nwB nw)) i = none := slsD_3 (hok.mpr ho1) hto21 hf22 hSe hw
            exact vx_out (fun x hx => (hex x hx).elim) hlocks hce hcv hcl (fun t9 ht2 ha => ⟨(ax, cx, px, gx, ox), hno, ⟨hEn, by rw [ht2]; exact hP, va_K.moved ha hK, hD⟩, hS.F ht2⟩) hS.2.2 (by show (8 * (p - i) - 6) + (1) ≤ 8 * (n - i) + 6; omega) (by show (64 * (p - i) - 54) + (6) ≤ 64 * (n - i) + 90; omega)
          · obtain ⟨⟨hP1, hK1, hD1⟩, hz9⟩ := hB
            rw [ht] at hP1
            rw [ht] at hz9
            refine w_tight (hq0.trans hz9) ?_
            have hq0 := hq0.trans hz9
            obtain ⟨hP, hD⟩ := va_joinQ (wr := []) (w1 := [(qr, .inr (5, [.ref h0, .int (nI o)])), (h0, .inr (8, [.ref qb, .ref qu, .int uc, .int ln, .int (nI n), .int (nI (p + 1)), .int pl])), (qb, .inl (cB, 4096, .inl bf)), (qu, .inl (cI, 4096, .inl ug))]) hP hD [0, 1, 2, 3] [] rfl rfl (by decide) (by decide) hk1 hFc hP1 hD1
            generalize H1 = H at hP hS hq0 ⊢
            have hP : va_P (dC, dI) classes ([(qr, .inr (5, [.ref h0, .int (nI o)])), (h0, .inr (8, [.ref qb, .ref qu, .int uc, .int ln, .int (nI n), .int (nI (p + 1)), .int pl])), (qb, .inl (cB, 4096, .inl bf)), (qu, .inl (cI, 4096, .inl ug))] ++ va_pl ((L ++ N)) f1) H := hP
            have hD : va_D A ([(qr, .inr (5, [.ref h0, .int (nI o)])), (h0, .inr (8, [.ref qb, .ref qu, .int uc, .int ln, .int (nI n), .int (nI (p + 1)), .int pl])), (qb, .inl (cB, 4096, .inl bf)), (qu, .inl (cI, 4096, .inl ug))] ++ va_pl ((L ++ N)) f1) := hD
            obtain ⟨hl23, htc23⟩ := hw
            have htc23 : hereV bf n p = 93 := htc23
            have hl23 : p < n := hl23
            refine lv_aload_n hx hb d_QueryReader_selectors_67 rfl (lv_at hl 2 rfl) ?_
            have hQr : QPn cI cV E L f i n s.heap.size 9 (5 * (16 - o)) 2 v22 ((p + 1)) N E1 f1 := ((hCh.mv (by omega) (by omega)).qp (by omega))
            have hfin : (slsD bf n ok orL (nwB nw)) i = some ((p + 1), sgL (f1 v22), m22 :: tl9) := slsD_ok (hok.mpr ho1) hto21 hf22 hSe htc23 (hLI.fin2 hln9)
            have hdn : DNc LD 8 E E1 f1 v22 (m22 :: tl9) := hDch9
            refine w_same (fun hq => ?_)
            refine W.widen (k := 8 * (n - i) + 6) (n := 64 * (n - i) + 90) (by show (8 * (p - i) - 6) ≤ 8 * (n - i) + 6; omega) (by show (64 * (p - i) - 54) ≤ 64 * (n - i) + 90; omega) ?_
            refine vx_ret ?_
            exact W.aret (v := .ref v22) hx hb hr (Or.inl ⟨_, rfl⟩) (Or.inr ⟨_, rfl⟩) (fun t9 ht hW => ⟨⟨(v22, (p + 1), N, E1, f1, uc, ug), v22, rfl, ⟨hQr, _, hfin, hdn⟩, ⟨by rw [ht]; exact hP, va_K.moved hW.alike hK, hD⟩, by rw [ht]; exact ⟨hq.mono (by show (8 * (p - i) - 6) ≤ 8 * ((p + 1) - i) + 0 - 6; omega) (by show (64 * (p - i) - 54) ≤ 64 * ((p + 1) - i) + 0 - 54; omega), rfl⟩⟩, hS.F ht⟩) hS.2.2 d_QueryReader_selectors_68
        · refine lv_aload_n hx hb d_QueryReader_selectors_29 rfl (lv_at hl 0 rfl) ?_
          refine va_get (D := (dC, dI)) (ci := 5) (v := .ref h0) (C := R_QueryReader) (T := F_QueryReader) (N := 2) hx hb hts in_QueryReader hown hK hP 0 rfl rfl 0 (by decide) (hts _ w_100) (fun _ h9 => h9) rfl d_QueryReader_selectors_30 ?_
          refine lv_bipush (v := 44) hx hb d_QueryReader_selectors_33 (by decide) ?_
          have hPc := hP.sub (ws' := [(h0, .inr (8, [.ref qb, .ref qu, .int uc, .int ln, .int (nI n), .int (nI p), .int pl])), (qb, .inl (cB, 4096, .inl bf))]) [1, 2] rfl
          have hDc := hD.sub (ws' := [(h0, .inr (8, [.ref qb, .ref qu, .int uc, .int ln, .int (nI n), .int (nI p), .int pl])), (qb, .inl (cB, 4096, .inl bf))]) [1, 2] (by decide) rfl
          have hFc := va_free (wc := [(h0, .inr (8, [.ref qb, .ref qu, .int uc, .int ln, .int (nI n), .int (nI p), .int pl])), (qb, .inl (cB, 4096, .inl bf))]) hD hS hA [1, 2] rfl
          have hKc := hK.sub (tys' := [(cB, .byte)]) [0] rfl
          refine va_calli (va_runV (As := [.int 44]) (rest := []) ⟨hx, hb, hml, hown, hts⟩ (c_Tape_takeIf l dC dI cB h0 qb H (.ref qu) uc ln pl bf n p 44 hn0 (by omega)) (cwV 1 hts (gt_V (own := R_QueryReader) (C := R_Tape) (i := 58) (y := y_Tape_takeIf) i_Tape_takeIf z_589 z_393 z_394 w_2) rfl rfl rfl (by decide +kernel) ⟨by show 1 + 1 ≤ 12 * (16 - o) + 12; omega, by show 8 + (2 + 11) + (20) ≤ 360 * (16 - o) + 360; omega⟩) ⟨mp_blind, va_recv hK hP (ci := 8) (q0 := 1) rfl rfl, fun U hU hW => ⟨rfl, hU, by rw [hU]; exact hPc, va_K.moved hW.alike hKc, hDc.weaken (fun _ _ _ _ => trivial)⟩⟩ rfl rfl hl.1 rfl (lv_room (Nat.le_of_ble_eq_true rfl)) d_QueryReader_selectors_35 ⟨by show (8 * (p - i) - 6) + (0) ≤ 8 * (n - i) + 6; omega, by show (64 * (p - i) - 54) + (0) ≤ 64 * (n - i) + 90; omega⟩) hS (fun q _ h => hFc q h) hFc (fun r24 u24 t9 H1 locs ht hvm hw hB hz1 hk1 hS => ?_)
          obtain ⟨hP1, hK1, hD1⟩ := hB
          rw [ht] at hP1
          obtain ⟨hP, hD⟩ := va_joinQ (wr := [(qr, .inr (5, [.ref h0, .int (nI (o + 1))])), (qu, .inl (cI, 4096, .inl ug))]) (w1 := [(h0, .inr (8, [.ref qb, .ref qu, .int uc, .int ln, .int (nI n), .int (nI u24), .int pl])), (qb, .inl (cB, 4096, .inl bf))]) hP hD [1, 2] [0, 3] rfl rfl (by decide) (by decide) hk1 hFc hP1 hD1
          generalize H1 = H at hP hS ⊢
          have hP : va_P (dC, dI) classes ([(qr, .inr (5, [.ref h0, .int (nI (o + 1))])), (qu, .inl (cI, 4096, .inl ug)), (h0, .inr (8, [.ref qb, .ref qu, .int uc, .int ln, .int (nI n), .int (nI u24), .int pl])), (qb, .inl (cB, 4096, .inl bf))] ++ va_pl ((L ++ N)) f1) H := hP
          have hD : va_D A ([(qr, .inr (5, [.ref h0, .int (nI (o + 1))])), (qu, .inl (cI, 4096, .inl ug)), (h0, .inr (8, [.ref qb, .ref qu, .int uc, .int ln, .int (nI n), .int (nI u24), .int pl])), (qb, .inl (cB, 4096, .inl bf))] ++ va_pl ((L ++ N)) f1) := hD
          have hP := hP.part (cx := [(qr, .inr (5, [.ref h0, .int (nI (o + 1))])), (h0, .inr (8, [.ref qb, .ref qu, .int uc, .int ln, .int (nI n), .int (nI u24), .int pl])), (qb, .inl (cB, 4096, .inl bf)), (qu, .inl (cI, 4096, .inl ug))]) [0, 2, 3, 1] rfl
          have hD := hD.part (cx := [(qr, .inr (5, [.ref h0, .int (nI (o + 1))])), (h0, .inr (8, [.ref qb, .ref qu, .int uc, .int ln, .int (nI n), .int (nI u24), .int pl])), (qb, .inl (cB, 4096, .inl bf)), (qu, .inl (cI, 4096, .inl ug))]) [0, 2, 3, 1] (by decide) rfl
          rcases hw with ⟨ht24, hr24, hu24⟩ | ⟨ht24, hr24, hu24⟩
          · have hu24 : u24 = p + 1 := hu24
            subst hr24
            rw [hu24] at hP hD
            have hl24 := here_lc ht24 (by decide)
            have hP : va_P (dC, dI) classes ([(qr, .inr (5, [.ref h0, .int (nI (o + 1))])), (h0, .inr (8, [.ref qb, .ref qu, .int uc, .int ln, .int (nI n), .int (nI (p + 1)), .int pl])), (qb, .inl (cB, 4096, .inl bf)), (qu, .inl (cI, 4096, .inl ug))] ++ va_pl ((L ++ N)) f1) H := hP
            have hD : va_D A ([(qr, .inr (5, [.ref h0, .int (nI (o + 1))])), (h0, .inr (8, [.ref qb, .ref qu, .int uc, .int ln, .int (nI n), .int (nI (p + 1)), .int pl])), (qb, .inl (cB, 4096, .inl bf)), (qu, .inl (cI, 4096, .inl ug))] ++ va_pl ((L ++ N)) f1) := hD
            refine lv_if_eq (tgt := 61) hx hb d_QueryReader_selectors_38 (by decide) (fun h => absurd h (by decide)) (fun _ => ?_)
            refine lv_aload_n hx hb d_QueryReader_selectors_41 rfl (lv_at hl 3 rfl) ?_
            refine lv_aload_n hx hb d_QueryReader_selectors_42 rfl (lv_at hl 0 rfl) ?_
            refine lv_iload_n hx hb d_QueryReader_selectors_43 rfl (lv_at hl 1 rfl) ?_
            have hyz : y < H.size := va_pl_lt hP (hG.po.inL (by rw [hCh.2.2.2.1]; decide))
            have hG25 := hG.mv (show p ≤ (p + 1) by omega) (show (p + 1) ≤ n by omega)
            have hzz25 : s.heap.size ≤ H.size := hS.1
            have hPc := hP.part (cx := [(qr, .inr (5, [.ref h0, .int (nI (o + 1))])), (h0, .inr (8, [.ref qb, .ref qu, .int uc, .int ln, .int (nI n), .int (nI (p + 1)), .int pl])), (qb, .inl (cB, 4096, .inl bf)), (qu, .inl (cI, 4096, .inl ug))]) [0, 1, 2, 3] rfl
            have hDc := hD.part (cx := [(qr, .inr (5, [.ref h0, .int (nI (o + 1))])), (h0, .inr (8, [.ref qb, .ref qu, .int uc, .int ln, .int (nI n), .int (nI (p + 1)), .int pl])), (qb, .inl (cB, 4096, .inl bf)), (qu, .inl (cI, 4096, .inl ug))]) [0, 1, 2, 3] (by decide) rfl
            have hFc := va_freeP (cx := [(qr, .inr (5, [.ref h0, .int (nI (o + 1))])), (h0, .inr (8, [.ref qb, .ref qu, .int uc, .int ln, .int (nI n), .int (nI (p + 1)), .int pl])), (qb, .inl (cB, 4096, .inl bf)), (qu, .inl (cI, 4096, .inl ug))]) hD hS hA [0, 1, 2, 3] rfl
            have hKc := hK.sub (tys' := [(cB, .byte), (cI, .int), (cV, .object "QueryBench$Value")]) [0, 1, 2] rfl
            refine w_same (fun hq0 => ?_)
            refine vx_callr (vx_runV (As := [.int nw]) (rest := [.ref y]) ⟨hx, hb, hml, hown, hts⟩ ((HS ho1 nw) H E1 lv1 (L ++ N) f1 ((p + 1)) uc pl ug hG25.po (by omega)) (cwV 1 hts (gt_V (own := R_QueryReader) (C := R_QueryReader) (i := 98) (y := y_QueryReader_selector) i_QueryReader_selector z_599 z_601 (gt_sel (y := y_QueryReader_selector) (n := 2) (by decide +kernel)) w_4) rfl rfl rfl (by decide +kernel) ⟨by show 12 * (16 - (o + 1)) + 22 + 1 ≤ 12 * (16 - o) + 12; omega, by show 8 + (3 + 11) + (360 * (16 - (o + 1)) + 660) ≤ 360 * (16 - o) + 360; omega⟩) ⟨ml_blind, va_recv hK hP (ci := 5) (q0 := 0) rfl rfl, fun U hU hW => ⟨rfl, ⟨hU, by rw [hU]; exact hPc, va_K.moved hW.alike hKc, hDc.weaken (fun _ _ _ _ => trivial)⟩, hN.warm hW, by rw [hU]; exact ZX.moved' hW.alike (ZX.narrow' (ZX.kept' hZ hS.2.1) hFc), by rw [hU]; exact CE.call hC hS.2.1 hFc hW, va_AO.moved hW.alike hV⟩⟩ rfl rfl hl.1 rfl (lv_room (Nat.le_of_ble_eq_true rfl)) d_QueryReader_selectors_44 ⟨by show (8 * (p - i) - 6) + (8 * (n - (p + 1)) + 13) ≤ 8 * (n - i) + 6; omega, by show (64 * (p - i) - 54) + (64 * (n - (p + 1)) + 150) ≤ 64 * (n - i) + 90; omega⟩) hS (fun q _ h => hFc q h) hFc (fun q _ h => hFc q h) (fun En ce q9 ⟨ax, cx, px, gx, ox⟩ t9 H1 locs ht hvm hw hB hz1 hk1 hS hce hcv hcl => ?_) (fun ⟨w25, p25, N25, E25, f25, uc25, ug25⟩ v25 t9 H1 locs ht hvm hw hB hz1 hk1 hS => ?_)
            · obtain ⟨hEn, hP1, hK1, hD1⟩ := hB
              rw [ht] at hP1
              obtain ⟨hP, hD⟩ := va_joinP (wr := []) (rx := [(qr, .inr (5, [.ref h0, .int ox])), (h0, .inr (8, [.ref qb, .ref qu, .int cx, .int ln, .int (nI n), .int ax, .int px])), (qb, .inl (cB, 4096, .inl bf)), (qu, .inl (cI, 4096, .inl gx))]) (pl1 := va_pl ((L ++ N)) f1) hP hD [0, 1, 2, 3] [] rfl rfl (by decide) (by decide) hk1 hFc hP1 hD1
              generalize H1 = H at hP hS hce ⊢
              have hP : va_P (dC, dI) classes ([(qr, .inr (5, [.ref h0, .int ox])), (h0, .inr (8, [.ref qb, .ref qu, .int cx, .int ln, .int (nI n), .int ax, .int px])), (qb, .inl (cB, 4096, .inl bf)), (qu, .inl (cI, 4096, .inl gx))] ++ va_pl ((L ++ N)) f1) H := hP
              have hD : va_D A ([(qr, .inr (5, [.ref h0, .int ox])), (h0, .inr (8, [.ref qb, .ref qu, .int cx, .int ln, .int (nI n), .int ax, .int px])), (qb, .inl (cB, 4096, .inl bf)), (qu, .inl (cI, 4096, .inl gx))] ++ va_pl ((L ++ N)) f1) := hD
              have hP := plP_cut (hP.part (cx := [(qr, .inr (5, [.ref h0, .int ox])), (h0, .inr (8, [.ref qb, .ref qu, .int cx, .int ln, .int (nI n), .int ax, .int px])), (qb, .inl (cB, 4096, .inl bf)), (qu, .inl (cI, 4096, .inl gx))]) [0, 1, 2, 3] rfl) hG25.on
              have hD := plD_cut (hD.part (cx := [(qr, .inr (5, [.ref h0, .int ox])), (h0, .inr (8, [.ref qb, .ref qu, .int cx, .int ln, .int (nI n), .int ax, .int px])), (qb, .inl (cB, 4096, .inl bf)), (qu, .inl (cI, 4096, .inl gx))]) [0, 1, 2, 3] (by decide) rfl) hG25.on
              have hno : (slsD bf n ok orL (nwB nw)) i = none := slsD_2 (hok.mpr ho1) hto21 hf22 (hSL.n (slLD_n hmL (nwB_0 c26) ht24 hw))
              exact vx_out (fun x hx => (hex x hx).elim) hlocks hce hcv hcl (fun t9 ht2 ha => ⟨(ax, cx, px, gx, ox), hno, ⟨hEn, by rw [ht2]; exact hP, va_K.moved ha hK, hD⟩, hS.F ht2⟩) hS.2.2 (by show (8 * (p - i) - 6) + (8 * (n - (p + 1)) + 13) ≤ 8 * (n - i) + 6; omega) (by show (64 * (p - i) - 54) + (64 * (n - (p + 1)) + 150) ≤ 64 * (n - i) + 90; omega)
            · obtain ⟨⟨hP1, hK1, hD1⟩, hz9, ha9⟩ := hB
              rw [ht] at hP1
              rw [ht] at hz9
              have ha9 : v25 = w25 := ha9
              subst ha9
              have hq0 : szk s.heap H1 ((8 * (p - i) - 6) + (8 * (p25 - (p + 1)) + 2 - 0)) ((64 * (p - i) - 54) + (64 * (p25 - (p + 1)) + 10 - 0)) := (hq0.trans hz9).mono (Nat.le_refl _) (Nat.le_refl _)
              refine w_tight hq0 ?_
              obtain ⟨hP, hD⟩ := va_joinP (wr := []) (rx := [(qr, .inr (5, [.ref h0, .int (nI (o + 1))])), (h0, .inr (8, [.ref qb, .ref qu, .int uc25, .int ln, .int (nI n), .int (nI p25), .int pl])), (qb, .inl (cB, 4096, .inl bf)), (qu, .inl (cI, 4096, .inl ug25))]) (pl1 := va_pl (((L ++ N) ++ N25)) f25) hP hD [0, 1, 2, 3] [] rfl rfl (by decide) (by decide) hk1 hFc hP1 hD1
              generalize H1 = H at hP hS hq0 ⊢
              have hP : va_P (dC, dI) classes ([(qr, .inr (5, [.ref h0, .int (nI (o + 1))])), (h0, .inr (8, [.ref qb, .ref qu, .int uc25, .int ln, .int (nI n), .int (nI p25), .int pl])), (qb, .inl (cB, 4096, .inl bf)), (qu, .inl (cI, 4096, .inl ug25))] ++ va_pl (((L ++ N) ++ N25)) f25) H := hP
              have hD : va_D A ([(qr, .inr (5, [.ref h0, .int (nI (o + 1))])), (h0, .inr (8, [.ref qb, .ref qu, .int uc25, .int ln, .int (nI n), .int (nI p25), .int pl])), (qb, .inl (cB, 4096, .inl bf)), (qu, .inl (cI, 4096, .inl ug25))] ++ va_pl (((L ++ N) ++ N25)) f25) := hD
              obtain ⟨hw, m25, hf25, hd25⟩ := hw
              have hf25 : (selD bf n orL (nwB nw)) ((p + 1)) = some (p25, sgL (f25 v25), m25) := hf25
              have hd25 : DNx LD 8 E1 E25 f25 v25 m25 := hd25
              have hQ25 : QPn cI cV E1 (L ++ N) f1 ((p + 1)) n _ 9 (5 * (16 - (o + 1)) + 5) 0 v25 p25 N25 E25 f25 := hw
              obtain ⟨lv25, hg25, hlv25⟩ := hQ25.x lv1 hG25.po _ (Nat.le_refl _)
              have hex25 := hg25.ex
              have hge25 := hg25.ge hQ25.new (by rw [hQ25.so]; decide)
              have hkp25 : KPx E1 E25 f1 f25 := KPx.of hg25 hG25.po
              have hnv25 : E1 v25 = 0 := hQ25.new
              have hsv25 : ¬ E25 v25 = 0 := by rw [hQ25.so]; decide
              have hG25 := hG25.tr hg25 hzz25
              obtain ⟨ha25, hb25⟩ := hQ25.num
              have ha25 : (p + 1) + 0 ≤ p25 := ha25
              have hb25 : p25 ≤ n := hb25
              rw [List.append_assoc] at hP hD
              have hP : va_P (dC, dI) classes ([(qr, .inr (5, [.ref h0, .int (nI (o + 1))])), (h0, .inr (8, [.ref qb, .ref qu, .int uc25, .int ln, .int (nI n), .int (nI p25), .int pl])), (qb, .inl (cB, 4096, .inl bf)), (qu, .inl (cI, 4096, .inl ug25))] ++ va_pl ((L ++ (N ++ N25))) f25) H := hP
              have hD : va_D A ([(qr, .inr (5, [.ref h0, .int (nI (o + 1))])), (h0, .inr (8, [.ref qb, .ref qu, .int uc25, .int ln, .int (nI n), .int (nI p25), .int pl])), (qb, .inl (cB, 4096, .inl bf)), (qu, .inl (cI, 4096, .inl ug25))] ++ va_pl ((L ++ (N ++ N25))) f25) := hD
              have hy3 : E25 y = 9 := (hex25 y (by rw [hCh.2.2.2.1]; decide)).trans hCh.2.2.2.1
              obtain ⟨kdz, nmz, hsz, htz, stz, spz, sez, flz, nxz, efy, -⟩ := hG25.po.sel hy3
              have hyi : y ∈ (L ++ (N ++ N25)) := hG25.po.inL (by rw [hy3]; decide)
              have hyL : y ∉ L := fun h => absurd (hLz y h) (Nat.not_lt.mpr (hG.ge hCh.2.1 (by rw [hCh.2.2.2.1]; decide)))
              have hC2 := hCh.next9 hG.ex hQ25 (by omega) (by omega) hzz25 hyz (by omega) hyL efy hex25
              refine vq_put (D := (dC, dI)) (ci := 7) (v := .ref v25) (ty := .object "QueryBench$Selector") (C := R_Selector) (T := F_Selector) (N := 9) hx hb hts in_Selector t_Selector t_Selector_ok n_Selector hown hK hP hD hS hyi efy rfl 8 (by decide) (hts _ z_629) (fun _ h9 => h9) rfl (by decide +kernel) rfl rfl (Nat.le_of_ble_eq_true rfl) d_QueryReader_selectors_47 (fun H locs hP hD hS => ?_)
              have hP : va_P (dC, dI) classes ([(qr, .inr (5, [.ref h0, .int (nI (o + 1))])), (h0, .inr (8, [.ref qb, .ref qu, .int uc25, .int ln, .int (nI n), .int (nI p25), .int pl])), (qb, .inl (cB, 4096, .inl bf)), (qu, .inl (cI, 4096, .inl ug25))] ++ va_pl ((L ++ (N ++ N25))) ((va_up f25 y (lE kdz nmz hsz htz stz spz sez flz (some v25))))) H := hP
              have hD : va_D A ([(qr, .inr (5, [.ref h0, .int (nI (o + 1))])), (h0, .inr (8, [.ref qb, .ref qu, .int uc25, .int ln, .int (nI n), .int (nI p25), .int pl])), (qb, .inl (cB, 4096, .inl bf)), (qu, .inl (cI, 4096, .inl ug25))] ++ va_pl ((L ++ (N ++ N25))) ((va_up f25 y (lE kdz nmz hsz htz stz spz sez flz (some v25))))) := hD
              have hSL2 : SLd LD 8 (slsLD bf n orL (nwB nw) 4098 p22) (slsLD bf n orL (nwB nw) (4098 - (m9 + 1)) p25) E E25 ((va_up f25 y (lE kdz nmz hsz htz stz spz sez flz (some v25)))) v22 v25 m22 (m9 + 1) := hSL.next LD_mo LD_fr (by decide) hCh.2.1 (by rw [hCh.2.2.2.1]; decide) hd25 hnv25 hkp25 hG.ex (fun b hb => va_up_ne _ _ hb) (by rw [va_up_self]; exact Or.inr ⟨_, _, some v25, efy, rfl⟩) (by rw [va_up_self]; exact refE_rf (o := some v25) rfl) (slLD_s hmL (nwB_0 c26) ht24 hf25)
              have hLI2 : SLI bf n (nwB nw) p22 v22 v25 p25 (sgL (f22 v22)) (m9 + 1) (va_up f25 y (lE kdz nmz hsz htz stz spz sez flz (some v25))) := hLI.next (nwB_0 c26) ht24 (hg25.on _ (hG.po.inL (by rw [hCh.2.2.1]; decide)))
              refine lv_aload_n hx hb d_QueryReader_selectors_50 rfl (lv_at hl 3 rfl) ?_
              refine vq_get (D := (dC, dI)) (ci := 7) (v := .ref v25) (C := R_Selector) (T := F_Selector) (N := 9) hx hb hts in_Selector hown hK hP hyi (va_up_self _ _ _) rfl 8 (by decide) (hts _ z_629) (fun _ h9 => h9) rfl d_QueryReader_selectors_51 ?_
              refine lv_astore_n (lv' := [(3, .ref v25), (0, .ref qr), (1, .int nw), (2, .ref v22), (4, .int (nI m9))]) hx hb d_QueryReader_selectors_54 rfl hl (by decide) rfl (fun ls hl => ?_)
              refine lv_iinc (v := nI (m9 + 1)) (lv' := [(4, .int (nI (m9 + 1))), (3, .ref v25), (0, .ref qr), (1, .int nw), (2, .ref v22)]) hx hb d_QueryReader_selectors_55 hl (k := 4) rfl (nI_1 _) (by decide) rfl (fun ls hl => ?_)
              refine lv_goto (tgt := 17) hx hb d_QueryReader_selectors_58 (by decide) ?_
              refine w_same (fun hq => ?_)
              refine W.widen (k := 8 * (n - i) + 6) (n := 64 * (n - i) + 90) (by show ((8 * (p - i) - 6) + (8 * (p25 - (p + 1)) + 2 - 0)) ≤ 8 * (n - i) + 6; omega) (by show ((64 * (p - i) - 54) + (64 * (p25 - (p + 1)) + 10 - 0)) ≤ 64 * (n - i) + 90; omega) ?_
              exact ih (m9 + 1, v25, p25, (N ++ N25), E25, (va_up f25 y (lE kdz nmz hsz htz stz spz sez flz (some v25))), uc25, ug25) _ _ _ ⟨show m9 + 1 ≤ 4096 by omega, show m9 + 1 + i + 1 ≤ p25 by omega, hC2, hq.mono (by show ((8 * (p - i) - 6) + (8 * (p25 - (p + 1)) + 2 - 0)) ≤ 8 * (p25 - i) - 6; omega) (by show ((64 * (p - i) - 54) + (64 * (p25 - (p + 1)) + 10 - 0)) ≤ 64 * (p25 - i) - 54; omega), hLI2, hSL2⟩ (by show 4097 - (m9 + 1) < 4097 - m9; omega) hP hD hS (lv_sub hl [2, 3, 4, 1, 0] rfl)
          · have hu24 : u24 = p := hu24
            subst hr24
            rw [hu24] at hP hD
            have hP : va_P (dC, dI) classes ([(qr, .inr (5, [.ref h0, .int (nI (o + 1))])), (h0, .inr (8, [.ref qb, .ref qu, .int uc, .int ln, .int (nI n), .int (nI p), .int pl])), (qb, .inl (cB, 4096, .inl bf)), (qu, .inl (cI, 4096, .inl ug))] ++ va_pl ((L ++ N)) f1) H := hP
            have hD : va_D A ([(qr, .inr (5, [.ref h0, .int (nI (o + 1))])), (h0, .inr (8, [.ref qb, .ref qu, .int uc, .int ln, .int (nI n), .int (nI p), .int pl])), (qb, .inl (cB, 4096, .inl bf)), (qu, .inl (cI, 4096, .inl ug))] ++ va_pl ((L ++ N)) f1) := hD
            refine lv_if_eq (tgt := 61) hx hb d_QueryReader_selectors_38 (by decide) (fun _ => ?_) (fun h => absurd (by decide) h)
            refine lv_aload_n hx hb d_QueryReader_selectors_61 rfl (lv_at hl 0 rfl) ?_
            refine lv_bipush (v := 93) hx hb d_QueryReader_selectors_62 (by decide) ?_
            obtain ⟨tl9, hSe, hln9, hDch9⟩ := hSL.fin (p := p) LD_mo hCh.2.1 (by rw [hCh.2.2.2.1]; decide) (slLD_e hmL (fun q => ht24 q.2))
            have hPc := hP.sub (ws' := [(qr, .inr (5, [.ref h0, .int (nI (o + 1))])), (h0, .inr (8, [.ref qb, .ref qu, .int uc, .int ln, .int (nI n), .int (nI p), .int pl])), (qb, .inl (cB, 4096, .inl bf)), (qu, .inl (cI, 4096, .inl ug))]) [0, 1, 2, 3] rfl
            have hDc := hD.sub (ws' := [(qr, .inr (5, [.ref h0, .int (nI (o + 1))])), (h0, .inr (8, [.ref qb, .ref qu, .int uc, .int ln, .int (nI n), .int (nI p), .int pl])), (qb, .inl (cB, 4096, .inl bf)), (qu, .inl (cI, 4096, .inl ug))]) [0, 1, 2, 3] (by decide) rfl
            have hFc := va_free (wc := [(qr, .inr (5, [.ref h0, .int (nI (o + 1))])), (h0, .inr (8, [.ref qb, .ref qu, .int uc, .int ln, .int (nI n), .int (nI p), .int pl])), (qb, .inl (cB, 4096, .inl bf)), (qu, .inl (cI, 4096, .inl ug))]) hD hS hA [0, 1, 2, 3] rfl
            have hKc := hK.sub (tys' := [(cB, .byte), (cI, .int)]) [0, 1] rfl
            refine w_same (fun hq0 => ?_)
            refine vx_callv (vx_runV (As := [.int 93]) (rest := []) ⟨hx, hb, hml, hown, hts⟩ (c_QueryReader_takeClosing l hl9 dC dI H cB cI h0 qb qu uc ln pl bf ug n p hn0 (by omega) qr o 93 (by decide)) (cwV 1 hts (gt_V (own := R_QueryReader) (C := R_QueryReader) (i := 104) (y := y_QueryReader_takeClosing) i_QueryReader_takeClosing z_705 z_707 (gt_sel (y := y_QueryReader_takeClosing) (n := 2) (by decide +kernel)) w_4) rfl rfl rfl (by decide +kernel) ⟨by show 10 + 1 ≤ 12 * (16 - o) + 12; omega, by show 8 + (2 + 11) + (170) ≤ 360 * (16 - o) + 360; omega⟩) ⟨mx_blind, va_recv hK hP (ci := 5) (q0 := 0) rfl rfl, fun U hU hW => ⟨rfl, ⟨hU, by rw [hU]; exact hPc, va_K.moved hW.alike hKc, hDc.weaken (fun _ _ _ _ => trivial)⟩, hN.warm hW, by rw [hU]; exact ZX.moved' hW.alike (ZX.narrow' (ZX.kept' hZ hS.2.1) hFc)⟩⟩ rfl rfl hl.1 rfl (lv_room (Nat.le_of_ble_eq_true rfl)) d_QueryReader_selectors_64 ⟨by show (8 * (p - i) - 6) + (1) ≤ 8 * (n - i) + 6; omega, by show (64 * (p - i) - 54) + (6) ≤ 64 * (n - i) + 90; omega⟩) hS (fun q _ h => hFc q h) hFc (fun q _ h => hFc q h) (fun En ce q9 ⟨ax, cx, px, gx, ox⟩ t9 H1 locs ht hvm hw hB hz1 hk1 hS hce hcv hcl => ?_) (fun _u t9 H1 locs ht hvm hw hB hz1 hk1 hS => ?_)
            · obtain ⟨hEn, hP1, hK1, hD1⟩ := hB
              rw [ht] at hP1
              obtain ⟨hP, hD⟩ := va_joinQ (wr := []) (w1 := [(qr, .inr (5, [.ref h0, .int ox])), (h0, .inr (8, [.ref qb, .ref qu, .int cx, .int ln, .int (nI n), .int ax, .int px])), (qb, .inl (cB, 4096, .inl bf)), (qu, .inl (cI, 4096, .inl gx))]) hP hD [0, 1, 2, 3] [] rfl rfl (by decide) (by decide) hk1 hFc hP1 hD1
              generalize H1 = H at hP hS hce ⊢
              have hP : va_P (dC, dI) classes ([(qr, .inr (5, [.ref h0, .int ox])), (h0, .inr (8, [.ref qb, .ref qu, .int cx, .int ln, .int (nI n), .int ax, .int px])), (qb, .inl (cB, 4096, .inl bf)), (qu, .inl (cI, 4096, .inl gx))] ++ va_pl ((L ++ N)) f1) H := hP
              have hD : va_D A ([(qr, .inr (5, [.ref h0, .int ox])), (h0, .inr (8, [.ref qb, .ref qu, .int cx, .int ln, .int (nI n), .int ax, .int px])), (qb, .inl (cB, 4096, .inl bf)), (qu, .inl (cI, 4096, .inl gx))] ++ va_pl ((L ++ N)) f1) := hD
              have hP := plP_cut (hP.part (cx := [(qr, .inr (5, [.ref h0, .int ox])), (h0, .inr (8, [.ref qb, .ref qu, .int cx, .int ln, .int (nI n), .int ax, .int px])), (qb, .inl (cB, 4096, .inl bf)), (qu, .inl (cI, 4096, .inl gx))]) [0, 1, 2, 3] rfl) hG.on
              have hD := plD_cut (hD.part (cx := [(qr, .inr (5, [.ref h0, .int ox])), (h0, .inr (8, [.ref qb, .ref qu, .int cx, .int ln, .int (nI n), .int ax, .int px])), (qb, .inl (cB, 4096, .inl bf)), (qu, .inl (cI, 4096, .inl gx))]) [0, 1, 2, 3] (by decide) rfl) hG.on
              have hno : (slsD bf n ok orL (nwB nw)) i = none := slsD_3 (hok.mpr ho1) hto21 hf22 hSe hw
              exact vx_out (fun x hx => (hex x hx).elim) hlocks hce hcv hcl (fun t9 ht2 ha => ⟨(ax, cx, px, gx, ox), hno, ⟨hEn, by rw [ht2]; exact hP, va_K.moved ha hK, hD⟩, hS.F ht2⟩) hS.2.2 (by show (8 * (p - i) - 6) + (1) ≤ 8 * (n - i) + 6; omega) (by show (64 * (p - i) - 54) + (6) ≤ 64 * (n - i) + 90; omega)
            · obtain ⟨⟨hP1, hK1, hD1⟩, hz9⟩ := hB
              rw [ht] at hP1
              rw [ht] at hz9
              refine w_tight (hq0.trans hz9) ?_
              have hq0 := hq0.trans hz9
              obtain ⟨hP, hD⟩ := va_joinQ (wr := []) (w1 := [(qr, .inr (5, [.ref h0, .int (nI o)])), (h0, .inr (8, [.ref qb, .ref qu, .int uc, .int ln, .int (nI n), .int (nI (p + 1)), .int pl])), (qb, .inl (cB, 4096, .inl bf)), (qu, .inl (cI, 4096, .inl ug))]) hP hD [0, 1, 2, 3] [] rfl rfl (by decide) (by decide) hk1 hFc hP1 hD1
              generalize H1 = H at hP hS hq0 ⊢
              have hP : va_P (dC, dI) classes ([(qr, .inr (5, [.ref h0, .int (nI o)])), (h0, .inr (8, [.ref qb, .ref qu, .int uc, .int ln, .int (nI n), .int (nI (p + 1)), .int pl])), (qb, .inl (cB, 4096, .inl bf)), (qu, .inl (cI, 4096, .inl ug))] ++ va_pl ((L ++ N)) f1) H := hP
              have hD : va_D A ([(qr, .inr (5, [.ref h0, .int (nI o)])), (h0, .inr (8, [.ref qb, .ref qu, .int uc, .int ln, .int (nI n), .int (nI (p + 1)), .int pl])), (qb, .inl (cB, 4096, .inl bf)), (qu, .inl (cI, 4096, .inl ug))] ++ va_pl ((L ++ N)) f1) := hD
              obtain ⟨hl26, htc26⟩ := hw
              have htc26 : hereV bf n p = 93 := htc26
              have hl26 : p < n := hl26
              refine lv_aload_n hx hb d_QueryReader_selectors_67 rfl (lv_at hl 2 rfl) ?_
              have hQr : QPn cI cV E L f i n s.heap.size 9 (5 * (16 - o)) 2 v22 ((p + 1)) N E1 f1 := ((hCh.mv (by omega) (by omega)).qp (by omega))
              have hfin : (slsD bf n ok orL (nwB nw)) i = some ((p + 1), sgL (f1 v22), m22 :: tl9) := slsD_ok (hok.mpr ho1) hto21 hf22 hSe htc26 (hLI.fin2 hln9)
              have hdn : DNc LD 8 E E1 f1 v22 (m22 :: tl9) := hDch9
              refine w_same (fun hq => ?_)
              refine W.widen (k := 8 * (n - i) + 6) (n := 64 * (n - i) + 90) (by show (8 * (p - i) - 6) ≤ 8 * (n - i) + 6; omega) (by show (64 * (p - i) - 54) ≤ 64 * (n - i) + 90; omega) ?_
              refine vx_ret ?_
              exact W.aret (v := .ref v22) hx hb hr (Or.inl ⟨_, rfl⟩) (Or.inr ⟨_, rfl⟩) (fun t9 ht hW => ⟨⟨(v22, (p + 1), N, E1, f1, uc, ug), v22, rfl, ⟨hQr, _, hfin, hdn⟩, ⟨by rw [ht]; exact hP, va_K.moved hW.alike hK, hD⟩, by rw [ht]; exact ⟨hq.mono (by show (8 * (p - i) - 6) ≤ 8 * ((p + 1) - i) + 0 - 6; omega) (by show (64 * (p - i) - 54) ≤ 64 * ((p + 1) - i) + 0 - 54; omega), rfl⟩⟩, hS.F ht⟩) hS.2.2 d_QueryReader_selectors_68
