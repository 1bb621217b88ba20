section
theorem z_52 : (.fieldLink "QueryBench$JsonReader" 30 "QueryBench$Tape" "at" "I" : Cond) ∈ gtbl := by sorry
theorem z_362 : (.methodLink "QueryBench$JsonReader" 49 ⟨"QueryBench$Tape", "here", "()I"⟩ : Cond) ∈ gtbl := by sorry
theorem z_370 : (.methodLink "QueryBench$JsonReader" 38 ⟨"QueryBench$Tape", "fail", "(I)V"⟩ : Cond) ∈ gtbl := by sorry
theorem z_392 : (.methodLink "QueryBench$JsonReader" 95 ⟨"QueryBench$Tape", "takeIf", "(I)Z"⟩ : Cond) ∈ gtbl := by sorry
theorem z_393 : (.instanceMethod ⟨"QueryBench$Tape", "takeIf", "(I)Z"⟩ : Cond) ∈ gtbl := by sorry
theorem z_394 : (.selects "QueryBench$Tape" ⟨"QueryBench$Tape", "takeIf", "(I)Z"⟩ ⟨"QueryBench$Tape", "takeIf", "(I)Z"⟩ : Cond) ∈ gtbl := by sorry
theorem z_512 : (.methodLink "QueryBench$JsonReader" 102 ⟨"QueryBench$Tape", "digits", "(I)J"⟩ : Cond) ∈ gtbl := by sorry
theorem z_513 : (.instanceMethod ⟨"QueryBench$Tape", "digits", "(I)J"⟩ : Cond) ∈ gtbl := by sorry
theorem z_514 : (.selects "QueryBench$Tape" ⟨"QueryBench$Tape", "digits", "(I)J"⟩ ⟨"QueryBench$Tape", "digits", "(I)J"⟩ : Cond) ∈ gtbl := by sorry
theorem nz_509 : (.methodLinkNest "QueryBench$JsonReader" 99 ⟨"QueryBench", "isDigit", "(I)Z"⟩ "QueryBench" : Cond) ∈ nwl := by sorry
abbrev b_JsonReader_number : ByteArray := prog_3_method_5_code
def y_JsonReader_number : MethodName := ⟨"QueryBench$JsonReader", "number", "()J"⟩
abbrev k_JsonReader_number : Cond := .code y_JsonReader_number b_JsonReader_number 6 (some .long)
theorem i_JsonReader_number : k_JsonReader_number ∈ gtbl := by sorry
theorem d_JsonReader_number_0 : decode b_JsonReader_number 0 = .ok (.aload_n 0, 1) := by sorry
theorem d_JsonReader_number_1 : decode b_JsonReader_number 1 = .ok (.getfield 9, 3) := by sorry
theorem d_JsonReader_number_4 : decode b_JsonReader_number 4 = .ok (.getfield 30, 3) := by sorry
theorem d_JsonReader_number_7 : decode b_JsonReader_number 7 = .ok (.istore_n 1, 1) := by sorry
theorem d_JsonReader_number_8 : decode b_JsonReader_number 8 = .ok (.aload_n 0, 1) := by sorry
theorem d_JsonReader_number_9 : decode b_JsonReader_number 9 = .ok (.getfield 9, 3) := by sorry
theorem d_JsonReader_number_12 : decode b_JsonReader_number 12 = .ok (.bipush 45, 2) := by sorry
theorem d_JsonReader_number_14 : decode b_JsonReader_number 14 = .ok (.invokevirtual 95, 3) := by sorry
theorem d_JsonReader_number_17 : decode b_JsonReader_number 17 = .ok (.istore_n 2, 1) := by sorry
theorem d_JsonReader_number_18 : decode b_JsonReader_number 18 = .ok (.aload_n 0, 1) := by sorry
theorem d_JsonReader_number_19 : decode b_JsonReader_number 19 = .ok (.getfield 9, 3) := by sorry
theorem d_JsonReader_number_22 : decode b_JsonReader_number 22 = .ok (.invokevirtual 49, 3) := by sorry
theorem d_JsonReader_number_25 : decode b_JsonReader_number 25 = .ok (.invokestatic 99, 3) := by sorry
theorem d_JsonReader_number_28 : decode b_JsonReader_number 28 = .ok (.ifCond .ne 17, 3) := by sorry
theorem d_JsonReader_number_31 : decode b_JsonReader_number 31 = .ok (.aload_n 0, 1) := by sorry
theorem d_JsonReader_number_32 : decode b_JsonReader_number 32 = .ok (.getfield 9, 3) := by sorry
theorem d_JsonReader_number_35 : decode b_JsonReader_number 35 = .ok (.aload_n 0, 1) := by sorry
theorem d_JsonReader_number_36 : decode b_JsonReader_number 36 = .ok (.getfield 9, 3) := by sorry
theorem d_JsonReader_number_39 : decode b_JsonReader_number 39 = .ok (.getfield 30, 3) := by sorry
theorem d_JsonReader_number_42 : decode b_JsonReader_number 42 = .ok (.invokevirtual 38, 3) := by sorry
theorem d_JsonReader_number_45 : decode b_JsonReader_number 45 = .ok (.aload_n 0, 1) := by sorry
theorem d_JsonReader_number_46 : decode b_JsonReader_number 46 = .ok (.getfield 9, 3) := by sorry
theorem d_JsonReader_number_49 : decode b_JsonReader_number 49 = .ok (.bipush 48, 2) := by sorry
theorem d_JsonReader_number_51 : decode b_JsonReader_number 51 = .ok (.invokevirtual 95, 3) := by sorry
theorem d_JsonReader_number_54 : decode b_JsonReader_number 54 = .ok (.ifCond .eq 7, 3) := by sorry
theorem d_JsonReader_number_57 : decode b_JsonReader_number 57 = .ok (.lconst 0, 1) := by sorry
theorem d_JsonReader_number_58 : decode b_JsonReader_number 58 = .ok (.goto 11, 3) := by sorry
theorem d_JsonReader_number_61 : decode b_JsonReader_number 61 = .ok (.aload_n 0, 1) := by sorry
theorem d_JsonReader_number_62 : decode b_JsonReader_number 62 = .ok (.getfield 9, 3) := by sorry
theorem d_JsonReader_number_65 : decode b_JsonReader_number 65 = .ok (.iload_n 1, 1) := by sorry
theorem d_JsonReader_number_66 : decode b_JsonReader_number 66 = .ok (.invokevirtual 102, 3) := by sorry
theorem d_JsonReader_number_69 : decode b_JsonReader_number 69 = .ok (.lstore_n 3, 1) := by sorry
theorem d_JsonReader_number_70 : decode b_JsonReader_number 70 = .ok (.aload_n 0, 1) := by sorry
theorem d_JsonReader_number_71 : decode b_JsonReader_number 71 = .ok (.getfield 9, 3) := by sorry
theorem d_JsonReader_number_74 : decode b_JsonReader_number 74 = .ok (.invokevirtual 49, 3) := by sorry
theorem d_JsonReader_number_77 : decode b_JsonReader_number 77 = .ok (.istore 5, 2) := by sorry
theorem d_JsonReader_number_79 : decode b_JsonReader_number 79 = .ok (.iload 5, 2) := by sorry
theorem d_JsonReader_number_81 : decode b_JsonReader_number 81 = .ok (.bipush 46, 2) := by sorry
theorem d_JsonReader_number_83 : decode b_JsonReader_number 83 = .ok (.if_icmp .eq 17, 3) := by sorry
theorem d_JsonReader_number_86 : decode b_JsonReader_number 86 = .ok (.iload 5, 2) := by sorry
theorem d_JsonReader_number_88 : decode b_JsonReader_number 88 = .ok (.bipush 101, 2) := by sorry
theorem d_JsonReader_number_90 : decode b_JsonReader_number 90 = .ok (.if_icmp .eq 10, 3) := by sorry
theorem d_JsonReader_number_93 : decode b_JsonReader_number 93 = .ok (.iload 5, 2) := by sorry
theorem d_JsonReader_number_95 : decode b_JsonReader_number 95 = .ok (.bipush 69, 2) := by sorry
theorem d_JsonReader_number_97 : decode b_JsonReader_number 97 = .ok (.if_icmp .ne 11, 3) := by sorry
theorem d_JsonReader_number_100 : decode b_JsonReader_number 100 = .ok (.aload_n 0, 1) := by sorry
theorem d_JsonReader_number_101 : decode b_JsonReader_number 101 = .ok (.getfield 9, 3) := by sorry
theorem d_JsonReader_number_104 : decode b_JsonReader_number 104 = .ok (.iload_n 1, 1) := by sorry
theorem d_JsonReader_number_105 : decode b_JsonReader_number 105 = .ok (.invokevirtual 38, 3) := by sorry
theorem d_JsonReader_number_108 : decode b_JsonReader_number 108 = .ok (.iload_n 2, 1) := by sorry
theorem d_JsonReader_number_109 : decode b_JsonReader_number 109 = .ok (.ifCond .eq 8, 3) := by sorry
theorem d_JsonReader_number_112 : decode b_JsonReader_number 112 = .ok (.lload_n 3, 1) := by sorry
theorem d_JsonReader_number_113 : decode b_JsonReader_number 113 = .ok (.lneg, 1) := by sorry
theorem d_JsonReader_number_114 : decode b_JsonReader_number 114 = .ok (.goto 4, 3) := by sorry
theorem d_JsonReader_number_117 : decode b_JsonReader_number 117 = .ok (.lload_n 3, 1) := by sorry
theorem d_JsonReader_number_118 : decode b_JsonReader_number 118 = .ok (.lreturn, 1) := by sorry
set_option maxHeartbeats 4000000 in
set_option maxRecDepth 100000 in
/-- JsonReader.number -/
theorem c_JsonReader_number (l : Launch) (hl9 : l.stackTraces = false) (dC : Nat → ClassId) (dI : Nat → Nat → Nat) (sz : Heap) (cB cI : ClassId) (h0 qb qu : Nat) (uc ln pl : Int32) (bf ug : Nat → Int32) (n i : Nat) (hn0 : n ≤ 4096) (hin : i ≤ n) (hbf : byR bf) (jr : Nat) (dp md : Int32) (la : Option Nat) : vx_Met l y_JsonReader_number (k_JsonReader_number :: gtbl) ({ frames := 10, cells := 1, slots := 6, locals := 170 }) (va_Pc [.ref jr] (mx dC dI ([(jr, .inr (1, [.ref h0, .int dp, .int md, va_rf la])), (h0, .inr (8, [.ref qb, .ref qu, .int uc, .int ln, .int (nI n), .int (nI i), .int pl])), (qb, .inl (cB, 4096, .inl bf)), (qu, .inl (cI, 4096, .inl ug))]) [(cB, .byte), (cI, .int)] sz)) (va_Ql (fun (r : Int64) (u : Nat) => i < u ∧ u ≤ n ∧ jN bf n i = some (r, u)) (fun u t9 => mz dC dI ([(jr, .inr (1, [.ref h0, .int dp, .int md, va_rf la])), (h0, .inr (8, [.ref qb, .ref qu, .int uc, .int ln, .int (nI n), .int (nI u), .int pl])), (qb, .inl (cB, 4096, .inl bf)), (qu, .inl (cI, 4096, .inl ug))]) [(cB, .byte), (cI, .int)] (va_A ([(jr, .inr (1, [.ref h0, .int dp, .int md, va_rf la])), (h0, .inr (8, [.ref qb, .ref qu, .int uc, .int ln, .int (nI n), .int (nI i), .int pl])), (qb, .inl (cB, 4096, .inl bf)), (qu, .inl (cI, 4096, .inl ug))]) sz.size) t9 ∧ szk sz t9.heap (0) (0)) (va_A ([(jr, .inr (1, [.ref h0, .int dp, .int md, va_rf la])), (h0, .inr (8, [.ref qb, .ref qu, .int uc, .int ln, .int (nI n), .int (nI i), .int pl])), (qb, .inl (cB, 4096, .inl bf)), (qu, .inl (cI, 4096, .inl ug))]) sz.size)) (vx_X (fun (u : Int32 × Int32 × Int32 × (Nat → Int32)) => jN bf n i = none) (fun En u t9 => En = UOX ∧ mz dC dI ([(jr, .inr (1, [.ref h0, .int dp, .int md, va_rf la])), (h0, .inr (8, [.ref qb, .ref qu, .int u.2.1, .int ln, .int (nI n), .int u.1, .int u.2.2.1])), (qb, .inl (cB, 4096, .inl bf)), (qu, .inl (cI, 4096, .inl u.2.2.2))]) [(cB, .byte), (cI, .int)] (va_A ([(jr, .inr (1, [.ref h0, .int dp, .int md, va_rf la])), (h0, .inr (8, [.ref qb, .ref qu, .int uc, .int ln, .int (nI n), .int (nI i), .int pl])), (qb, .inl (cB, 4096, .inl bf)), (qu, .inl (cI, 4096, .inl ug))]) sz.size) t9) (va_A ([(jr, .inr (1, [.ref h0, .int dp, .int md, va_rf la])), (h0, .inr (8, [.ref qb, .ref qu, .int uc, .int ln, .int (nI n), .int (nI i), .int pl])), (qb, .inl (cB, 4096, .inl bf)), (qu, .inl (cI, 4096, .inl ug))]) sz.size)) (1) (6) (va_A ([(jr, .inr (1, [.ref h0, .int dp, .int md, va_rf la])), (h0, .inr (8, [.ref qb, .ref qu, .int uc, .int ln, .int (nI n), .int (nI i), .int pl])), (qb, .inl (cB, 4096, .inl bf)), (qu, .inl (cI, 4096, .inl ug))]) sz.size) := by sorry
end
section
theorem z_83 : (.fieldLink "QueryBench$JsonReader" 19 "QueryBench$JsonReader" "made" "I" : Cond) ∈ gtbl := by sorry
theorem z_84 : (.fieldLink "QueryBench$JsonReader" 22 "QueryBench$JsonReader" "latest" "LQueryBench$Value;" : Cond) ∈ gtbl := by sorry
theorem z_306 : (.classLink "QueryBench$JsonReader" 53 "QueryBench$Value" : Cond) ∈ gtbl := by sorry
theorem z_307 : (.instantiable "QueryBench$Value" 10 : Cond) ∈ gtbl := by sorry
theorem z_308 : (.methodLink "QueryBench$JsonReader" 90 ⟨"QueryBench$Value", "<init>", "(I)V"⟩ : Cond) ∈ gtbl := by sorry
theorem z_309 : (.instanceMethod ⟨"QueryBench$Value", "<init>", "(I)V"⟩ : Cond) ∈ gtbl := by sorry
theorem z_311 : (.methodLink "QueryBench$Value" 3 ⟨"java/lang/Object", "<init>", "()V"⟩ : Cond) ∈ gtbl := by sorry
theorem z_337 : (.fieldLink "QueryBench$JsonReader" 92 "QueryBench$Value" "nextOfAll" "LQueryBench$Value;" : Cond) ∈ gtbl := by sorry
abbrev b_Value_init : ByteArray := prog_11_method_1_code
def y_Value_init : MethodName := ⟨"QueryBench$Value", "<init>", "(I)V"⟩
abbrev k_Value_init : Cond := .code y_Value_init b_Value_init 2 none
theorem i_Value_init : k_Value_init ∈ gtbl := by sorry
theorem d_Value_init_0 : decode b_Value_init 0 = .ok (.aload_n 0, 1) := by sorry
theorem d_Value_init_1 : decode b_Value_init 1 = .ok (.invokespecial 3, 3) := by sorry
theorem d_Value_init_4 : decode b_Value_init 4 = .ok (.aload_n 0, 1) := by sorry
theorem d_Value_init_5 : decode b_Value_init 5 = .ok (.iload_n 1, 1) := by sorry
theorem d_Value_init_6 : decode b_Value_init 6 = .ok (.putfield 9, 3) := by sorry
theorem d_Value_init_9 : decode b_Value_init 9 = .ok (.return_, 1) := by sorry
set_option maxHeartbeats 4000000 in
set_option maxRecDepth 100000 in
/-- Value() -/
theorem c_Value_init (l : Launch) (dC : Nat → ClassId) (dI : Nat → Nat → Nat) (sz : Heap) (q : Nat) (k : Int32) : Met l y_Value_init (k_Value_init :: gtbl) ({ frames := 1, cells := 0, slots := 0, locals := 20 }) (va_Pc [.ref q, .int k] (mp dC dI ([(q, .inr (9, [.int 0, .long 0, .null, .null, .null, .null, .int 0, .null, .null, .int 0]))]) [] sz)) (va_Qv (fun (u : Unit) => True) (fun u t9 => mz dC dI ([(q, .inr (9, [.int k, .long 0, .null, .null, .null, .null, .int 0, .null, .null, .int 0]))]) [] (va_A ([(q, .inr (9, [.int 0, .long 0, .null, .null, .null, .null, .int 0, .null, .null, .int 0]))]) sz.size) t9 ∧ szk sz t9.heap (0) (0)) (va_A ([(q, .inr (9, [.int 0, .long 0, .null, .null, .null, .null, .int 0, .null, .null, .int 0]))]) sz.size)) (0) (0) (va_A ([(q, .inr (9, [.int 0, .long 0, .null, .null, .null, .null, .int 0, .null, .null, .int 0]))]) sz.size) := by sorry
abbrev b_JsonReader_fresh : ByteArray := prog_3_method_4_code
def y_JsonReader_fresh : MethodName := ⟨"QueryBench$JsonReader", "fresh", "()LQueryBench$Value;"⟩
abbrev k_JsonReader_fresh : Cond := .code y_JsonReader_fresh b_JsonReader_fresh 2 (some (.object "QueryBench$Value"))
theorem i_JsonReader_fresh : k_JsonReader_fresh ∈ gtbl := by sorry
theorem d_JsonReader_fresh_0 : decode b_JsonReader_fresh 0 = .ok (.new 53, 3) := by sorry
theorem d_JsonReader_fresh_3 : decode b_JsonReader_fresh 3 = .ok (.dup, 1) := by sorry
theorem d_JsonReader_fresh_4 : decode b_JsonReader_fresh 4 = .ok (.iconst 0, 1) := by sorry
theorem d_JsonReader_fresh_5 : decode b_JsonReader_fresh 5 = .ok (.invokespecial 90, 3) := by sorry
theorem d_JsonReader_fresh_8 : decode b_JsonReader_fresh 8 = .ok (.astore_n 1, 1) := by sorry
theorem d_JsonReader_fresh_9 : decode b_JsonReader_fresh 9 = .ok (.aload_n 0, 1) := by sorry
theorem d_JsonReader_fresh_10 : decode b_JsonReader_fresh 10 = .ok (.getfield 22, 3) := by sorry
theorem d_JsonReader_fresh_13 : decode b_JsonReader_fresh 13 = .ok (.ifnull 11, 3) := by sorry
theorem d_JsonReader_fresh_16 : decode b_JsonReader_fresh 16 = .ok (.aload_n 0, 1) := by sorry
theorem d_JsonReader_fresh_17 : decode b_JsonReader_fresh 17 = .ok (.getfield 22, 3) := by sorry
theorem d_JsonReader_fresh_20 : decode b_JsonReader_fresh 20 = .ok (.aload_n 1, 1) := by sorry
theorem d_JsonReader_fresh_21 : decode b_JsonReader_fresh 21 = .ok (.putfield 92, 3) := by sorry
theorem d_JsonReader_fresh_24 : decode b_JsonReader_fresh 24 = .ok (.aload_n 0, 1) := by sorry
theorem d_JsonReader_fresh_25 : decode b_JsonReader_fresh 25 = .ok (.aload_n 1, 1) := by sorry
theorem d_JsonReader_fresh_26 : decode b_JsonReader_fresh 26 = .ok (.putfield 22, 3) := by sorry
theorem d_JsonReader_fresh_29 : decode b_JsonReader_fresh 29 = .ok (.aload_n 0, 1) := by sorry
theorem d_JsonReader_fresh_30 : decode b_JsonReader_fresh 30 = .ok (.dup, 1) := by sorry
theorem d_JsonReader_fresh_31 : decode b_JsonReader_fresh 31 = .ok (.getfield 19, 3) := by sorry
theorem d_JsonReader_fresh_34 : decode b_JsonReader_fresh 34 = .ok (.iconst 1, 1) := by sorry
theorem d_JsonReader_fresh_35 : decode b_JsonReader_fresh 35 = .ok (.iadd, 1) := by sorry
theorem d_JsonReader_fresh_36 : decode b_JsonReader_fresh 36 = .ok (.putfield 19, 3) := by sorry
theorem d_JsonReader_fresh_39 : decode b_JsonReader_fresh 39 = .ok (.aload_n 1, 1) := by sorry
theorem d_JsonReader_fresh_40 : decode b_JsonReader_fresh 40 = .ok (.areturn, 1) := by sorry
/-- a value's new nextOfAll -/
theorem PO.nxt {cI cV : ClassId} {E lv : Nat → Nat} {L : List Nat} {f : Nat → va_E} {q lb : Nat} (h : PO cI cV E lv L f) (hq : E q = 0) (hlb : isV E lb) {kd : Int32} {nu : Int64} {tx me pa na : Option Nat} {ix : Int32} {nm no : Option Nat} {sp : Int32} (ef : f lb = vE kd nu tx me pa na ix nm no sp) (hv : VO E lb kd tx me pa na nm no) :
    PO cI cV (va_up E q 1) lv (L ++ [q]) (va_up (va_up f lb (vE kd nu tx me pa na ix nm (some q) sp)) q (vE 0 0 none none none none 0 none none 0)) := by sorry
theorem PO.nxt0 {cI cV : ClassId} {E lv : Nat → Nat} {L : List Nat} {f : Nat → va_E} {q : Nat} (h : PO cI cV E lv L f) (hq : E q = 0) : PO cI cV (va_up E q 1) lv (L ++ [q]) (va_up f q (vE 0 0 none none none none 0 none none 0)) := by sorry
set_option maxHeartbeats 4000000 in
set_option maxRecDepth 100000 in
/-- JsonReader.fresh -/
theorem c_JsonReader_fresh (l : Launch) (K : Nat → Nat × Nat) (dC : Nat → ClassId) (dI : Nat → Nat → Nat) (sz : Heap) (cI cV : ClassId) (E lv : Nat → Nat) (L : List Nat) (f : Nat → va_E) (hO : PO cI cV E lv L f) (jr h0 : Nat) (dp md : Int32) (la : Option Nat) (hla : oR (isV E) la) : Met l y_JsonReader_fresh (k_JsonReader_fresh :: gtbl) ({ frames := 2, cells := 1, slots := 10, locals := 60 }) (va_Pc [.ref jr] (ml K dC dI ([(jr, .inr (1, [.ref h0, .int dp, .int md, va_rf la]))] ++ va_pl L f) [(cI, .int), (cV, .object "QueryBench$Value")] sz)) (va_Qr (fun (u : Nat × (Nat → va_E)) => PO cI cV (va_up E u.1 1) lv (L ++ [u.1]) u.2 ∧ E u.1 = 0 ∧ u.2 u.1 = vE 0 0 none none none none 0 none none 0 ∧ KX E la f u.2 ∧ ∀ z, la = some z → refE 8 (u.2 z) = some u.1) (fun u a9 t9 => mz dC dI ([(jr, .inr (1, [.ref h0, .int dp, .int (md + 1), .ref u.1]))] ++ va_pl ((L ++ [u.1])) u.2) [(cI, .int), (cV, .object "QueryBench$Value")] (va_A ([(jr, .inr (1, [.ref h0, .int dp, .int md, va_rf la]))] ++ va_pl L f) sz.size) t9 ∧ szk sz t9.heap (1) (10) ∧ a9 = u.1) (va_A ([(jr, .inr (1, [.ref h0, .int dp, .int md, va_rf la]))] ++ va_pl L f) sz.size)) (1) (10) (va_A ([(jr, .inr (1, [.ref h0, .int dp, .int md, va_rf la]))] ++ va_pl L f) sz.size) := by sorry
end
section
theorem z_298 : (.methodLink "QueryBench$JsonReader" 42 ⟨"QueryBench$Tape", "skipBlanks", "()V"⟩ : Cond) ∈ gtbl := by sorry
theorem z_299 : (.instanceMethod ⟨"QueryBench$Tape", "skipBlanks", "()V"⟩ : Cond) ∈ gtbl := by sorry
theorem z_300 : (.selects "QueryBench$Tape" ⟨"QueryBench$Tape", "skipBlanks", "()V"⟩ ⟨"QueryBench$Tape", "skipBlanks", "()V"⟩ : Cond) ∈ gtbl := by sorry
theorem z_333 : (.fieldLink "QueryBench$JsonReader" 126 "QueryBench$Value" "name" "[I" : Cond) ∈ gtbl := by sorry
theorem z_336 : (.fieldLink "QueryBench$JsonReader" 132 "QueryBench$Value" "nextMember" "LQueryBench$Value;" : Cond) ∈ gtbl := by sorry
theorem z_405 : (.methodLink "QueryBench$JsonReader" 62 ⟨"QueryBench$Tape", "quoted", "()[I"⟩ : Cond) ∈ gtbl := by sorry
theorem z_406 : (.instanceMethod ⟨"QueryBench$Tape", "quoted", "()[I"⟩ : Cond) ∈ gtbl := by sorry
theorem z_407 : (.selects "QueryBench$Tape" ⟨"QueryBench$Tape", "quoted", "()[I"⟩ ⟨"QueryBench$Tape", "quoted", "()[I"⟩ : Cond) ∈ gtbl := by sorry
theorem z_446 : (.methodLink "QueryBench$JsonReader" 116 ⟨"QueryBench$Tape", "take", "(I)V"⟩ : Cond) ∈ gtbl := by sorry
theorem nz_443 : (.methodLinkNest "QueryBench$JsonReader" 142 ⟨"QueryBench", "sameText", "([I[I)Z"⟩ "QueryBench" : Cond) ∈ nwl := by sorry
/-- a row of units comes to the pool -/
theorem PO.addT {cI cV : ClassId} {E lv : Nat → Nat} {L : List Nat} {f : Nat → va_E} {q k : Nat} {g : Nat → Int32} (h : PO cI cV E lv L f) (hq : E q = 0) (hk : k ≤ 4096) : PO cI cV (va_up E q 4) lv (L ++ [q]) (va_up f q (tE cI k g)) := by sorry
/-- a chain of members -/
def CHM (E : Nat → Nat) (f : Nat → va_E) (P : Nat → Prop) (ms : List Nat) : Prop := ∀ (j a : Nat), ms[j]? = some a → E a ≠ 0 ∧ isV E a ∧ P a ∧ nmF f a = ms[j + 1]?
theorem qtN_le {f : Nat → Int32} {n i : Nat} (hi : i < n) : qtN f n i ≤ n - i := by sorry
abbrev b_JsonReader_row : ByteArray := prog_3_method_9_code
def y_JsonReader_row : MethodName := ⟨"QueryBench$JsonReader", "row", "(LQueryBench$Value;I)[LQueryBench$Value;"⟩
abbrev k_JsonReader_row : Cond := .code y_JsonReader_row b_JsonReader_row 5 (some (.array (.object "QueryBench$Value")))
theorem i_JsonReader_row : k_JsonReader_row ∈ gtbl := by sorry
theorem d_JsonReader_row_0 : decode b_JsonReader_row 0 = .ok (.iload_n 1, 1) := by sorry
theorem d_JsonReader_row_1 : decode b_JsonReader_row 1 = .ok (.anewarray 53, 3) := by sorry
theorem d_JsonReader_row_4 : decode b_JsonReader_row 4 = .ok (.astore_n 2, 1) := by sorry
theorem d_JsonReader_row_5 : decode b_JsonReader_row 5 = .ok (.iconst 0, 1) := by sorry
theorem d_JsonReader_row_6 : decode b_JsonReader_row 6 = .ok (.istore_n 3, 1) := by sorry
theorem d_JsonReader_row_7 : decode b_JsonReader_row 7 = .ok (.aload_n 0, 1) := by sorry
theorem d_JsonReader_row_8 : decode b_JsonReader_row 8 = .ok (.astore 4, 2) := by sorry
theorem d_JsonReader_row_10 : decode b_JsonReader_row 10 = .ok (.aload 4, 2) := by sorry
theorem d_JsonReader_row_12 : decode b_JsonReader_row 12 = .ok (.ifnull 26, 3) := by sorry
theorem d_JsonReader_row_15 : decode b_JsonReader_row 15 = .ok (.iload_n 3, 1) := by sorry
theorem d_JsonReader_row_16 : decode b_JsonReader_row 16 = .ok (.iload_n 1, 1) := by sorry
theorem d_JsonReader_row_17 : decode b_JsonReader_row 17 = .ok (.if_icmp .ge 21, 3) := by sorry
theorem d_JsonReader_row_20 : decode b_JsonReader_row 20 = .ok (.aload_n 2, 1) := by sorry
theorem d_JsonReader_row_21 : decode b_JsonReader_row 21 = .ok (.iload_n 3, 1) := by sorry
theorem d_JsonReader_row_22 : decode b_JsonReader_row 22 = .ok (.aload 4, 2) := by sorry
theorem d_JsonReader_row_24 : decode b_JsonReader_row 24 = .ok (.aastore, 1) := by sorry
theorem d_JsonReader_row_25 : decode b_JsonReader_row 25 = .ok (.iinc 3 1, 3) := by sorry
theorem d_JsonReader_row_28 : decode b_JsonReader_row 28 = .ok (.aload 4, 2) := by sorry
theorem d_JsonReader_row_30 : decode b_JsonReader_row 30 = .ok (.getfield 132, 3) := by sorry
theorem d_JsonReader_row_33 : decode b_JsonReader_row 33 = .ok (.astore 4, 2) := by sorry
theorem d_JsonReader_row_35 : decode b_JsonReader_row 35 = .ok (.goto (-25), 3) := by sorry
theorem d_JsonReader_row_38 : decode b_JsonReader_row 38 = .ok (.aload_n 2, 1) := by sorry
theorem d_JsonReader_row_39 : decode b_JsonReader_row 39 = .ok (.areturn, 1) := by sorry
set_option maxHeartbeats 4000000 in
set_option maxRecDepth 100000 in
/-- JsonReader.row -/
theorem c_JsonReader_row (l : Launch) (K : Nat → Nat × Nat) (dC : Nat → ClassId) (dI : Nat → Nat → Nat) (sz : Heap) (cI cV : ClassId) (E lv : Nat → Nat) (L : List Nat) (f : Nat → va_E) (hO : PO cI cV E lv L f) (fo : Option Nat) (ms : List Nat) (hfo : fo = ms[0]?) (hlm : ms.length ≤ 4096) (P9 : Nat → Prop) (hms : CHM E f P9 ms) : Met l y_JsonReader_row (k_JsonReader_row :: gtbl) ({ frames := 0, cells := 1, slots := ms.length, locals := 0 }) (va_Pc [va_rf fo, .int (nI ms.length)] (ml K dC dI ([] ++ va_pl L f) [(cI, .int), (cV, .object "QueryBench$Value")] sz)) (va_Qr (fun (u : Nat × (Nat → Option Nat)) => ∀ k, k < ms.length → u.2 k = ms[k]?) (fun u a9 t9 => mz dC dI ([(u.1, .inl (cV, ms.length, .inr (.inr (.inr (.inr u.2)))))] ++ va_pl L f) [(cI, .int), (cV, .object "QueryBench$Value")] (va_A ([] ++ va_pl L f) sz.size) t9 ∧ szk sz t9.heap (1) (ms.length) ∧ a9 = u.1) (va_A ([] ++ va_pl L f) sz.size)) (1) (ms.length) (va_A ([] ++ va_pl L f) sz.size) := by sorry
abbrev b_JsonReader_newName : ByteArray := prog_3_method_8_code
def y_JsonReader_newName : MethodName := ⟨"QueryBench$JsonReader", "newName", "(LQueryBench$Value;)[I"⟩
abbrev k_JsonReader_newName : Cond := .code y_JsonReader_newName b_JsonReader_newName 5 (some (.array .int))
theorem i_JsonReader_newName : k_JsonReader_newName ∈ gtbl := by sorry
theorem d_JsonReader_newName_0 : decode b_JsonReader_newName 0 = .ok (.aload_n 0, 1) := by sorry
theorem d_JsonReader_newName_1 : decode b_JsonReader_newName 1 = .ok (.getfield 9, 3) := by sorry
theorem d_JsonReader_newName_4 : decode b_JsonReader_newName 4 = .ok (.invokevirtual 42, 3) := by sorry
theorem d_JsonReader_newName_7 : decode b_JsonReader_newName 7 = .ok (.aload_n 0, 1) := by sorry
theorem d_JsonReader_newName_8 : decode b_JsonReader_newName 8 = .ok (.getfield 9, 3) := by sorry
theorem d_JsonReader_newName_11 : decode b_JsonReader_newName 11 = .ok (.getfield 30, 3) := by sorry
theorem d_JsonReader_newName_14 : decode b_JsonReader_newName 14 = .ok (.istore_n 2, 1) := by sorry
theorem d_JsonReader_newName_15 : decode b_JsonReader_newName 15 = .ok (.aload_n 0, 1) := by sorry
theorem d_JsonReader_newName_16 : decode b_JsonReader_newName 16 = .ok (.getfield 9, 3) := by sorry
theorem d_JsonReader_newName_19 : decode b_JsonReader_newName 19 = .ok (.invokevirtual 49, 3) := by sorry
theorem d_JsonReader_newName_22 : decode b_JsonReader_newName 22 = .ok (.bipush 34, 2) := by sorry
theorem d_JsonReader_newName_24 : decode b_JsonReader_newName 24 = .ok (.if_icmp .eq 11, 3) := by sorry
theorem d_JsonReader_newName_27 : decode b_JsonReader_newName 27 = .ok (.aload_n 0, 1) := by sorry
theorem d_JsonReader_newName_28 : decode b_JsonReader_newName 28 = .ok (.getfield 9, 3) := by sorry
theorem d_JsonReader_newName_31 : decode b_JsonReader_newName 31 = .ok (.iload_n 2, 1) := by sorry
theorem d_JsonReader_newName_32 : decode b_JsonReader_newName 32 = .ok (.invokevirtual 38, 3) := by sorry
theorem d_JsonReader_newName_35 : decode b_JsonReader_newName 35 = .ok (.aload_n 0, 1) := by sorry
theorem d_JsonReader_newName_36 : decode b_JsonReader_newName 36 = .ok (.getfield 9, 3) := by sorry
theorem d_JsonReader_newName_39 : decode b_JsonReader_newName 39 = .ok (.invokevirtual 62, 3) := by sorry
theorem d_JsonReader_newName_42 : decode b_JsonReader_newName 42 = .ok (.astore_n 3, 1) := by sorry
theorem d_JsonReader_newName_43 : decode b_JsonReader_newName 43 = .ok (.aload_n 1, 1) := by sorry
theorem d_JsonReader_newName_44 : decode b_JsonReader_newName 44 = .ok (.astore 4, 2) := by sorry
theorem d_JsonReader_newName_46 : decode b_JsonReader_newName 46 = .ok (.aload 4, 2) := by sorry
theorem d_JsonReader_newName_48 : decode b_JsonReader_newName 48 = .ok (.ifnull 33, 3) := by sorry
theorem d_JsonReader_newName_51 : decode b_JsonReader_newName 51 = .ok (.aload 4, 2) := by sorry
theorem d_JsonReader_newName_53 : decode b_JsonReader_newName 53 = .ok (.getfield 126, 3) := by sorry
theorem d_JsonReader_newName_56 : decode b_JsonReader_newName 56 = .ok (.aload_n 3, 1) := by sorry
theorem d_JsonReader_newName_57 : decode b_JsonReader_newName 57 = .ok (.invokestatic 142, 3) := by sorry
theorem d_JsonReader_newName_60 : decode b_JsonReader_newName 60 = .ok (.ifCond .eq 11, 3) := by sorry
theorem d_JsonReader_newName_63 : decode b_JsonReader_newName 63 = .ok (.aload_n 0, 1) := by sorry
theorem d_JsonReader_newName_64 : decode b_JsonReader_newName 64 = .ok (.getfield 9, 3) := by sorry
theorem d_JsonReader_newName_67 : decode b_JsonReader_newName 67 = .ok (.iload_n 2, 1) := by sorry
theorem d_JsonReader_newName_68 : decode b_JsonReader_newName 68 = .ok (.invokevirtual 38, 3) := by sorry
theorem d_JsonReader_newName_71 : decode b_JsonReader_newName 71 = .ok (.aload 4, 2) := by sorry
theorem d_JsonReader_newName_73 : decode b_JsonReader_newName 73 = .ok (.getfield 132, 3) := by sorry
theorem d_JsonReader_newName_76 : decode b_JsonReader_newName 76 = .ok (.astore 4, 2) := by sorry
theorem d_JsonReader_newName_78 : decode b_JsonReader_newName 78 = .ok (.goto (-32), 3) := by sorry
theorem d_JsonReader_newName_81 : decode b_JsonReader_newName 81 = .ok (.aload_n 0, 1) := by sorry
theorem d_JsonReader_newName_82 : decode b_JsonReader_newName 82 = .ok (.getfield 9, 3) := by sorry
theorem d_JsonReader_newName_85 : decode b_JsonReader_newName 85 = .ok (.invokevirtual 42, 3) := by sorry
theorem d_JsonReader_newName_88 : decode b_JsonReader_newName 88 = .ok (.aload_n 0, 1) := by sorry
theorem d_JsonReader_newName_89 : decode b_JsonReader_newName 89 = .ok (.getfield 9, 3) := by sorry
theorem d_JsonReader_newName_92 : decode b_JsonReader_newName 92 = .ok (.bipush 58, 2) := by sorry
theorem d_JsonReader_newName_94 : decode b_JsonReader_newName 94 = .ok (.invokevirtual 116, 3) := by sorry
theorem d_JsonReader_newName_97 : decode b_JsonReader_newName 97 = .ok (.aload_n 3, 1) := by sorry
theorem d_JsonReader_newName_98 : decode b_JsonReader_newName 98 = .ok (.areturn, 1) := by sorry
theorem va_pl_off {L : List Nat} {f : Nat → va_E} {q : Nat} {e : va_E} (h : q ∉ L) : va_pl L (va_up f q e) = va_pl L f := by sorry
set_option maxHeartbeats 4000000 in
set_option maxRecDepth 100000 in
/-- JsonReader.newName -/
theorem c_JsonReader_newName (l : Launch) (hl9 : l.stackTraces = false) (K : Nat → Nat × Nat) (dC : Nat → ClassId) (dI : Nat → Nat → Nat) (sz : Heap) (cI cV : ClassId) (E lv : Nat → Nat) (L : List Nat) (f : Nat → va_E) (hO : PO cI cV E lv L f) (cB : ClassId) (h0 qb qu : Nat) (uc ln pl : Int32) (bf ug : Nat → Int32) (n i : Nat) (hn0 : n ≤ 4096) (hin : i ≤ n) (jr : Nat) (dp md : Int32) (la fo : Option Nat) (ms : List Nat) (hfo : fo = ms[0]?) (hms : CHM E f (fun a => E a = 3) ms) (nms : List (List Int32)) (hnm : NMs f ms nms) : vx_Met l y_JsonReader_newName (k_JsonReader_newName :: gtbl) ({ frames := 11, cells := 2, slots := 12 + (n - i), locals := 200 }) (va_Pc [.ref jr, va_rf fo] (ml K dC dI ([(jr, .inr (1, [.ref h0, .int dp, .int md, va_rf la])), (h0, .inr (8, [.ref qb, .ref qu, .int uc, .int ln, .int (nI n), .int (nI i), .int pl])), (qb, .inl (cB, 4096, .inl bf)), (qu, .inl (cI, 4096, .inl ug))] ++ va_pl L f) [(cB, .byte), (cI, .int), (cV, .object "QueryBench$Value")] sz)) (va_Qr (fun (u : Nat × Nat × Int32 × (Nat → Int32) × (Nat → Nat) × (Nat → va_E)) => i + 2 ≤ u.2.1 ∧ u.2.1 ≤ n ∧ PO cI cV u.2.2.2.2.1 lv (L ++ [u.1]) u.2.2.2.2.2 ∧ E u.1 = 0 ∧ EX E u.2.2.2.2.1 ∧ u.2.2.2.2.1 u.1 = 4 ∧ (∀ a, E a ≠ 0 → u.2.2.2.2.2 a = f a) ∧ (∀ a, E a = 0 → u.2.2.2.2.1 a ≠ 1) ∧ jNam bf n nms i = some (txL u.2.2.2.2.2 u.1, u.2.1)) (fun u a9 t9 => mz dC dI ([(jr, .inr (1, [.ref h0, .int dp, .int md, va_rf la])), (h0, .inr (8, [.ref qb, .ref qu, .int u.2.2.1, .int ln, .int (nI n), .int (nI u.2.1), .int pl])), (qb, .inl (cB, 4096, .inl bf)), (qu, .inl (cI, 4096, .inl u.2.2.2.1))] ++ va_pl ((L ++ [u.1])) u.2.2.2.2.2) [(cB, .byte), (cI, .int), (cV, .object "QueryBench$Value")] (va_A ([(jr, .inr (1, [.ref h0, .int dp, .int md, va_rf la])), (h0, .inr (8, [.ref qb, .ref qu, .int uc, .int ln, .int (nI n), .int (nI i), .int pl])), (qb, .inl (cB, 4096, .inl bf)), (qu, .inl (cI, 4096, .inl ug))] ++ va_pl L f) sz.size) t9 ∧ szk sz t9.heap (1) (u.2.1 - i) ∧ a9 = u.1) (va_A ([(jr, .inr (1, [.ref h0, .int dp, .int md, va_rf la])), (h0, .inr (8, [.ref qb, .ref qu, .int uc, .int ln, .int (nI n), .int (nI i), .int pl])), (qb, .inl (cB, 4096, .inl bf)), (qu, .inl (cI, 4096, .inl ug))] ++ va_pl L f) sz.size)) (vx_X (fun (u : Int32 × Int32 × Int32 × (Nat → Int32)) => jNam bf n nms i = none) (fun En u t9 => En = UOX ∧ mz dC dI ([(jr, .inr (1, [.ref h0, .int dp, .int md, va_rf la])), (h0, .inr (8, [.ref qb, .ref qu, .int u.2.1, .int ln, .int (nI n), .int u.1, .int u.2.2.1])), (qb, .inl (cB, 4096, .inl bf)), (qu, .inl (cI, 4096, .inl u.2.2.2))] ++ va_pl L f) [(cB, .byte), (cI, .int), (cV, .object "QueryBench$Value")] (va_A ([(jr, .inr (1, [.ref h0, .int dp, .int md, va_rf la])), (h0, .inr (8, [.ref qb, .ref qu, .int uc, .int ln, .int (nI n), .int (nI i), .int pl])), (qb, .inl (cB, 4096, .inl bf)), (qu, .inl (cI, 4096, .inl ug))] ++ va_pl L f) sz.size) t9) (va_A ([(jr, .inr (1, [.ref h0, .int dp, .int md, va_rf la])), (h0, .inr (8, [.ref qb, .ref qu, .int uc, .int ln, .int (nI n), .int (nI i), .int pl])), (qb, .inl (cB, 4096, .inl bf)), (qu, .inl (cI, 4096, .inl ug))] ++ va_pl L f) sz.size)) (2) (12 + (n - i)) (va_A ([(jr, .inr (1, [.ref h0, .int dp, .int md, va_rf la])), (h0, .inr (8, [.ref qb, .ref qu, .int uc, .int ln, .int (nI n), .int (nI i), .int pl])), (qb, .inl (cB, 4096, .inl bf)), (qu, .inl (cI, 4096, .inl ug))] ++ va_pl L f) sz.size) := by sorry
end
section
/-- a loop, with what has come to the heap -/
theorem w_loopG {p : Program} {l : Launch} {e : Env} {R : Room} {s : State} {m : MethodId} {args : Array Value} {below : List Frame} {meth : Method} {c : Code} {Q : State → Prop} {cells slots nL : Nat} {A : Nat → Prop} {H0 : Heap} {D : va_G} {cl : List vw_C} (pc : Nat) {σ : Type} (Inv : σ → Heap → Prop) (ms : σ → Nat) (ws : σ → va_W) (lv : σ → List (Nat × Value))
    (step : ∀ (x : σ) (H : Heap) (locs : List Loc) (ls : Array Slot), Inv x H → (∀ (y : σ) (H : Heap) (locs : List Loc) (ls : Array Slot), Inv y H → ms y < ms x → va_P D cl (ws y) H → va_D A (ws y) → va_S A H0 H locs → lv_has ls nL (lv y) → W p l e R s m args below meth c H locs cells slots Q (F0 m pc ls [])) → va_P D cl (ws x) H → va_D A (ws x) → va_S A H0 H locs → lv_has ls nL (lv x) → W p l e R s m args below meth c H locs cells slots Q (F0 m pc ls []))
    (x : σ) {H : Heap} {locs : List Loc} {ls : Array Slot} (h : Inv x H) (hP : va_P D cl (ws x) H) (hD : va_D A (ws x)) (hS : va_S A H0 H locs) (hl : lv_has ls nL (lv x)) : W p l e R s m args below meth c H locs cells slots Q (F0 m pc ls []) := by sorry
/-- each stands once -/
def INJ (ms : List Nat) : Prop := ∀ (j k a : Nat), ms[j]? = some a → ms[k]? = some a → j = k
theorem at_app {ms : List Nat} {v j a : Nat} (h : (ms ++ [v])[j]? = some a) : (j < ms.length ∧ ms[j]? = some a) ∨ (j = ms.length ∧ a = v) := by sorry
theorem INJ.app {ms : List Nat} {v : Nat} (h : INJ ms) (hv : v ∉ ms) : INJ (ms ++ [v]) := by sorry
theorem CHM.app {E1 E2 : Nat → Nat} {f1 f2 : Nat → va_E} {P P2 : Nat → Prop} {ms : List Nat} {v : Nat} (h : CHM E1 f1 P ms) (hi : INJ ms) (hE : ∀ a, a ∈ ms → E2 a ≠ 0 ∧ isV E2 a ∧ P2 a) (hv : E2 v ≠ 0 ∧ isV E2 v ∧ P2 v) (hnv : nmF f2 v = none) (hl : ∀ z, ms[ms.length - 1]? = some z → nmF f2 z = some v) (ho : ∀ a, a ∈ ms → ms[ms.length - 1]? ≠ some a → nmF f2 a = nmF f1 a) : CHM E2 f2 P2 (ms ++ [v]) := by sorry
/-- a member has come, the first -/
theorem PO.mem1st {cI cV : ClassId} {E lv : Nat → Nat} {L : List Nat} {f : Nat → va_E} {v it s : Nat} {na' : Option Nat} {ix' : Int32} (h : PO cI cV E lv L f) (hv : E v = 2) {kd : Int32} {nu : Int64} {tx me pa na : Option Nat} {ix : Int32} {no : Option Nat} {sp : Int32} (ef : f v = vE kd nu tx me pa na ix none no sp) (hit : isV E it) (hna : oR (fun b => E b = 4) na') (hs : s = 2 ∨ (s = 3 ∧ na' ≠ none)) :
    EL E (va_up E v s) ∧ PO cI cV (va_up E v s) lv L (va_up f v (vE kd nu tx me (some it) na' ix' none no sp)) := by sorry
/-- the member before it leads to it -/
theorem PO.linkz {cI cV : ClassId} {E lv : Nat → Nat} {L : List Nat} {f : Nat → va_E} {v z : Nat} (h : PO cI cV E lv L f) (hz : isV E z) (hv : isV E v) {kd : Int32} {nu : Int64} {tx me pa na : Option Nat} {ix : Int32} {nm no : Option Nat} {sp : Int32} (ef : f z = vE kd nu tx me pa na ix nm no sp) (h3 : E z = 3 → E v = 3) : PO cI cV E lv L (va_up f z (vE kd nu tx me pa na ix (some v) no sp)) := by sorry
/-- the row of members -/
theorem PO.memR {cI cV : ClassId} {E lv : Nat → Nat} {L : List Nat} {f : Nat → va_E} {it ra s k : Nat} {g : Nat → Option Nat} (h : PO cI cV E lv L f) (hit : E it = 1) (hra : E ra = 0) (hk : k ≤ 4096) {kd : Int32} {nu : Int64} {no : Option Nat} {ix sp : Int32} (ef : f it = vE kd nu none none none none ix none no sp) (hg : ∀ j, j < k → ∃ b, g j = some b ∧ isF E b ∧ (s = 6 → E b = 3)) (hs : s = 5 ∨ s = 6) :
    PO cI cV (va_up E ra s) lv (L ++ [ra]) (va_up (va_up f it (vE kd nu none (some ra) none none ix none no sp)) ra (aE cV k g)) := by sorry
end
section
/-- what a value that has been read leaves -/
def JP (cI cV : ClassId) (E lv : Nat → Nat) (L : List Nat) (f : Nat → va_E) (la : Option Nat) (i n v p : Nat) (N : List Nat) (E' : Nat → Nat) (f' : Nat → va_E) (lb : Nat) : Prop := i < p ∧ p ≤ n ∧ PO cI cV E' lv (L ++ N) f' ∧ EX E E' ∧ (∀ a, E a = 0 → E' a ≠ 1) ∧ KX E la f f' ∧ isV E' lb ∧ E lb = 0 ∧ E' v = 2 ∧ E v = 0 ∧ nmF f' v = none
/-- what a container's members leave -/
def MP (cI cV : ClassId) (E lv : Nat → Nat) (L : List Nat) (f : Nat → va_E) (it i n p : Nat) (kd : Int32) (N : List Nat) (E' : Nat → Nat) (f' : Nat → va_E) (lb : Nat) : Prop := i ≤ p ∧ p ≤ n ∧ PO cI cV E' lv (L ++ N) f' ∧ EX E E' ∧ (∀ a, E a = 0 → E' a ≠ 1) ∧ (∀ a, E a ≠ 0 → a ≠ it → f' a = f a) ∧ isV E' lb ∧ (lb = it ∨ E lb = 0) ∧ ∃ me no, f' it = vE kd 0 none me none none 0 none no 0 ∧ (kd = 6 → oR (fun b => E' b = 6) me)
/-- the loop over members -/
def LJ (cI cV : ClassId) (E lv : Nat → Nat) (L : List Nat) (f : Nat → va_E) (it i n : Nat) (kd : Int32) (ms : List Nat) (p : Nat) (N : List Nat) (E1 : Nat → Nat) (f1 : Nat → va_E) (lb : Nat) : Prop := i ≤ p ∧ p ≤ n ∧ ms.length ≤ p - i ∧ ms.length ≤ 4096 ∧ PO cI cV E1 lv (L ++ N) f1 ∧ EX E E1 ∧ (∀ a, E a = 0 → E1 a ≠ 1) ∧ (∀ a, E a ≠ 0 → a ≠ it → f1 a = f a) ∧ (∃ no, f1 it = vE kd 0 none none none none 0 none no 0) ∧ (isV E1 lb ∧ (lb = it ∨ E lb = 0)) ∧ CHM E1 f1 (fun a => E a = 0 ∧ isF E1 a ∧ (kd = 6 → E1 a = 3) ∧ (¬ kd = 6 → E1 a = 2)) ms ∧ INJ ms
theorem LJ.next {cI cV : ClassId} {E lv : Nat → Nat} {L : List Nat} {f : Nat → va_E} {it i n : Nat} {kd : Int32} {ms : List Nat} {p : Nat} {N : List Nat} {E1 : Nat → Nat} {f1 : Nat → va_E} {lb : Nat} (h : LJ cI cV E lv L f it i n kd ms p N E1 f1 lb) (hit : E it = 1)
    {E2 : Nat → Nat} {f2 : Nat → va_E} {N2 : List Nat} {p2 : Nat} (hp2 : p ≤ p2) (hx2 : EX E1 E2) (hn2 : ∀ a, E1 a = 0 → E2 a ≠ 1) (hf2 : ∀ a, E1 a ≠ 0 → f2 a = f1 a) (hO2 : PO cI cV E2 lv (L ++ N2) f2)
    {v p3 : Nat} {N3 : List Nat} {E3 : Nat → Nat} {f3 : Nat → va_E} {lb3 : Nat} (hJ : JP cI cV E2 lv (L ++ N2) f2 (some lb) p2 n v p3 N3 E3 f3 lb3)
    {s : Nat} {f4 : Nat → va_E} (hs : (s = 2 ∧ ¬ kd = 6) ∨ (s = 3 ∧ kd = 6)) (hE4 : EL E3 (va_up E3 v s)) (hO4 : PO cI cV (va_up E3 v s) lv (L ++ (N2 ++ N3)) f4) (hoff : ∀ a, a ≠ v → ms[ms.length - 1]? ≠ some a → f4 a = f3 a) (hnv : nmF f4 v = none) (hnz : ∀ z, ms[ms.length - 1]? = some z → nmF f4 z = some v)
    {p4 : Nat} (hp4 : p3 ≤ p4) (hp5 : p4 ≤ n) (hlen : ms.length < 4096) : LJ cI cV E lv L f it i n kd (ms ++ [v]) p4 (N2 ++ N3) (va_up E3 v s) f4 lb3 := by sorry
theorem LJ.start {cI cV : ClassId} {E lv : Nat → Nat} {L : List Nat} {f : Nat → va_E} {it i n : Nat} {kd : Int32} (h : PO cI cV E lv L f) (hin : i ≤ n) (hit : E it = 1) (ef : f it = vE kd 0 none none none none 0 none none 0) : LJ cI cV E lv L f it i n kd [] i [] E f it := by sorry
theorem LJ.fin {cI cV : ClassId} {E lv : Nat → Nat} {L : List Nat} {f : Nat → va_E} {it i n : Nat} {kd : Int32} {ms : List Nat} {p : Nat} {N : List Nat} {E1 : Nat → Nat} {f1 : Nat → va_E} {lb : Nat} (h : LJ cI cV E lv L f it i n kd ms p N E1 f1 lb) (hit : E it = 1) {ra s : Nat} {g : Nat → Option Nat} {no : Option Nat} (hra : E1 ra = 0) (hg : ∀ k, k < ms.length → g k = ms[k]?) (ef : f1 it = vE kd 0 none none none none 0 none no 0) (hs : (s = 5 ∧ ¬ kd = 6) ∨ (s = 6 ∧ kd = 6)) :
    MP cI cV E lv L f it i n p kd (N ++ [ra]) (va_up E1 ra s) (va_up (va_up f1 it (vE kd 0 none (some ra) none none 0 none no 0)) ra (aE cV ms.length g)) lb := by sorry
section Acc
variable {cI cV : ClassId} {E lv : Nat → Nat} {L : List Nat} {f : Nat → va_E} {it i n : Nat} {kd : Int32} {ms : List Nat} {p : Nat} {N : List Nat} {E1 : Nat → Nat} {f1 : Nat → va_E} {lb v : Nat} {la : Option Nat}
theorem LJ.num (h : LJ cI cV E lv L f it i n kd ms p N E1 f1 lb) : i ≤ p ∧ p ≤ n ∧ ms.length ≤ p - i ∧ ms.length ≤ 4096 := by sorry
theorem LJ.po (h : LJ cI cV E lv L f it i n kd ms p N E1 f1 lb) : PO cI cV E1 lv (L ++ N) f1 := by sorry
theorem LJ.ex (h : LJ cI cV E lv L f it i n kd ms p N E1 f1 lb) : EX E E1 := by sorry
theorem LJ.old (h : LJ cI cV E lv L f it i n kd ms p N E1 f1 lb) : ∀ a, E a ≠ 0 → a ≠ it → f1 a = f a := by sorry
theorem LJ.itf (h : LJ cI cV E lv L f it i n kd ms p N E1 f1 lb) : ∃ no, f1 it = vE kd 0 none none none none 0 none no 0 := by sorry
theorem LJ.lbv (h : LJ cI cV E lv L f it i n kd ms p N E1 f1 lb) : isV E1 lb := by sorry
theorem LJ.lbo (h : LJ cI cV E lv L f it i n kd ms p N E1 f1 lb) : lb = it ∨ E lb = 0 := by sorry
theorem LJ.chn (h : LJ cI cV E lv L f it i n kd ms p N E1 f1 lb) : CHM E1 f1 (fun a => E a = 0 ∧ isF E1 a ∧ (kd = 6 → E1 a = 3) ∧ (¬ kd = 6 → E1 a = 2)) ms := by sorry
theorem JP.num {N : List Nat} {E' : Nat → Nat} {f' : Nat → va_E} (h : JP cI cV E lv L f la i n v p N E' f' lb) : i < p ∧ p ≤ n := by sorry
theorem JP.po {N : List Nat} {E' : Nat → Nat} {f' : Nat → va_E} (h : JP cI cV E lv L f la i n v p N E' f' lb) : PO cI cV E' lv (L ++ N) f' := by sorry
theorem JP.ex {N : List Nat} {E' : Nat → Nat} {f' : Nat → va_E} (h : JP cI cV E lv L f la i n v p N E' f' lb) : EX E E' := by sorry
theorem JP.v2 {N : List Nat} {E' : Nat → Nat} {f' : Nat → va_E} (h : JP cI cV E lv L f la i n v p N E' f' lb) : E' v = 2 ∧ E v = 0 ∧ nmF f' v = none := by sorry
/-- a throw in a member changes nothing that was there -/
theorem LJ.thr {E2 : Nat → Nat} {f2 fx : Nat → va_E} (h : LJ cI cV E lv L f it i n kd ms p N E1 f1 lb) (hx2 : EX E1 E2) (hf2 : ∀ a, E1 a ≠ 0 → f2 a = f1 a) (hw : ∀ a, E2 a ≠ 0 → some lb ≠ some a → fx a = f2 a) : ∀ a, E a ≠ 0 → a ≠ it → fx a = f a := by sorry
end Acc
theorem NMs.next {cI cV : ClassId} {E lv : Nat → Nat} {L : List Nat} {f : Nat → va_E} {it i n : Nat} {kd : Int32} {ms : List Nat} {p : Nat} {N : List Nat} {E1 : Nat → Nat} {f1 : Nat → va_E} {lb : Nat} (h : LJ cI cV E lv L f it i n kd ms p N E1 f1 lb) {nms : List (List Int32)} (hN : NMs f1 ms nms)
    {E2 : Nat → Nat} {f2 : Nat → va_E} {N2 : List Nat} {p2 : Nat} (hx2 : EX E1 E2) (hf2 : ∀ a, E1 a ≠ 0 → f2 a = f1 a)
    {v p3 : Nat} {N3 : List Nat} {E3 : Nat → Nat} {f3 : Nat → va_E} {lb3 : Nat} (hJ : JP cI cV E2 lv (L ++ N2) f2 (some lb) p2 n v p3 N3 E3 f3 lb3)
    {f4 : Nat → va_E} (hoff : ∀ a, a ≠ v → ms[ms.length - 1]? ≠ some a → f4 a = f3 a) (hz : ∀ z, ms[ms.length - 1]? = some z → ∃ kd nu tx me pa na ix nm nm' no sp, f3 z = vE kd nu tx me pa na ix nm no sp ∧ f4 z = vE kd nu tx me pa na ix nm' no sp) {X : List Int32} (hv : nmL f4 v = some X) : NMs f4 (ms ++ [v]) (nms ++ [X]) := by sorry
end
section
theorem z_294 : (.methodLink "QueryBench$JsonReader" 26 ⟨"QueryBench$JsonReader", "value", "(I)LQueryBench$Value;"⟩ : Cond) ∈ gtbl := by sorry
theorem z_296 : (.instanceMethod ⟨"QueryBench$JsonReader", "value", "(I)LQueryBench$Value;"⟩ : Cond) ∈ gtbl := by sorry
theorem z_313 : (.fieldLink "QueryBench$JsonReader" 59 "QueryBench$Value" "kind" "I" : Cond) ∈ gtbl := by sorry
theorem z_327 : (.fieldLink "QueryBench$JsonReader" 139 "QueryBench$Value" "members" "[LQueryBench$Value;" : Cond) ∈ gtbl := by sorry
theorem z_330 : (.fieldLink "QueryBench$JsonReader" 123 "QueryBench$Value" "parent" "LQueryBench$Value;" : Cond) ∈ gtbl := by sorry
theorem z_335 : (.fieldLink "QueryBench$JsonReader" 129 "QueryBench$Value" "index" "I" : Cond) ∈ gtbl := by sorry
theorem z_401 : (.methodLink "QueryBench$JsonReader" 119 ⟨"QueryBench$JsonReader", "newName", "(LQueryBench$Value;)[I"⟩ : Cond) ∈ gtbl := by sorry
theorem z_403 : (.instanceMethod ⟨"QueryBench$JsonReader", "newName", "(LQueryBench$Value;)[I"⟩ : Cond) ∈ gtbl := by sorry
theorem z_447 : (.methodLink "QueryBench$JsonReader" 135 ⟨"QueryBench$JsonReader", "row", "(LQueryBench$Value;I)[LQueryBench$Value;"⟩ : Cond) ∈ gtbl := by sorry
theorem z_448 : (.static ⟨"QueryBench$JsonReader", "row", "(LQueryBench$Value;I)[LQueryBench$Value;"⟩ : Cond) ∈ gtbl := by sorry
abbrev b_JsonReader_value : ByteArray := prog_3_method_3_code
def y_JsonReader_value : MethodName := ⟨"QueryBench$JsonReader", "value", "(I)LQueryBench$Value;"⟩
abbrev k_JsonReader_value : Cond := .code y_JsonReader_value b_JsonReader_value 4 (some (.object "QueryBench$Value"))
theorem i_JsonReader_value : k_JsonReader_value ∈ gtbl := by sorry
theorem d_JsonReader_value_0 : decode b_JsonReader_value 0 = .ok (.aload_n 0, 1) := by sorry
theorem d_JsonReader_value_1 : decode b_JsonReader_value 1 = .ok (.getfield 9, 3) := by sorry
theorem d_JsonReader_value_4 : decode b_JsonReader_value 4 = .ok (.invokevirtual 42, 3) := by sorry
theorem d_JsonReader_value_7 : decode b_JsonReader_value 7 = .ok (.aload_n 0, 1) := by sorry
theorem d_JsonReader_value_8 : decode b_JsonReader_value 8 = .ok (.getfield 19, 3) := by sorry
theorem d_JsonReader_value_11 : decode b_JsonReader_value 11 = .ok (.istore_n 2, 1) := by sorry
theorem d_JsonReader_value_12 : decode b_JsonReader_value 12 = .ok (.aload_n 0, 1) := by sorry
theorem d_JsonReader_value_13 : decode b_JsonReader_value 13 = .ok (.invokevirtual 45, 3) := by sorry
theorem d_JsonReader_value_16 : decode b_JsonReader_value 16 = .ok (.astore_n 3, 1) := by sorry
theorem d_JsonReader_value_17 : decode b_JsonReader_value 17 = .ok (.aload_n 0, 1) := by sorry
theorem d_JsonReader_value_18 : decode b_JsonReader_value 18 = .ok (.getfield 9, 3) := by sorry
theorem d_JsonReader_value_21 : decode b_JsonReader_value 21 = .ok (.invokevirtual 49, 3) := by sorry
theorem d_JsonReader_value_24 : decode b_JsonReader_value 24 = .ok (.lookupswitch 146 #[(34, 81), (91, 60), (102, 112), (110, 100), (116, 129), (123, 70)], 60) := by sorry
theorem d_JsonReader_value_84 : decode b_JsonReader_value 84 = .ok (.aload_n 0, 1) := by sorry
theorem d_JsonReader_value_85 : decode b_JsonReader_value 85 = .ok (.aload_n 3, 1) := by sorry
theorem d_JsonReader_value_86 : decode b_JsonReader_value 86 = .ok (.iconst 5, 1) := by sorry
theorem d_JsonReader_value_87 : decode b_JsonReader_value 87 = .ok (.iload_n 1, 1) := by sorry
theorem d_JsonReader_value_88 : decode b_JsonReader_value 88 = .ok (.invokevirtual 55, 3) := by sorry
theorem d_JsonReader_value_91 : decode b_JsonReader_value 91 = .ok (.goto 92, 3) := by sorry
theorem d_JsonReader_value_94 : decode b_JsonReader_value 94 = .ok (.aload_n 0, 1) := by sorry
theorem d_JsonReader_value_95 : decode b_JsonReader_value 95 = .ok (.aload_n 3, 1) := by sorry
theorem d_JsonReader_value_96 : decode b_JsonReader_value 96 = .ok (.bipush 6, 2) := by sorry
theorem d_JsonReader_value_98 : decode b_JsonReader_value 98 = .ok (.iload_n 1, 1) := by sorry
theorem d_JsonReader_value_99 : decode b_JsonReader_value 99 = .ok (.invokevirtual 55, 3) := by sorry
theorem d_JsonReader_value_102 : decode b_JsonReader_value 102 = .ok (.goto 81, 3) := by sorry
theorem d_JsonReader_value_105 : decode b_JsonReader_value 105 = .ok (.aload_n 3, 1) := by sorry
theorem d_JsonReader_value_106 : decode b_JsonReader_value 106 = .ok (.iconst 4, 1) := by sorry
theorem d_JsonReader_value_107 : decode b_JsonReader_value 107 = .ok (.putfield 59, 3) := by sorry
theorem d_JsonReader_value_110 : decode b_JsonReader_value 110 = .ok (.aload_n 3, 1) := by sorry
theorem d_JsonReader_value_111 : decode b_JsonReader_value 111 = .ok (.aload_n 0, 1) := by sorry
theorem d_JsonReader_value_112 : decode b_JsonReader_value 112 = .ok (.getfield 9, 3) := by sorry
theorem d_JsonReader_value_115 : decode b_JsonReader_value 115 = .ok (.invokevirtual 62, 3) := by sorry
theorem d_JsonReader_value_118 : decode b_JsonReader_value 118 = .ok (.putfield 66, 3) := by sorry
theorem d_JsonReader_value_121 : decode b_JsonReader_value 121 = .ok (.goto 62, 3) := by sorry
theorem d_JsonReader_value_124 : decode b_JsonReader_value 124 = .ok (.aload_n 0, 1) := by sorry
theorem d_JsonReader_value_125 : decode b_JsonReader_value 125 = .ok (.getfield 9, 3) := by sorry
theorem d_JsonReader_value_128 : decode b_JsonReader_value 128 = .ok (.ldc 70, 2) := by sorry
theorem d_JsonReader_value_130 : decode b_JsonReader_value 130 = .ok (.invokevirtual 72, 3) := by sorry
theorem d_JsonReader_value_133 : decode b_JsonReader_value 133 = .ok (.goto 50, 3) := by sorry
theorem d_JsonReader_value_136 : decode b_JsonReader_value 136 = .ok (.aload_n 0, 1) := by sorry
theorem d_JsonReader_value_137 : decode b_JsonReader_value 137 = .ok (.getfield 9, 3) := by sorry
theorem d_JsonReader_value_140 : decode b_JsonReader_value 140 = .ok (.ldc 76, 2) := by sorry
theorem d_JsonReader_value_142 : decode b_JsonReader_value 142 = .ok (.invokevirtual 72, 3) := by sorry
theorem d_JsonReader_value_145 : decode b_JsonReader_value 145 = .ok (.aload_n 3, 1) := by sorry
theorem d_JsonReader_value_146 : decode b_JsonReader_value 146 = .ok (.iconst 1, 1) := by sorry
theorem d_JsonReader_value_147 : decode b_JsonReader_value 147 = .ok (.putfield 59, 3) := by sorry
theorem d_JsonReader_value_150 : decode b_JsonReader_value 150 = .ok (.goto 33, 3) := by sorry
theorem d_JsonReader_value_153 : decode b_JsonReader_value 153 = .ok (.aload_n 0, 1) := by sorry
theorem d_JsonReader_value_154 : decode b_JsonReader_value 154 = .ok (.getfield 9, 3) := by sorry
theorem d_JsonReader_value_157 : decode b_JsonReader_value 157 = .ok (.ldc 78, 2) := by sorry
theorem d_JsonReader_value_159 : decode b_JsonReader_value 159 = .ok (.invokevirtual 72, 3) := by sorry
theorem d_JsonReader_value_162 : decode b_JsonReader_value 162 = .ok (.aload_n 3, 1) := by sorry
theorem d_JsonReader_value_163 : decode b_JsonReader_value 163 = .ok (.iconst 2, 1) := by sorry
theorem d_JsonReader_value_164 : decode b_JsonReader_value 164 = .ok (.putfield 59, 3) := by sorry
theorem d_JsonReader_value_167 : decode b_JsonReader_value 167 = .ok (.goto 16, 3) := by sorry
theorem d_JsonReader_value_170 : decode b_JsonReader_value 170 = .ok (.aload_n 3, 1) := by sorry
theorem d_JsonReader_value_171 : decode b_JsonReader_value 171 = .ok (.iconst 3, 1) := by sorry
theorem d_JsonReader_value_172 : decode b_JsonReader_value 172 = .ok (.putfield 59, 3) := by sorry
theorem d_JsonReader_value_175 : decode b_JsonReader_value 175 = .ok (.aload_n 3, 1) := by sorry
theorem d_JsonReader_value_176 : decode b_JsonReader_value 176 = .ok (.aload_n 0, 1) := by sorry
theorem d_JsonReader_value_177 : decode b_JsonReader_value 177 = .ok (.invokevirtual 80, 3) := by sorry
theorem d_JsonReader_value_180 : decode b_JsonReader_value 180 = .ok (.putfield 84, 3) := by sorry
theorem d_JsonReader_value_183 : decode b_JsonReader_value 183 = .ok (.aload_n 3, 1) := by sorry
theorem d_JsonReader_value_184 : decode b_JsonReader_value 184 = .ok (.aload_n 0, 1) := by sorry
theorem d_JsonReader_value_185 : decode b_JsonReader_value 185 = .ok (.getfield 19, 3) := by sorry
theorem d_JsonReader_value_188 : decode b_JsonReader_value 188 = .ok (.iload_n 2, 1) := by sorry
theorem d_JsonReader_value_189 : decode b_JsonReader_value 189 = .ok (.isub, 1) := by sorry
theorem d_JsonReader_value_190 : decode b_JsonReader_value 190 = .ok (.putfield 87, 3) := by sorry
theorem d_JsonReader_value_193 : decode b_JsonReader_value 193 = .ok (.aload_n 0, 1) := by sorry
theorem d_JsonReader_value_194 : decode b_JsonReader_value 194 = .ok (.getfield 9, 3) := by sorry
theorem d_JsonReader_value_197 : decode b_JsonReader_value 197 = .ok (.invokevirtual 42, 3) := by sorry
theorem d_JsonReader_value_200 : decode b_JsonReader_value 200 = .ok (.aload_n 3, 1) := by sorry
theorem d_JsonReader_value_201 : decode b_JsonReader_value 201 = .ok (.areturn, 1) := by sorry
abbrev b_JsonReader_container : ByteArray := prog_3_method_6_code
def y_JsonReader_container : MethodName := ⟨"QueryBench$JsonReader", "container", "(LQueryBench$Value;II)V"⟩
abbrev k_JsonReader_container : Cond := .code y_JsonReader_container b_JsonReader_container 5 none
theorem i_JsonReader_container : k_JsonReader_container ∈ gtbl := by sorry
theorem d_JsonReader_container_0 : decode b_JsonReader_container 0 = .ok (.iload_n 3, 1) := by sorry
theorem d_JsonReader_container_1 : decode b_JsonReader_container 1 = .ok (.bipush 32, 2) := by sorry
theorem d_JsonReader_container_3 : decode b_JsonReader_container 3 = .ok (.if_icmp .lt 17, 3) := by sorry
theorem d_JsonReader_container_6 : decode b_JsonReader_container 6 = .ok (.aload_n 0, 1) := by sorry
theorem d_JsonReader_container_7 : decode b_JsonReader_container 7 = .ok (.getfield 9, 3) := by sorry
theorem d_JsonReader_container_10 : decode b_JsonReader_container 10 = .ok (.aload_n 0, 1) := by sorry
theorem d_JsonReader_container_11 : decode b_JsonReader_container 11 = .ok (.getfield 9, 3) := by sorry
theorem d_JsonReader_container_14 : decode b_JsonReader_container 14 = .ok (.getfield 30, 3) := by sorry
theorem d_JsonReader_container_17 : decode b_JsonReader_container 17 = .ok (.invokevirtual 38, 3) := by sorry
theorem d_JsonReader_container_20 : decode b_JsonReader_container 20 = .ok (.aload_n 1, 1) := by sorry
theorem d_JsonReader_container_21 : decode b_JsonReader_container 21 = .ok (.iload_n 2, 1) := by sorry
theorem d_JsonReader_container_22 : decode b_JsonReader_container 22 = .ok (.putfield 59, 3) := by sorry
theorem d_JsonReader_container_25 : decode b_JsonReader_container 25 = .ok (.aload_n 0, 1) := by sorry
theorem d_JsonReader_container_26 : decode b_JsonReader_container 26 = .ok (.aload_n 0, 1) := by sorry
theorem d_JsonReader_container_27 : decode b_JsonReader_container 27 = .ok (.getfield 15, 3) := by sorry
theorem d_JsonReader_container_30 : decode b_JsonReader_container 30 = .ok (.iload_n 3, 1) := by sorry
theorem d_JsonReader_container_31 : decode b_JsonReader_container 31 = .ok (.iconst 1, 1) := by sorry
theorem d_JsonReader_container_32 : decode b_JsonReader_container 32 = .ok (.iadd, 1) := by sorry
theorem d_JsonReader_container_33 : decode b_JsonReader_container 33 = .ok (.invokestatic 106, 3) := by sorry
theorem d_JsonReader_container_36 : decode b_JsonReader_container 36 = .ok (.putfield 15, 3) := by sorry
theorem d_JsonReader_container_39 : decode b_JsonReader_container 39 = .ok (.aload_n 0, 1) := by sorry
theorem d_JsonReader_container_40 : decode b_JsonReader_container 40 = .ok (.getfield 9, 3) := by sorry
theorem d_JsonReader_container_43 : decode b_JsonReader_container 43 = .ok (.dup, 1) := by sorry
theorem d_JsonReader_container_44 : decode b_JsonReader_container 44 = .ok (.getfield 30, 3) := by sorry
theorem d_JsonReader_container_47 : decode b_JsonReader_container 47 = .ok (.iconst 1, 1) := by sorry
theorem d_JsonReader_container_48 : decode b_JsonReader_container 48 = .ok (.iadd, 1) := by sorry
theorem d_JsonReader_container_49 : decode b_JsonReader_container 49 = .ok (.putfield 30, 3) := by sorry
theorem d_JsonReader_container_52 : decode b_JsonReader_container 52 = .ok (.aload_n 0, 1) := by sorry
theorem d_JsonReader_container_53 : decode b_JsonReader_container 53 = .ok (.getfield 9, 3) := by sorry
theorem d_JsonReader_container_56 : decode b_JsonReader_container 56 = .ok (.invokevirtual 42, 3) := by sorry
theorem d_JsonReader_container_59 : decode b_JsonReader_container 59 = .ok (.iload_n 2, 1) := by sorry
theorem d_JsonReader_container_60 : decode b_JsonReader_container 60 = .ok (.iconst 5, 1) := by sorry
theorem d_JsonReader_container_61 : decode b_JsonReader_container 61 = .ok (.if_icmp .ne 8, 3) := by sorry
theorem d_JsonReader_container_64 : decode b_JsonReader_container 64 = .ok (.bipush 93, 2) := by sorry
theorem d_JsonReader_container_66 : decode b_JsonReader_container 66 = .ok (.goto 5, 3) := by sorry
theorem d_JsonReader_container_69 : decode b_JsonReader_container 69 = .ok (.bipush 125, 2) := by sorry
theorem d_JsonReader_container_71 : decode b_JsonReader_container 71 = .ok (.istore 4, 2) := by sorry
theorem d_JsonReader_container_73 : decode b_JsonReader_container 73 = .ok (.aload_n 0, 1) := by sorry
theorem d_JsonReader_container_74 : decode b_JsonReader_container 74 = .ok (.getfield 9, 3) := by sorry
theorem d_JsonReader_container_77 : decode b_JsonReader_container 77 = .ok (.iload 4, 2) := by sorry
theorem d_JsonReader_container_79 : decode b_JsonReader_container 79 = .ok (.invokevirtual 95, 3) := by sorry
theorem d_JsonReader_container_82 : decode b_JsonReader_container 82 = .ok (.ifCond .ne 20, 3) := by sorry
theorem d_JsonReader_container_85 : decode b_JsonReader_container 85 = .ok (.aload_n 0, 1) := by sorry
theorem d_JsonReader_container_86 : decode b_JsonReader_container 86 = .ok (.aload_n 1, 1) := by sorry
theorem d_JsonReader_container_87 : decode b_JsonReader_container 87 = .ok (.iload_n 3, 1) := by sorry
theorem d_JsonReader_container_88 : decode b_JsonReader_container 88 = .ok (.iconst 1, 1) := by sorry
theorem d_JsonReader_container_89 : decode b_JsonReader_container 89 = .ok (.iadd, 1) := by sorry
theorem d_JsonReader_container_90 : decode b_JsonReader_container 90 = .ok (.invokevirtual 112, 3) := by sorry
theorem d_JsonReader_container_93 : decode b_JsonReader_container 93 = .ok (.aload_n 0, 1) := by sorry
theorem d_JsonReader_container_94 : decode b_JsonReader_container 94 = .ok (.getfield 9, 3) := by sorry
theorem d_JsonReader_container_97 : decode b_JsonReader_container 97 = .ok (.iload 4, 2) := by sorry
theorem d_JsonReader_container_99 : decode b_JsonReader_container 99 = .ok (.invokevirtual 116, 3) := by sorry
theorem d_JsonReader_container_102 : decode b_JsonReader_container 102 = .ok (.return_, 1) := by sorry
abbrev b_JsonReader_members : ByteArray := prog_3_method_7_code
def y_JsonReader_members : MethodName := ⟨"QueryBench$JsonReader", "members", "(LQueryBench$Value;I)V"⟩
abbrev k_JsonReader_members : Cond := .code y_JsonReader_members b_JsonReader_members 10 none
theorem i_JsonReader_members : k_JsonReader_members ∈ gtbl := by sorry
theorem d_JsonReader_members_0 : decode b_JsonReader_members 0 = .ok (.aconst_null, 1) := by sorry
theorem d_JsonReader_members_1 : decode b_JsonReader_members 1 = .ok (.astore_n 3, 1) := by sorry
theorem d_JsonReader_members_2 : decode b_JsonReader_members 2 = .ok (.aconst_null, 1) := by sorry
theorem d_JsonReader_members_3 : decode b_JsonReader_members 3 = .ok (.astore 4, 2) := by sorry
theorem d_JsonReader_members_5 : decode b_JsonReader_members 5 = .ok (.iconst 0, 1) := by sorry
theorem d_JsonReader_members_6 : decode b_JsonReader_members 6 = .ok (.istore 5, 2) := by sorry
theorem d_JsonReader_members_8 : decode b_JsonReader_members 8 = .ok (.iconst 1, 1) := by sorry
theorem d_JsonReader_members_9 : decode b_JsonReader_members 9 = .ok (.istore 6, 2) := by sorry
theorem d_JsonReader_members_11 : decode b_JsonReader_members 11 = .ok (.iconst 0, 1) := by sorry
theorem d_JsonReader_members_12 : decode b_JsonReader_members 12 = .ok (.istore 7, 2) := by sorry
theorem d_JsonReader_members_14 : decode b_JsonReader_members 14 = .ok (.iload 7, 2) := by sorry
theorem d_JsonReader_members_16 : decode b_JsonReader_members 16 = .ok (.sipush 4096, 3) := by sorry
theorem d_JsonReader_members_19 : decode b_JsonReader_members 19 = .ok (.if_icmp .ge 97, 3) := by sorry
theorem d_JsonReader_members_22 : decode b_JsonReader_members 22 = .ok (.iload 6, 2) := by sorry
theorem d_JsonReader_members_24 : decode b_JsonReader_members 24 = .ok (.ifCond .eq 92, 3) := by sorry
theorem d_JsonReader_members_27 : decode b_JsonReader_members 27 = .ok (.aload_n 1, 1) := by sorry
theorem d_JsonReader_members_28 : decode b_JsonReader_members 28 = .ok (.getfield 59, 3) := by sorry
theorem d_JsonReader_members_31 : decode b_JsonReader_members 31 = .ok (.bipush 6, 2) := by sorry
theorem d_JsonReader_members_33 : decode b_JsonReader_members 33 = .ok (.if_icmp .ne 11, 3) := by sorry
theorem d_JsonReader_members_36 : decode b_JsonReader_members 36 = .ok (.aload_n 0, 1) := by sorry
theorem d_JsonReader_members_37 : decode b_JsonReader_members 37 = .ok (.aload_n 3, 1) := by sorry
theorem d_JsonReader_members_38 : decode b_JsonReader_members 38 = .ok (.invokevirtual 119, 3) := by sorry
theorem d_JsonReader_members_41 : decode b_JsonReader_members 41 = .ok (.goto 4, 3) := by sorry
theorem d_JsonReader_members_44 : decode b_JsonReader_members 44 = .ok (.aconst_null, 1) := by sorry
theorem d_JsonReader_members_45 : decode b_JsonReader_members 45 = .ok (.astore 8, 2) := by sorry
theorem d_JsonReader_members_47 : decode b_JsonReader_members 47 = .ok (.aload_n 0, 1) := by sorry
theorem d_JsonReader_members_48 : decode b_JsonReader_members 48 = .ok (.iload_n 2, 1) := by sorry
theorem d_JsonReader_members_49 : decode b_JsonReader_members 49 = .ok (.invokevirtual 26, 3) := by sorry
theorem d_JsonReader_members_52 : decode b_JsonReader_members 52 = .ok (.astore 9, 2) := by sorry
theorem d_JsonReader_members_54 : decode b_JsonReader_members 54 = .ok (.aload 9, 2) := by sorry
theorem d_JsonReader_members_56 : decode b_JsonReader_members 56 = .ok (.aload_n 1, 1) := by sorry
theorem d_JsonReader_members_57 : decode b_JsonReader_members 57 = .ok (.putfield 123, 3) := by sorry
theorem d_JsonReader_members_60 : decode b_JsonReader_members 60 = .ok (.aload 9, 2) := by sorry
theorem d_JsonReader_members_62 : decode b_JsonReader_members 62 = .ok (.aload 8, 2) := by sorry
theorem d_JsonReader_members_64 : decode b_JsonReader_members 64 = .ok (.putfield 126, 3) := by sorry
theorem d_JsonReader_members_67 : decode b_JsonReader_members 67 = .ok (.aload 9, 2) := by sorry
theorem d_JsonReader_members_69 : decode b_JsonReader_members 69 = .ok (.iload 5, 2) := by sorry
theorem d_JsonReader_members_71 : decode b_JsonReader_members 71 = .ok (.putfield 129, 3) := by sorry
theorem d_JsonReader_members_74 : decode b_JsonReader_members 74 = .ok (.iinc 5 1, 3) := by sorry
theorem d_JsonReader_members_77 : decode b_JsonReader_members 77 = .ok (.aload 4, 2) := by sorry
theorem d_JsonReader_members_79 : decode b_JsonReader_members 79 = .ok (.ifnonnull 9, 3) := by sorry
theorem d_JsonReader_members_82 : decode b_JsonReader_members 82 = .ok (.aload 9, 2) := by sorry
theorem d_JsonReader_members_84 : decode b_JsonReader_members 84 = .ok (.astore_n 3, 1) := by sorry
theorem d_JsonReader_members_85 : decode b_JsonReader_members 85 = .ok (.goto 10, 3) := by sorry
theorem d_JsonReader_members_88 : decode b_JsonReader_members 88 = .ok (.aload 4, 2) := by sorry
theorem d_JsonReader_members_90 : decode b_JsonReader_members 90 = .ok (.aload 9, 2) := by sorry
theorem d_JsonReader_members_92 : decode b_JsonReader_members 92 = .ok (.putfield 132, 3) := by sorry
theorem d_JsonReader_members_95 : decode b_JsonReader_members 95 = .ok (.aload 9, 2) := by sorry
theorem d_JsonReader_members_97 : decode b_JsonReader_members 97 = .ok (.astore 4, 2) := by sorry
theorem d_JsonReader_members_99 : decode b_JsonReader_members 99 = .ok (.aload_n 0, 1) := by sorry
theorem d_JsonReader_members_100 : decode b_JsonReader_members 100 = .ok (.getfield 9, 3) := by sorry
theorem d_JsonReader_members_103 : decode b_JsonReader_members 103 = .ok (.bipush 44, 2) := by sorry
theorem d_JsonReader_members_105 : decode b_JsonReader_members 105 = .ok (.invokevirtual 95, 3) := by sorry
theorem d_JsonReader_members_108 : decode b_JsonReader_members 108 = .ok (.istore 6, 2) := by sorry
theorem d_JsonReader_members_110 : decode b_JsonReader_members 110 = .ok (.iinc 7 1, 3) := by sorry
theorem d_JsonReader_members_113 : decode b_JsonReader_members 113 = .ok (.goto (-99), 3) := by sorry
theorem d_JsonReader_members_116 : decode b_JsonReader_members 116 = .ok (.aload_n 1, 1) := by sorry
theorem d_JsonReader_members_117 : decode b_JsonReader_members 117 = .ok (.aload_n 3, 1) := by sorry
theorem d_JsonReader_members_118 : decode b_JsonReader_members 118 = .ok (.iload 5, 2) := by sorry
theorem d_JsonReader_members_120 : decode b_JsonReader_members 120 = .ok (.invokestatic 135, 3) := by sorry
theorem d_JsonReader_members_123 : decode b_JsonReader_members 123 = .ok (.putfield 139, 3) := by sorry
theorem d_JsonReader_members_126 : decode b_JsonReader_members 126 = .ok (.return_, 1) := by sorry
/-- JsonReader: a value at a depth -/
def JVC (l : Launch) (K : Nat → Nat × Nat) (dC : Nat → ClassId) (dI : Nat → Nat → Nat) (cI cV : ClassId) (lv : Nat → Nat) (cB : ClassId) (h0 qb qu : Nat) (ln : Int32) (bf : Nat → Int32) (n jr : Nat) (k d : Nat) : Prop := ∀ (sz : Heap) (E : Nat → Nat) (L : List Nat) (f : Nat → va_E) (i : Nat) (uc pl : Int32) (ug : Nat → Int32) (dp md : Int32) (la : Option Nat) (D : Nat), PO cI cV E lv L f → oR (isV E) la → i ≤ n → dp = nI D → d ≤ D → D ≤ 32 → vx_Met l y_JsonReader_value (k_JsonReader_value :: gtbl) ({ frames := 16 + 3 * k, cells := 2 * (n - i) + 4, slots := 16 * (n - i) + 40, locals := 350 + 90 * k }) (va_Pc [.ref jr, .int (nI d)] (ml K dC dI ([(jr, .inr (1, [.ref h0, .int dp, .int md, va_rf la])), (h0, .inr (8, [.ref qb, .ref qu, .int uc, .int ln, .int (nI n), .int (nI i), .int pl])), (qb, .inl (cB, 4096, .inl bf)), (qu, .inl (cI, 4096, .inl ug))] ++ va_pl L f) [(cB, .byte), (cI, .int), (cV, .object "QueryBench$Value")] sz)) (va_Qr (fun (u : Nat × Nat × List Nat × (Nat → Nat) × (Nat → va_E) × Int32 × (Nat → Int32) × Int32 × Int32 × Nat) => JP cI cV E lv L f la i n u.1 u.2.1 u.2.2.1 u.2.2.2.1 u.2.2.2.2.1 u.2.2.2.2.2.2.2.2.2 ∧ ∃ (x : JVt k) (ct : Nat), JFx bf n k d i u.2.1 D u.2.2.2.2.2.2.2.1 x ∧ OBJ E u.2.2.2.1 la u.2.2.2.2.1 u.1 u.2.2.2.2.2.2.2.2.2 ct k x ∧ u.2.2.2.2.2.2.2.2.1 = md + nI ct) (fun u a9 t9 => mz dC dI ([(jr, .inr (1, [.ref h0, .int u.2.2.2.2.2.2.2.1, .int u.2.2.2.2.2.2.2.2.1, .ref u.2.2.2.2.2.2.2.2.2])), (h0, .inr (8, [.ref qb, .ref qu, .int u.2.2.2.2.2.1, .int ln, .int (nI n), .int (nI u.2.1), .int pl])), (qb, .inl (cB, 4096, .inl bf)), (qu, .inl (cI, 4096, .inl u.2.2.2.2.2.2.1))] ++ va_pl ((L ++ u.2.2.1)) u.2.2.2.2.1) [(cB, .byte), (cI, .int), (cV, .object "QueryBench$Value")] (va_A ([(jr, .inr (1, [.ref h0, .int dp, .int md, va_rf la])), (h0, .inr (8, [.ref qb, .ref qu, .int uc, .int ln, .int (nI n), .int (nI i), .int pl])), (qb, .inl (cB, 4096, .inl bf)), (qu, .inl (cI, 4096, .inl ug))] ++ va_pl L f) sz.size) t9 ∧ szk sz t9.heap (2 * (u.2.1 - i)) (16 * (u.2.1 - i) - 1) ∧ a9 = u.1) (va_A ([(jr, .inr (1, [.ref h0, .int dp, .int md, va_rf la])), (h0, .inr (8, [.ref qb, .ref qu, .int uc, .int ln, .int (nI n), .int (nI i), .int pl])), (qb, .inl (cB, 4096, .inl bf)), (qu, .inl (cI, 4096, .inl ug))] ++ va_pl L f) sz.size)) (vx_X (fun (u : Int32 × Int32 × Int32 × (Nat → Int32) × Int32 × Int32 × Option Nat × (Nat → va_E)) => (∀ a, E a ≠ 0 → la ≠ some a → u.2.2.2.2.2.2.2 a = f a) ∧ jV bf n k i = none) (fun En u t9 => En = UOX ∧ mz dC dI ([(jr, .inr (1, [.ref h0, .int u.2.2.2.2.1, .int u.2.2.2.2.2.1, va_rf u.2.2.2.2.2.2.1])), (h0, .inr (8, [.ref qb, .ref qu, .int u.2.1, .int ln, .int (nI n), .int u.1, .int u.2.2.1])), (qb, .inl (cB, 4096, .inl bf)), (qu, .inl (cI, 4096, .inl u.2.2.2.1))] ++ va_pl L u.2.2.2.2.2.2.2) [(cB, .byte), (cI, .int), (cV, .object "QueryBench$Value")] (va_A ([(jr, .inr (1, [.ref h0, .int dp, .int md, va_rf la])), (h0, .inr (8, [.ref qb, .ref qu, .int uc, .int ln, .int (nI n), .int (nI i), .int pl])), (qb, .inl (cB, 4096, .inl bf)), (qu, .inl (cI, 4096, .inl ug))] ++ va_pl L f) sz.size) t9) (va_A ([(jr, .inr (1, [.ref h0, .int dp, .int md, va_rf la])), (h0, .inr (8, [.ref qb, .ref qu, .int uc, .int ln, .int (nI n), .int (nI i), .int pl])), (qb, .inl (cB, 4096, .inl bf)), (qu, .inl (cI, 4096, .inl ug))] ++ va_pl L f) sz.size)) (2 * (n - i) + 4) (16 * (n - i) + 40) (va_A ([(jr, .inr (1, [.ref h0, .int dp, .int md, va_rf la])), (h0, .inr (8, [.ref qb, .ref qu, .int uc, .int ln, .int (nI n), .int (nI i), .int pl])), (qb, .inl (cB, 4096, .inl bf)), (qu, .inl (cI, 4096, .inl ug))] ++ va_pl L f) sz.size)
set_option maxHeartbeats 4000000 in
set_option maxRecDepth 100000 in
/-- JsonReader.members -/
theorem c_JsonReader_members (l : Launch) (hl9 : l.stackTraces = false) (K : Nat → Nat × Nat) (dC : Nat → ClassId) (dI : Nat → Nat → Nat) (cI cV : ClassId) (lv : Nat → Nat) (cB : ClassId) (h0 qb qu : Nat) (ln : Int32) (bf : Nat → Int32) (n jr : Nat) (hn0 : n ≤ 4096) (k d : Nat) (HV : 0 < k → JVC l K dC dI cI cV lv cB h0 qb qu ln bf n jr (k - 1) d) (hk9 : 0 < k) (sz : Heap) (E : Nat → Nat) (L : List Nat) (f : Nat → va_E) (hO : PO cI cV E lv L f) (i : Nat) (uc pl : Int32) (ug : Nat → Int32) (dp md : Int32) (it : Nat) (kd : Int32) (hkd : kd = 5 ∨ kd = 6) (hit : E it = 1) (ef0 : f it = vE kd 0 none none none none 0 none none 0) (hin : i ≤ n) (D : Nat) (hdp : dp = nI D) (hDd : d ≤ D) (hD32 : D ≤ 32) (hdk : d + k = 33) (h1i : 1 ≤ i) : vx_Met l y_JsonReader_members (k_JsonReader_members :: gtbl) ({ frames := 14 + 3 * k, cells := 2 * (n - i) + 4, slots := 16 * (n - i) + 40, locals := 290 + 90 * k }) (va_Pc [.ref jr, .ref it, .int (nI d)] (ml K dC dI ([(jr, .inr (1, [.ref h0, .int dp, .int md, .ref it])), (h0, .inr (8, [.ref qb, .ref qu, .int uc, .int ln, .int (nI n), .int (nI i), .int pl])), (qb, .inl (cB, 4096, .inl bf)), (qu, .inl (cI, 4096, .inl ug))] ++ va_pl L f) [(cB, .byte), (cI, .int), (cV, .object "QueryBench$Value")] sz)) (va_Qv (fun (u : Nat × List Nat × (Nat → Nat) × (Nat → va_E) × Int32 × (Nat → Int32) × Int32 × Int32 × Nat) => MP cI cV E lv L f it i n u.1 kd u.2.1 u.2.2.1 u.2.2.2.1 u.2.2.2.2.2.2.2.2 ∧ MFx cV bf n k d i u.1 D kd u.2.2.2.2.2.2.1 E u.2.2.1 u.2.2.2.1 it u.2.2.2.2.2.2.2.2 md u.2.2.2.2.2.2.2.1) (fun u t9 => mz dC dI ([(jr, .inr (1, [.ref h0, .int u.2.2.2.2.2.2.1, .int u.2.2.2.2.2.2.2.1, .ref u.2.2.2.2.2.2.2.2])), (h0, .inr (8, [.ref qb, .ref qu, .int u.2.2.2.2.1, .int ln, .int (nI n), .int (nI u.1), .int pl])), (qb, .inl (cB, 4096, .inl bf)), (qu, .inl (cI, 4096, .inl u.2.2.2.2.2.1))] ++ va_pl ((L ++ u.2.1)) u.2.2.2.1) [(cB, .byte), (cI, .int), (cV, .object "QueryBench$Value")] (va_A ([(jr, .inr (1, [.ref h0, .int dp, .int md, .ref it])), (h0, .inr (8, [.ref qb, .ref qu, .int uc, .int ln, .int (nI n), .int (nI i), .int pl])), (qb, .inl (cB, 4096, .inl bf)), (qu, .inl (cI, 4096, .inl ug))] ++ va_pl L f) sz.size) t9 ∧ szk sz t9.heap (2 * (u.1 - i) + 1) (16 * (u.1 - i))) (va_A ([(jr, .inr (1, [.ref h0, .int dp, .int md, .ref it])), (h0, .inr (8, [.ref qb, .ref qu, .int uc, .int ln, .int (nI n), .int (nI i), .int pl])), (qb, .inl (cB, 4096, .inl bf)), (qu, .inl (cI, 4096, .inl ug))] ++ va_pl L f) sz.size)) (vx_X (fun (u : Int32 × Int32 × Int32 × (Nat → Int32) × Int32 × Int32 × Option Nat × (Nat → va_E)) => (∀ a, E a ≠ 0 → a ≠ it → u.2.2.2.2.2.2.2 a = f a) ∧ jMem bf n (jV bf n (k - 1)) (decide (kd = 6)) 4097 i [] = none) (fun En u t9 => En = UOX ∧ mz dC dI ([(jr, .inr (1, [.ref h0, .int u.2.2.2.2.1, .int u.2.2.2.2.2.1, va_rf u.2.2.2.2.2.2.1])), (h0, .inr (8, [.ref qb, .ref qu, .int u.2.1, .int ln, .int (nI n), .int u.1, .int u.2.2.1])), (qb, .inl (cB, 4096, .inl bf)), (qu, .inl (cI, 4096, .inl u.2.2.2.1))] ++ va_pl L u.2.2.2.2.2.2.2) [(cB, .byte), (cI, .int), (cV, .object "QueryBench$Value")] (va_A ([(jr, .inr (1, [.ref h0, .int dp, .int md, .ref it])), (h0, .inr (8, [.ref qb, .ref qu, .int uc, .int ln, .int (nI n), .int (nI i), .int pl])), (qb, .inl (cB, 4096, .inl bf)), (qu, .inl (cI, 4096, .inl ug))] ++ va_pl L f) sz.size) t9) (va_A ([(jr, .inr (1, [.ref h0, .int dp, .int md, .ref it])), (h0, .inr (8, [.ref qb, .ref qu, .int uc, .int ln, .int (nI n), .int (nI i), .int pl])), (qb, .inl (cB, 4096, .inl bf)), (qu, .inl (cI, 4096, .inl ug))] ++ va_pl L f) sz.size)) (2 * (n - i) + 4) (16 * (n - i) + 40) (va_A ([(jr, .inr (1, [.ref h0, .int dp, .int md, .ref it])), (h0, .inr (8, [.ref qb, .ref qu, .int uc, .int ln, .int (nI n), .int (nI i), .int pl])), (qb, .inl (cB, 4096, .inl bf)), (qu, .inl (cI, 4096, .inl ug))] ++ va_pl L f) sz.size) := by sorry
end
section
theorem PO.upd1 {cI cV : ClassId} {E lv : Nat → Nat} {L : List Nat} {f : Nat → va_E} {q : Nat} (h : PO cI cV E lv L f) (hq : E q = 1) {kd : Int32} {nu : Int64} {tx me pa na : Option Nat} {ix : Int32} {nm no : Option Nat} {sp : Int32} (h1 : oR (fun b => E b = 4) tx) (h2 : oR (isA E) me) (h3 : oR (isV E) pa) (h4 : oR (fun b => E b = 4) na) (h5 : oR (isV E) nm) (h6 : oR (isV E) no) : PO cI cV E lv L (va_up f q (vE kd nu tx me pa na ix nm no sp)) := by sorry
theorem PO.done {cI cV : ClassId} {E lv : Nat → Nat} {L : List Nat} {f : Nat → va_E} {q : Nat} (h : PO cI cV E lv L f) (hq : E q = 1) {kd : Int32} {nu : Int64} {tx me pa na : Option Nat} {ix : Int32} {nm no : Option Nat} {sp : Int32} (ef : f q = vE kd nu tx me pa na ix nm no sp) (h4 : kd = 4 → tx ≠ none) (h6 : kd = 6 → oR (fun b => E b = 6) me) : EL E (va_up E q 2) ∧ PO cI cV (va_up E q 2) lv L f := by sorry
theorem JP.mk {cI cV : ClassId} {E lv : Nat → Nat} {L : List Nat} {f : Nat → va_E} {la : Option Nat} {i n q p : Nat} {N : List Nat} {f1 f2 : Nat → va_E} {E1 E2 : Nat → Nat} {lb : Nat} (hq0 : E q = 0) (hE1 : E1 = va_up E q 1) (hK : KX E la f f1) (hO2 : PO cI cV E2 lv (L ++ N) f2) (hx2 : EX E1 E2) (hn2 : ∀ a, E1 a = 0 → E2 a ≠ 1) (hf2 : ∀ a, E1 a ≠ 0 → a ≠ q → f2 a = f1 a) (hlb : isV E2 lb) (hlb2 : lb = q ∨ E1 lb = 0)
    {kd : Int32} {nu : Int64} {tx me : Option Nat} {no : Option Nat} {sp : Int32} (ef : f2 q = vE kd nu tx me none none 0 none no sp) (h4 : kd = 4 → tx ≠ none) (h6 : kd = 6 → oR (fun b => E2 b = 6) me) (hp1 : i < p) (hp2 : p ≤ n) : JP cI cV E lv L f la i n q p N (va_up E2 q 2) f2 lb := by sorry
theorem va_up_comm {α : Type} (f : Nat → α) {a b : Nat} (x y : α) (h : a ≠ b) : va_up (va_up f a x) b y = va_up (va_up f b y) a x := by sorry
end
section
theorem z_81 : (.fieldLink "QueryBench$JsonReader" 15 "QueryBench$JsonReader" "deepest" "I" : Cond) ∈ gtbl := by sorry
theorem z_389 : (.methodLink "QueryBench$JsonReader" 106 ⟨"java/lang/Math", "max", "(II)I"⟩ : Cond) ∈ gtbl := by sorry
theorem z_397 : (.methodLink "QueryBench$JsonReader" 112 ⟨"QueryBench$JsonReader", "members", "(LQueryBench$Value;I)V"⟩ : Cond) ∈ gtbl := by sorry
theorem z_399 : (.instanceMethod ⟨"QueryBench$JsonReader", "members", "(LQueryBench$Value;I)V"⟩ : Cond) ∈ gtbl := by sorry
set_option maxHeartbeats 4000000 in
set_option maxRecDepth 100000 in
/-- JsonReader.container -/
theorem c_JsonReader_container (l : Launch) (hl9 : l.stackTraces = false) (K : Nat → Nat × Nat) (dC : Nat → ClassId) (dI : Nat → Nat → Nat) (cI cV : ClassId) (lv : Nat → Nat) (cB : ClassId) (h0 qb qu : Nat) (ln : Int32) (bf : Nat → Int32) (n jr : Nat) (hn0 : n ≤ 4096) (k d : Nat) (hkd9 : d + k = 32) (HV : 0 < k → JVC l K dC dI cI cV lv cB h0 qb qu ln bf n jr (k - 1) (d + 1)) (sz : Heap) (E : Nat → Nat) (L : List Nat) (f : Nat → va_E) (hO : PO cI cV E lv L f) (i : Nat) (uc pl : Int32) (ug : Nat → Int32) (dp md : Int32) (it : Nat) (kd : Int32) (hkd : kd = 5 ∨ kd = 6) (hit : E it = 1) (ef0 : f it = vE 0 0 none none none none 0 none none 0) (hin : i < n) (D : Nat) (hdp : dp = nI D) (hDd : d ≤ D) (hD32 : D ≤ 32) : vx_Met l y_JsonReader_container (k_JsonReader_container :: gtbl) ({ frames := 15 + 3 * k, cells := 2 * (n - i) + 2, slots := 16 * (n - i) + 24, locals := 320 + 90 * k }) (va_Pc [.ref jr, .ref it, .int kd, .int (nI d)] (ml K dC dI ([(jr, .inr (1, [.ref h0, .int dp, .int md, .ref it])), (h0, .inr (8, [.ref qb, .ref qu, .int uc, .int ln, .int (nI n), .int (nI i), .int pl])), (qb, .inl (cB, 4096, .inl bf)), (qu, .inl (cI, 4096, .inl ug))] ++ va_pl L f) [(cB, .byte), (cI, .int), (cV, .object "QueryBench$Value")] sz)) (va_Qv (fun (u : Nat × List Nat × (Nat → Nat) × (Nat → va_E) × Int32 × (Nat → Int32) × Int32 × Int32 × Nat) => i + 2 ≤ u.1 ∧ MP cI cV E lv L f it i n u.1 kd u.2.1 u.2.2.1 u.2.2.2.1 u.2.2.2.2.2.2.2.2 ∧ CFx cV bf n k d i u.1 D kd u.2.2.2.2.2.2.1 E u.2.2.1 u.2.2.2.1 it u.2.2.2.2.2.2.2.2 md u.2.2.2.2.2.2.2.1) (fun u t9 => mz dC dI ([(jr, .inr (1, [.ref h0, .int u.2.2.2.2.2.2.1, .int u.2.2.2.2.2.2.2.1, .ref u.2.2.2.2.2.2.2.2])), (h0, .inr (8, [.ref qb, .ref qu, .int u.2.2.2.2.1, .int ln, .int (nI n), .int (nI u.1), .int pl])), (qb, .inl (cB, 4096, .inl bf)), (qu, .inl (cI, 4096, .inl u.2.2.2.2.2.1))] ++ va_pl ((L ++ u.2.1)) u.2.2.2.1) [(cB, .byte), (cI, .int), (cV, .object "QueryBench$Value")] (va_A ([(jr, .inr (1, [.ref h0, .int dp, .int md, .ref it])), (h0, .inr (8, [.ref qb, .ref qu, .int uc, .int ln, .int (nI n), .int (nI i), .int pl])), (qb, .inl (cB, 4096, .inl bf)), (qu, .inl (cI, 4096, .inl ug))] ++ va_pl L f) sz.size) t9 ∧ szk sz t9.heap (2 * (u.1 - i) - 3) (16 * (u.1 - i) - 32)) (va_A ([(jr, .inr (1, [.ref h0, .int dp, .int md, .ref it])), (h0, .inr (8, [.ref qb, .ref qu, .int uc, .int ln, .int (nI n), .int (nI i), .int pl])), (qb, .inl (cB, 4096, .inl bf)), (qu, .inl (cI, 4096, .inl ug))] ++ va_pl L f) sz.size)) (vx_X (fun (u : Int32 × Int32 × Int32 × (Nat → Int32) × Int32 × Int32 × Option Nat × (Nat → va_E)) => (∀ a, E a ≠ 0 → a ≠ it → u.2.2.2.2.2.2.2 a = f a) ∧ CNn bf n k i kd) (fun En u t9 => En = UOX ∧ mz dC dI ([(jr, .inr (1, [.ref h0, .int u.2.2.2.2.1, .int u.2.2.2.2.2.1, va_rf u.2.2.2.2.2.2.1])), (h0, .inr (8, [.ref qb, .ref qu, .int u.2.1, .int ln, .int (nI n), .int u.1, .int u.2.2.1])), (qb, .inl (cB, 4096, .inl bf)), (qu, .inl (cI, 4096, .inl u.2.2.2.1))] ++ va_pl L u.2.2.2.2.2.2.2) [(cB, .byte), (cI, .int), (cV, .object "QueryBench$Value")] (va_A ([(jr, .inr (1, [.ref h0, .int dp, .int md, .ref it])), (h0, .inr (8, [.ref qb, .ref qu, .int uc, .int ln, .int (nI n), .int (nI i), .int pl])), (qb, .inl (cB, 4096, .inl bf)), (qu, .inl (cI, 4096, .inl ug))] ++ va_pl L f) sz.size) t9) (va_A ([(jr, .inr (1, [.ref h0, .int dp, .int md, .ref it])), (h0, .inr (8, [.ref qb, .ref qu, .int uc, .int ln, .int (nI n), .int (nI i), .int pl])), (qb, .inl (cB, 4096, .inl bf)), (qu, .inl (cI, 4096, .inl ug))] ++ va_pl L f) sz.size)) (2 * (n - i) + 2) (16 * (n - i) + 24) (va_A ([(jr, .inr (1, [.ref h0, .int dp, .int md, .ref it])), (h0, .inr (8, [.ref qb, .ref qu, .int uc, .int ln, .int (nI n), .int (nI i), .int pl])), (qb, .inl (cB, 4096, .inl bf)), (qu, .inl (cI, 4096, .inl ug))] ++ va_pl L f) sz.size) := by sorry
end
section
theorem z_302 : (.methodLink "QueryBench$JsonReader" 45 ⟨"QueryBench$JsonReader", "fresh", "()LQueryBench$Value;"⟩ : Cond) ∈ gtbl := by sorry
theorem z_304 : (.instanceMethod ⟨"QueryBench$JsonReader", "fresh", "()LQueryBench$Value;"⟩ : Cond) ∈ gtbl := by sorry
theorem z_316 : (.fieldLink "QueryBench$JsonReader" 84 "QueryBench$Value" "number" "J" : Cond) ∈ gtbl := by sorry
theorem z_321 : (.fieldLink "QueryBench$JsonReader" 66 "QueryBench$Value" "text" "[I" : Cond) ∈ gtbl := by sorry
theorem z_339 : (.fieldLink "QueryBench$JsonReader" 87 "QueryBench$Value" "span" "I" : Cond) ∈ gtbl := by sorry
theorem z_366 : (.methodLink "QueryBench$JsonReader" 55 ⟨"QueryBench$JsonReader", "container", "(LQueryBench$Value;II)V"⟩ : Cond) ∈ gtbl := by sorry
theorem z_368 : (.instanceMethod ⟨"QueryBench$JsonReader", "container", "(LQueryBench$Value;II)V"⟩ : Cond) ∈ gtbl := by sorry
theorem z_451 : (.methodLink "QueryBench$JsonReader" 72 ⟨"QueryBench$Tape", "takeLetters", "(Ljava/lang/String;)V"⟩ : Cond) ∈ gtbl := by sorry
theorem z_452 : (.instanceMethod ⟨"QueryBench$Tape", "takeLetters", "(Ljava/lang/String;)V"⟩ : Cond) ∈ gtbl := by sorry
theorem z_453 : (.selects "QueryBench$Tape" ⟨"QueryBench$Tape", "takeLetters", "(Ljava/lang/String;)V"⟩ ⟨"QueryBench$Tape", "takeLetters", "(Ljava/lang/String;)V"⟩ : Cond) ∈ gtbl := by sorry
theorem z_505 : (.methodLink "QueryBench$JsonReader" 80 ⟨"QueryBench$JsonReader", "number", "()J"⟩ : Cond) ∈ gtbl := by sorry
theorem z_507 : (.instanceMethod ⟨"QueryBench$JsonReader", "number", "()J"⟩ : Cond) ∈ gtbl := by sorry
theorem PO.vo {cI cV : ClassId} {E lv : Nat → Nat} {L : List Nat} {f : Nat → va_E} {a : Nat} (h : PO cI cV E lv L f) (ha : isV E a) {kd : Int32} {nu : Int64} {tx me pa na : Option Nat} {ix : Int32} {nm no : Option Nat} {sp : Int32} (ef : f a = vE kd nu tx me pa na ix nm no sp) : VO E a kd tx me pa na nm no := by sorry
set_option maxHeartbeats 4000000 in
set_option maxRecDepth 100000 in
theorem c_JV (l : Launch) (hl9 : l.stackTraces = false) (K : Nat → Nat × Nat) (dC : Nat → ClassId) (dI : Nat → Nat → Nat) (cI cV : ClassId) (lv : Nat → Nat) (cB : ClassId) (h0 qb qu : Nat) (ln : Int32) (bf : Nat → Int32) (n jr : Nat) (hn0 : n ≤ 4096) (hbf : byR bf) (k d : Nat) (hkd9 : d + k = 32) (HV : 0 < k → JVC l K dC dI cI cV lv cB h0 qb qu ln bf n jr (k - 1) (d + 1)) : JVC l K dC dI cI cV lv cB h0 qb qu ln bf n jr k d := by sorry
theorem c_JVall (l : Launch) (hl9 : l.stackTraces = false) (K : Nat → Nat × Nat) (dC : Nat → ClassId) (dI : Nat → Nat → Nat) (cI cV : ClassId) (lv : Nat → Nat) (cB : ClassId) (h0 qb qu : Nat) (ln : Int32) (bf : Nat → Int32) (n jr : Nat) (hn0 : n ≤ 4096) (hbf : byR bf) : ∀ k d, d + k = 32 → JVC l K dC dI cI cV lv cB h0 qb qu ln bf n jr k d := by sorry
end
section
theorem z_49 : (.fieldLink "QueryBench$JsonReader" 35 "QueryBench$Tape" "end" "I" : Cond) ∈ gtbl := by sorry
theorem z_82 : (.fieldLink "QueryBench" 79 "QueryBench$JsonReader" "deepest" "I" : Cond) ∈ gtbl := by sorry
theorem z_286 : (.methodLink "QueryBench" 72 ⟨"QueryBench$Tape", "beginReading", "()V"⟩ : Cond) ∈ gtbl := by sorry
theorem z_287 : (.instanceMethod ⟨"QueryBench$Tape", "beginReading", "()V"⟩ : Cond) ∈ gtbl := by sorry
theorem z_288 : (.selects "QueryBench$Tape" ⟨"QueryBench$Tape", "beginReading", "()V"⟩ ⟨"QueryBench$Tape", "beginReading", "()V"⟩ : Cond) ∈ gtbl := by sorry
theorem z_290 : (.methodLink "QueryBench" 75 ⟨"QueryBench$JsonReader", "document", "()LQueryBench$Value;"⟩ : Cond) ∈ gtbl := by sorry
theorem z_291 : (.instanceMethod ⟨"QueryBench$JsonReader", "document", "()LQueryBench$Value;"⟩ : Cond) ∈ gtbl := by sorry
theorem z_292 : (.selects "QueryBench$JsonReader" ⟨"QueryBench$JsonReader", "document", "()LQueryBench$Value;"⟩ ⟨"QueryBench$JsonReader", "document", "()LQueryBench$Value;"⟩ : Cond) ∈ gtbl := by sorry
abbrev b_JsonReader_document : ByteArray := prog_3_method_2_code
def y_JsonReader_document : MethodName := ⟨"QueryBench$JsonReader", "document", "()LQueryBench$Value;"⟩
abbrev k_JsonReader_document : Cond := .code y_JsonReader_document b_JsonReader_document 2 (some (.object "QueryBench$Value"))
theorem i_JsonReader_document : k_JsonReader_document ∈ gtbl := by sorry
theorem d_JsonReader_document_0 : decode b_JsonReader_document 0 = .ok (.aload_n 0, 1) := by sorry
theorem d_JsonReader_document_1 : decode b_JsonReader_document 1 = .ok (.iconst 0, 1) := by sorry
theorem d_JsonReader_document_2 : decode b_JsonReader_document 2 = .ok (.putfield 15, 3) := by sorry
theorem d_JsonReader_document_5 : decode b_JsonReader_document 5 = .ok (.aload_n 0, 1) := by sorry
theorem d_JsonReader_document_6 : decode b_JsonReader_document 6 = .ok (.iconst 0, 1) := by sorry
theorem d_JsonReader_document_7 : decode b_JsonReader_document 7 = .ok (.putfield 19, 3) := by sorry
theorem d_JsonReader_document_10 : decode b_JsonReader_document 10 = .ok (.aload_n 0, 1) := by sorry
theorem d_JsonReader_document_11 : decode b_JsonReader_document 11 = .ok (.aconst_null, 1) := by sorry
theorem d_JsonReader_document_12 : decode b_JsonReader_document 12 = .ok (.putfield 22, 3) := by sorry
theorem d_JsonReader_document_15 : decode b_JsonReader_document 15 = .ok (.aload_n 0, 1) := by sorry
theorem d_JsonReader_document_16 : decode b_JsonReader_document 16 = .ok (.iconst 0, 1) := by sorry
theorem d_JsonReader_document_17 : decode b_JsonReader_document 17 = .ok (.invokevirtual 26, 3) := by sorry
theorem d_JsonReader_document_20 : decode b_JsonReader_document 20 = .ok (.astore_n 1, 1) := by sorry
theorem d_JsonReader_document_21 : decode b_JsonReader_document 21 = .ok (.aload_n 0, 1) := by sorry
theorem d_JsonReader_document_22 : decode b_JsonReader_document 22 = .ok (.getfield 9, 3) := by sorry
theorem d_JsonReader_document_25 : decode b_JsonReader_document 25 = .ok (.getfield 30, 3) := by sorry
theorem d_JsonReader_document_28 : decode b_JsonReader_document 28 = .ok (.aload_n 0, 1) := by sorry
theorem d_JsonReader_document_29 : decode b_JsonReader_document 29 = .ok (.getfield 9, 3) := by sorry
theorem d_JsonReader_document_32 : decode b_JsonReader_document 32 = .ok (.getfield 35, 3) := by sorry
theorem d_JsonReader_document_35 : decode b_JsonReader_document 35 = .ok (.if_icmp .ge 17, 3) := by sorry
theorem d_JsonReader_document_38 : decode b_JsonReader_document 38 = .ok (.aload_n 0, 1) := by sorry
theorem d_JsonReader_document_39 : decode b_JsonReader_document 39 = .ok (.getfield 9, 3) := by sorry
theorem d_JsonReader_document_42 : decode b_JsonReader_document 42 = .ok (.aload_n 0, 1) := by sorry
theorem d_JsonReader_document_43 : decode b_JsonReader_document 43 = .ok (.getfield 9, 3) := by sorry
theorem d_JsonReader_document_46 : decode b_JsonReader_document 46 = .ok (.getfield 30, 3) := by sorry
theorem d_JsonReader_document_49 : decode b_JsonReader_document 49 = .ok (.invokevirtual 38, 3) := by sorry
theorem d_JsonReader_document_52 : decode b_JsonReader_document 52 = .ok (.aload_n 1, 1) := by sorry
theorem d_JsonReader_document_53 : decode b_JsonReader_document 53 = .ok (.areturn, 1) := by sorry
set_option maxHeartbeats 4000000 in
set_option maxRecDepth 100000 in
/-- JsonReader.document -/
theorem c_JsonReader_document (l : Launch) (hl9 : l.stackTraces = false) (K : Nat → Nat × Nat) (dC : Nat → ClassId) (dI : Nat → Nat → Nat) (cI cV : ClassId) (lv : Nat → Nat) (cB : ClassId) (h0 qb qu : Nat) (ln : Int32) (bf : Nat → Int32) (n jr : Nat) (hn0 : n ≤ 4096) (hbf : byR bf) (sz : Heap) (E : Nat → Nat) (L : List Nat) (f : Nat → va_E) (hO : PO cI cV E lv L f) (i : Nat) (uc pl : Int32) (ug : Nat → Int32) (dp md : Int32) (la : Option Nat) (hin : i ≤ n) (hi0 : i = 0) : vx_Met l y_JsonReader_document (k_JsonReader_document :: gtbl) ({ frames := 120, cells := 2 * (n - i) + 4, slots := 16 * (n - i) + 40, locals := 3300 }) (va_Pc [.ref jr] (ml K dC dI ([(jr, .inr (1, [.ref h0, .int dp, .int md, va_rf la])), (h0, .inr (8, [.ref qb, .ref qu, .int uc, .int ln, .int (nI n), .int (nI i), .int pl])), (qb, .inl (cB, 4096, .inl bf)), (qu, .inl (cI, 4096, .inl ug))] ++ va_pl L f) [(cB, .byte), (cI, .int), (cV, .object "QueryBench$Value")] sz)) (va_Qr (fun (u : Nat × Nat × List Nat × (Nat → Nat) × (Nat → va_E) × Int32 × (Nat → Int32) × Int32 × Int32 × Nat) => JP cI cV E lv L f none i n u.1 u.2.1 u.2.2.1 u.2.2.2.1 u.2.2.2.2.1 u.2.2.2.2.2.2.2.2.2 ∧ ∃ x, jR bf n = some x ∧ u.2.2.2.2.2.2.2.1 = nI (dpJ 32 x) ∧ DCx E u.2.2.2.1 u.2.2.2.2.1 u.1 x) (fun u a9 t9 => mz dC dI ([(jr, .inr (1, [.ref h0, .int u.2.2.2.2.2.2.2.1, .int u.2.2.2.2.2.2.2.2.1, .ref u.2.2.2.2.2.2.2.2.2])), (h0, .inr (8, [.ref qb, .ref qu, .int u.2.2.2.2.2.1, .int ln, .int (nI n), .int (nI u.2.1), .int pl])), (qb, .inl (cB, 4096, .inl bf)), (qu, .inl (cI, 4096, .inl u.2.2.2.2.2.2.1))] ++ va_pl ((L ++ u.2.2.1)) u.2.2.2.2.1) [(cB, .byte), (cI, .int), (cV, .object "QueryBench$Value")] (va_A ([(jr, .inr (1, [.ref h0, .int dp, .int md, va_rf la])), (h0, .inr (8, [.ref qb, .ref qu, .int uc, .int ln, .int (nI n), .int (nI i), .int pl])), (qb, .inl (cB, 4096, .inl bf)), (qu, .inl (cI, 4096, .inl ug))] ++ va_pl L f) sz.size) t9 ∧ szk sz t9.heap (2 * (u.2.1 - i)) (16 * (u.2.1 - i)) ∧ a9 = u.1) (va_A ([(jr, .inr (1, [.ref h0, .int dp, .int md, va_rf la])), (h0, .inr (8, [.ref qb, .ref qu, .int uc, .int ln, .int (nI n), .int (nI i), .int pl])), (qb, .inl (cB, 4096, .inl bf)), (qu, .inl (cI, 4096, .inl ug))] ++ va_pl L f) sz.size)) (vx_X (fun (u : Int32 × Int32 × Int32 × (Nat → Int32) × Int32 × Int32 × Option Nat × (Nat → va_E)) => (∀ a, E a ≠ 0 → u.2.2.2.2.2.2.2 a = f a) ∧ jR bf n = none) (fun En u t9 => En = UOX ∧ mz dC dI ([(jr, .inr (1, [.ref h0, .int u.2.2.2.2.1, .int u.2.2.2.2.2.1, va_rf u.2.2.2.2.2.2.1])), (h0, .inr (8, [.ref qb, .ref qu, .int u.2.1, .int ln, .int (nI n), .int u.1, .int u.2.2.1])), (qb, .inl (cB, 4096, .inl bf)), (qu, .inl (cI, 4096, .inl u.2.2.2.1))] ++ va_pl L u.2.2.2.2.2.2.2) [(cB, .byte), (cI, .int), (cV, .object "QueryBench$Value")] (va_A ([(jr, .inr (1, [.ref h0, .int dp, .int md, va_rf la])), (h0, .inr (8, [.ref qb, .ref qu, .int uc, .int ln, .int (nI n), .int (nI i), .int pl])), (qb, .inl (cB, 4096, .inl bf)), (qu, .inl (cI, 4096, .inl ug))] ++ va_pl L f) sz.size) t9) (va_A ([(jr, .inr (1, [.ref h0, .int dp, .int md, va_rf la])), (h0, .inr (8, [.ref qb, .ref qu, .int uc, .int ln, .int (nI n), .int (nI i), .int pl])), (qb, .inl (cB, 4096, .inl bf)), (qu, .inl (cI, 4096, .inl ug))] ++ va_pl L f) sz.size)) (2 * (n - i) + 4) (16 * (n - i) + 40) (va_A ([(jr, .inr (1, [.ref h0, .int dp, .int md, va_rf la])), (h0, .inr (8, [.ref qb, .ref qu, .int uc, .int ln, .int (nI n), .int (nI i), .int pl])), (qb, .inl (cB, 4096, .inl bf)), (qu, .inl (cI, 4096, .inl ug))] ++ va_pl L f) sz.size) := by sorry
abbrev b_QB_load : ByteArray := prog_1_method_4_code
def y_QB_load : MethodName := ⟨"QueryBench", "load", "(I)I"⟩
abbrev k_QB_load : Cond := .code y_QB_load b_QB_load 3 (some .int)
theorem i_QB_load : k_QB_load ∈ gtbl := by sorry
theorem d_QB_load_0 : decode b_QB_load 0 = .ok (.iload_n 1, 1) := by sorry
theorem d_QB_load_1 : decode b_QB_load 1 = .ok (.invokestatic 69, 3) := by sorry
theorem d_QB_load_4 : decode b_QB_load 4 = .ok (.aload_n 0, 1) := by sorry
theorem d_QB_load_5 : decode b_QB_load 5 = .ok (.getfield 10, 3) := by sorry
theorem d_QB_load_8 : decode b_QB_load 8 = .ok (.invokevirtual 72, 3) := by sorry
theorem d_QB_load_11 : decode b_QB_load 11 = .ok (.aload_n 0, 1) := by sorry
theorem d_QB_load_12 : decode b_QB_load 12 = .ok (.getfield 21, 3) := by sorry
theorem d_QB_load_15 : decode b_QB_load 15 = .ok (.invokevirtual 75, 3) := by sorry
theorem d_QB_load_18 : decode b_QB_load 18 = .ok (.astore_n 2, 1) := by sorry
theorem d_QB_load_19 : decode b_QB_load 19 = .ok (.aload_n 0, 1) := by sorry
theorem d_QB_load_20 : decode b_QB_load 20 = .ok (.getfield 41, 3) := by sorry
theorem d_QB_load_23 : decode b_QB_load 23 = .ok (.iload_n 1, 1) := by sorry
theorem d_QB_load_24 : decode b_QB_load 24 = .ok (.aload_n 2, 1) := by sorry
theorem d_QB_load_25 : decode b_QB_load 25 = .ok (.aastore, 1) := by sorry
theorem d_QB_load_26 : decode b_QB_load 26 = .ok (.aload_n 0, 1) := by sorry
theorem d_QB_load_27 : decode b_QB_load 27 = .ok (.getfield 21, 3) := by sorry
theorem d_QB_load_30 : decode b_QB_load 30 = .ok (.getfield 79, 3) := by sorry
theorem d_QB_load_33 : decode b_QB_load 33 = .ok (.ireturn, 1) := by sorry
set_option maxHeartbeats 4000000 in
set_option maxRecDepth 100000 in
/-- QueryBench.load -/
theorem c_QB_load (l : Launch) (hl9 : l.stackTraces = false) (K : Nat → Nat × Nat) (dC : Nat → ClassId) (dI : Nat → Nat → Nat) (cI cV : ClassId) (lv : Nat → Nat) (cB : ClassId) (h0 qb qu : Nat) (bf : Nat → Int32) (n jr : Nat) (hn0 : n ≤ 4096) (hbf : byR bf) (sz : Heap) (E : Nat → Nat) (L : List Nat) (f : Nat → va_E) (hO : PO cI cV E lv L f) (q0 ds : Nat) (r2 r3 r5 r6 r7 : Value) (dg : Nat → Option Nat) (en at0 uc pl : Int32) (ug : Nat → Int32) (dp md : Int32) (la : Option Nat) (d : Int32) : vx_Met l y_QB_load (k_QB_load :: gtbl) ({ frames := 130, cells := 2 * n + 5, slots := 16 * n + 46, locals := 3400 }) (va_Pc [.ref q0, .int d] (ml K dC dI ([(q0, .inr (11, [.ref h0, .ref jr, r2, r3, .ref ds, r5, r6, r7])), (ds, .inl (cV, 4, .inr (.inr (.inr (.inr dg))))), (jr, .inr (1, [.ref h0, .int dp, .int md, va_rf la])), (h0, .inr (8, [.ref qb, .ref qu, .int uc, .int (nI n), .int en, .int at0, .int pl])), (qb, .inl (cB, 4096, .inl bf)), (qu, .inl (cI, 4096, .inl ug))] ++ va_pl L f) [(cB, .byte), (cI, .int), (cV, .object "QueryBench$Value")] sz)) (va_Qi (fun (r : Int32) (u : Nat × Nat × List Nat × (Nat → Nat) × (Nat → va_E) × Int32 × (Nat → Int32) × Int32 × Int32 × Nat × (Nat → Option Nat)) => (¬ d < 0 ∧ d < 4) ∧ JP cI cV E lv L f none 0 n u.1 u.2.1 u.2.2.1 u.2.2.2.1 u.2.2.2.2.1 u.2.2.2.2.2.2.2.2.2.1 ∧ (∃ x, jR bf n = some x ∧ r = nI (dpJ 32 x) ∧ DCx E u.2.2.2.1 u.2.2.2.2.1 u.1 x) ∧ ∃ j, j < 4 ∧ d = nI j ∧ u.2.2.2.2.2.2.2.2.2.2 = va_up dg j (some u.1)) (fun u t9 => mz dC dI ([(q0, .inr (11, [.ref h0, .ref jr, r2, r3, .ref ds, r5, r6, r7])), (ds, .inl (cV, 4, .inr (.inr (.inr (.inr u.2.2.2.2.2.2.2.2.2.2))))), (jr, .inr (1, [.ref h0, .int u.2.2.2.2.2.2.2.1, .int u.2.2.2.2.2.2.2.2.1, .ref u.2.2.2.2.2.2.2.2.2.1])), (h0, .inr (8, [.ref qb, .ref qu, .int u.2.2.2.2.2.1, .int 0, .int (nI n), .int (nI u.2.1), .int (-1)])), (qb, .inl (cB, 4096, .inl bf)), (qu, .inl (cI, 4096, .inl u.2.2.2.2.2.2.1))] ++ va_pl ((L ++ u.2.2.1)) u.2.2.2.2.1) [(cB, .byte), (cI, .int), (cV, .object "QueryBench$Value")] (va_A ([(q0, .inr (11, [.ref h0, .ref jr, r2, r3, .ref ds, r5, r6, r7])), (ds, .inl (cV, 4, .inr (.inr (.inr (.inr dg))))), (jr, .inr (1, [.ref h0, .int dp, .int md, va_rf la])), (h0, .inr (8, [.ref qb, .ref qu, .int uc, .int (nI n), .int en, .int at0, .int pl])), (qb, .inl (cB, 4096, .inl bf)), (qu, .inl (cI, 4096, .inl ug))] ++ va_pl L f) sz.size) t9 ∧ szk sz t9.heap (2 * n) (16 * n)) (va_A ([(q0, .inr (11, [.ref h0, .ref jr, r2, r3, .ref ds, r5, r6, r7])), (ds, .inl (cV, 4, .inr (.inr (.inr (.inr dg))))), (jr, .inr (1, [.ref h0, .int dp, .int md, va_rf la])), (h0, .inr (8, [.ref qb, .ref qu, .int uc, .int (nI n), .int en, .int at0, .int pl])), (qb, .inl (cB, 4096, .inl bf)), (qu, .inl (cI, 4096, .inl ug))] ++ va_pl L f) sz.size)) (vx_X (fun (u : Int32 × Int32 × Int32 × Int32 × Int32 × (Nat → Int32) × Int32 × Int32 × Option Nat × (Nat → va_E)) => u.1 = nI (if (¬ d < 0 ∧ d < 4) then 0 else n) ∧ ∀ a, E a ≠ 0 → u.2.2.2.2.2.2.2.2.2 a = f a) (fun En u t9 => ((En = IAX ∧ ¬ (¬ d < 0 ∧ d < 4)) ∨ (En = UOX ∧ (¬ d < 0 ∧ d < 4) ∧ jR bf n = none)) ∧ mz dC dI ([(q0, .inr (11, [.ref h0, .ref jr, r2, r3, .ref ds, r5, r6, r7])), (ds, .inl (cV, 4, .inr (.inr (.inr (.inr dg))))), (jr, .inr (1, [.ref h0, .int u.2.2.2.2.2.2.1, .int u.2.2.2.2.2.2.2.1, va_rf u.2.2.2.2.2.2.2.2.1])), (h0, .inr (8, [.ref qb, .ref qu, .int u.2.2.2.1, .int u.1, .int u.2.1, .int u.2.2.1, .int u.2.2.2.2.1])), (qb, .inl (cB, 4096, .inl bf)), (qu, .inl (cI, 4096, .inl u.2.2.2.2.2.1))] ++ va_pl L u.2.2.2.2.2.2.2.2.2) [(cB, .byte), (cI, .int), (cV, .object "QueryBench$Value")] (va_A ([(q0, .inr (11, [.ref h0, .ref jr, r2, r3, .ref ds, r5, r6, r7])), (ds, .inl (cV, 4, .inr (.inr (.inr (.inr dg))))), (jr, .inr (1, [.ref h0, .int dp, .int md, va_rf la])), (h0, .inr (8, [.ref qb, .ref qu, .int uc, .int (nI n), .int en, .int at0, .int pl])), (qb, .inl (cB, 4096, .inl bf)), (qu, .inl (cI, 4096, .inl ug))] ++ va_pl L f) sz.size) t9) (va_A ([(q0, .inr (11, [.ref h0, .ref jr, r2, r3, .ref ds, r5, r6, r7])), (ds, .inl (cV, 4, .inr (.inr (.inr (.inr dg))))), (jr, .inr (1, [.ref h0, .int dp, .int md, va_rf la])), (h0, .inr (8, [.ref qb, .ref qu, .int uc, .int (nI n), .int en, .int at0, .int pl])), (qb, .inl (cB, 4096, .inl bf)), (qu, .inl (cI, 4096, .inl ug))] ++ va_pl L f) sz.size)) (2 * n + 5) (16 * n + 46) (va_A ([(q0, .inr (11, [.ref h0, .ref jr, r2, r3, .ref ds, r5, r6, r7])), (ds, .inl (cV, 4, .inr (.inr (.inr (.inr dg))))), (jr, .inr (1, [.ref h0, .int dp, .int md, va_rf la])), (h0, .inr (8, [.ref qb, .ref qu, .int uc, .int (nI n), .int en, .int at0, .int pl])), (qb, .inl (cB, 4096, .inl bf)), (qu, .inl (cI, 4096, .inl ug))] ++ va_pl L f) sz.size) := by sorry
end
section
section CQuery
variable (f : Nat → Int32) (n : Nat)
def nmC : Nat → Nat → Nat
  | 0, j => j
  | k + 1, j => if letH (hereV f n j) ∨ digH (hereV f n j) then nmC k (j + 1) else j
end CQuery
def nwB (nw : Int32) : Bool := decide (¬ nw = 0)
theorem nwB_0 {nw : Int32} (h : nw = 0) : nwB nw = false := by sorry
theorem nwB_1 {nw : Int32} (h : ¬ nw = 0) : nwB nw = true := by sorry
theorem nwB0 : nwB 0 = false := by sorry
theorem nwB1 : nwB 1 = true := by sorry
/-- a selector alone: a name or an index, and no other behind it -/
def sgL (e : va_E) : Bool := (refE 8 e).isNone && (decide (intE 0 e = 0) || decide (intE 0 e = 2))
/-- a segment leads to one node at most -/
def sgG (f : Nat → va_E) (r : Nat) : Bool := decide (intE 0 (f r) = 0) && (match refE 1 (f r) with
  | some a => sgL (f a)
  | none => false)
/-- what a query's field says -/
def sgQ (e : va_E) : Bool := decide (¬ intE 1 e = 0)
abbrev sgLs (f : Nat → va_E) (r : Nat) : Bool := sgL (f r)
abbrev sgQs (f : Nat → va_E) (r : Nat) : Bool := sgQ (f r)
theorem sgL_e {kd : Int32} {nm : Option Nat} {hs ht : Int32} {st sp se : Int64} {fl nx : Option Nat} : sgL (lE kd nm hs ht st sp se fl nx) = (nx.isNone && (decide (kd = 0) || decide (kd = 2))) := by sorry
theorem sgL_n {kd : Int32} {nm : Option Nat} {hs ht : Int32} {st sp se : Int64} {fl : Option Nat} {v : Nat} : sgL (lE kd nm hs ht st sp se fl (some v)) = false := by sorry
theorem sgL_0 {nm : Option Nat} {hs ht : Int32} {st sp se : Int64} {fl : Option Nat} : sgL (lE 0 nm hs ht st sp se fl none) = true := by sorry
theorem sgL_1 {nm : Option Nat} {hs ht : Int32} {st sp se : Int64} {fl : Option Nat} : sgL (lE 1 nm hs ht st sp se fl none) = false := by sorry
theorem sgL_2 {nm : Option Nat} {hs ht : Int32} {st sp se : Int64} {fl : Option Nat} : sgL (lE 2 nm hs ht st sp se fl none) = true := by sorry
theorem sgL_3 {nm : Option Nat} {hs ht : Int32} {st sp se : Int64} {fl : Option Nat} : sgL (lE 3 nm hs ht st sp se fl none) = false := by sorry
theorem sgL_4 {nm : Option Nat} {hs ht : Int32} {st sp se : Int64} {fl : Option Nat} : sgL (lE 4 nm hs ht st sp se fl none) = false := by sorry
theorem sgG_e {f : Nat → va_E} {r v : Nat} {ds : Int32} {nx : Option Nat} (h : f r = gE ds (some v) nx) : sgG f r = (decide (ds = 0) && sgL (f v)) := by sorry
theorem sgG_0 {f : Nat → va_E} {r v : Nat} {nx : Option Nat} (hv : v ≠ r) : sgG (va_up f r (gE 0 (some v) nx)) r = sgL (f v) := by sorry
theorem sgG_1 {f : Nat → va_E} {r v : Nat} {nx : Option Nat} : sgG (va_up f r (gE 1 (some v) nx)) r = false := by sorry
theorem sgQ_e {fr sg : Int32} {fi la : Option Nat} : sgQ (qE fr sg fi la) = decide (¬ sg = 0) := by sorry
theorem sgQ_b {fr : Int32} {b : Bool} {fi la : Option Nat} : sgQ (qE fr (bI b) fi la) = b := by sorry
theorem bI_q {e : va_E} {sg : Int32} (h : sgQ e = decide (¬ sg = 0)) : (¬ sg = 0 → sgQ e = true) ∧ (sg = 0 → sgQ e = false) := by sorry
/-- a segment stays what it is where another one of its sort is changed -/
theorem sgG_fr {cI cV : ClassId} {E lv : Nat → Nat} {L : List Nat} {f : Nat → va_E} {sn z : Nat} {e : va_E} (hO : PO cI cV E lv L f) (hsn : E sn = 8) (hz : E z = 8) (hne : sn ≠ z) : sgG (va_up f z e) sn = sgG f sn := by sorry
theorem mp_none {α β : Type} {o : Option α} {g : α → β} (h : o = none) : o.map g = none := by sorry
theorem mp_some {α β : Type} {o : Option α} {g : α → β} {a : α} (h : o = some a) : o.map g = some (g a) := by sorry
theorem bd_none {α β : Type} {o : Option α} {g : α → Option β} (h : o = none) : o.bind g = none := by sorry
theorem bd_some {α β : Type} {o : Option α} {g : α → Option β} {a : α} (h : o = some a) : o.bind g = g a := by sorry
theorem dig_nl {x : Int32} (h : digH x) : ¬ letH x := by sorry
section QIntro
variable {f : Nat → Int32} {n i j p p1 p2 p3 u k m : Nat} {r : Int64} {ok nw b b0 fl : Bool} {orL cmL op one inn : Nat → Option Nat} {qyL : Nat → Option (Nat × Bool)} {L : List Int32} {c : Int32}
-- integer
-- operator
-- slice
-- selector
theorem nq_of (h : hereV f n i = c) (h1 : ¬ c = 39) (h2 : ¬ c = 34) : ¬ (hereV f n i = 39 ∨ hereV f n i = 34) := by sorry
/-- it must be a number -/
abbrev mbI (f : Nat → Int32) (n i : Nat) (nw : Bool) : Prop := ¬ (nw = false ∧ hereV f n i = 42) ∧ ¬ (nw = false ∧ hereV f n i = 63) ∧ ¬ (nw = false ∧ hereV f n i = 58)
theorem mbI_1 (hn : nw = true) : mbI f n i nw := by sorry
theorem mbI_0 (h1 : ¬ hereV f n i = 42) (h2 : ¬ hereV f n i = 63) (h3 : ¬ hereV f n i = 58) : mbI f n i nw := by sorry
-- selectors
-- a name without quotes
theorem nmC_e (h : ¬ (letH (hereV f n j) ∨ digH (hereV f n j))) : nmC f n k j = j := by sorry
theorem nmC_n (h : n ≤ j) : nmC f n (n - j) j = j := by sorry
theorem nmC_s (hp : j < n) (h : letH (hereV f n j) ∨ digH (hereV f n j)) : nmC f n (n - j) j = nmC f n (n - (j + 1)) (j + 1) := by sorry
-- segment
-- query
-- what is written
-- in brackets
-- what may be compared
theorem nb_c (h : hereV f n i = c) (h1 : ¬ c = 64) (h2 : ¬ c = 36) : ¬ begC (hereV f n i) := by sorry
-- comparison
-- group
-- a test, or a comparison
-- negation
-- a simple condition
-- and, or
-- the whole
end QIntro
/-- the first selector of a row, while others are put behind it -/
def SLI (g : Nat → Int32) (n : Nat) (nw : Bool) (p0 x y p : Nat) (b0 : Bool) (m : Nat) (f : Nat → va_E) : Prop := (m = 0 ∧ y = x ∧ p = p0 ∧ sgL (f x) = b0) ∨ (¬ m = 0 ∧ (nw = false ∧ hereV g n p0 = 44) ∧ sgL (f x) = false)
theorem SLI.next {g : Nat → Int32} {n : Nat} {nw : Bool} {p0 x y p : Nat} {b0 : Bool} {m : Nat} {f f' : Nat → va_E} (h : SLI g n nw p0 x y p b0 m f) (hn : nw = false) (hc : hereV g n p = 44) (hx : f' x = f x) {kd : Int32} {nm : Option Nat} {hs ht : Int32} {st sp se : Int64} {fl : Option Nat} {v p2 : Nat} : SLI g n nw p0 x v p2 b0 (m + 1) (va_up f' y (lE kd nm hs ht st sp se fl (some v))) := by sorry
theorem SLI.fin {g : Nat → Int32} {n : Nat} {nw : Bool} {p0 x y p : Nat} {b0 : Bool} {m : Nat} {f : Nat → va_E} (h : SLI g n nw p0 x y p b0 m f) (he : ¬ (nw = false ∧ hereV g n p = 44)) : (b0 && !(decide (nw = false ∧ hereV g n p0 = 44))) = sgL (f x) := by sorry
section CQueryD
variable (f : Nat → Int32) (n : Nat)
/-- an integer, as the class reads it: where it ends, and what it says -/
def iBv (mi : Bool) (i : Nat) : Option (Nat × Int64) := if ¬ digH (hereV f n i) ∨ hereV f n i = 48 then none else if ¬ (digR f n i).1 ≤ 9007199254740991 then none else some ((digR f n i).2, if mi = true then -(digR f n i).1 else (digR f n i).1)
def iCv (i : Nat) : Option (Nat × Int64) := if hereV f n i = 45 then iBv f n true (i + 1) else if hereV f n i = 48 then some (i + 1, 0) else iBv f n false i
/-- a slice: its end, its step -/
def slV2 (j : Nat) : Option (Nat × Int64) := if hereV f n j = 58 then (if numC (hereV f n (skipB f n (j + 1))) then iCv f n (skipB f n (j + 1)) else some (skipB f n (j + 1), 1)) else some (j, 1)
def slV (i : Nat) : Option (Nat × Option Int64 × Int64) := if numC (hereV f n (skipB f n (i + 1))) then (iCv f n (skipB f n (i + 1))).bind (fun v => (slV2 f n (skipB f n v.1)).map (fun w => (w.1, some v.2, w.2))) else (slV2 f n (skipB f n (i + 1))).map (fun w => (w.1, none, w.2))
/-- a selector: where it ends, whether it is a name or an index, what it says -/
def selD1 (orL : Nat → Option (Nat × CT)) (nw : Bool) (i : Nat) : Option (Nat × Bool × QT) :=
  if hereV f n i = 39 ∨ hereV f n i = 34 then (qtR f n i).map (fun p => (p.1 + 1, true, namS p.2))
  else if nw = false ∧ hereV f n i = 42 then some (i + 1, false, eachS)
  else if nw = false ∧ hereV f n i = 63 then (orL (i + 1)).map (fun j => (j.1, false, filS j.2))
  else if nw = false ∧ hereV f n i = 58 then (slV f n i).map (fun j => (j.1, false, slcS none j.2.1 j.2.2))
  else (iCv f n i).bind (fun v => if nw = false ∧ hereV f n (skipB f n v.1) = 58 then (slV f n (skipB f n v.1)).map (fun j => (j.1, false, slcS (some v.2) j.2.1 j.2.2)) else some (skipB f n v.1, true, idxS v.2))
def selD (orL : Nat → Option (Nat × CT)) (nw : Bool) (i : Nat) : Option (Nat × Bool × QT) := (selD1 f n orL nw (skipB f n i)).map (fun p => (skipB f n p.1, p.2))
/-- further selectors -/
def slsLD (orL : Nat → Option (Nat × CT)) (nw : Bool) : Nat → Nat → Option (Nat × List QT)
  | 0, _ => none
  | k + 1, p => if nw = false ∧ hereV f n p = 44 then (selD f n orL nw (p + 1)).bind (fun q => (slsLD orL nw k q.1).map (fun r => (r.1, q.2.2 :: r.2))) else some (p, [])
def slsD (ok : Bool) (orL : Nat → Option (Nat × CT)) (nw : Bool) (i : Nat) : Option (Nat × Bool × List QT) :=
  if ok = true ∧ hereV f n i = 91 then (selD f n orL nw (i + 1)).bind (fun p => (slsLD f n orL nw 4098 p.1).bind (fun j => if hereV f n j.1 = 93 then some (j.1 + 1, p.2.1 && j.2.isEmpty, p.2.2 :: j.2) else none)) else none
def shD (nw : Bool) (j : Nat) : Option (Nat × Bool × List QT) := if nw = false ∧ hereV f n j = 42 then some (j + 1, false, [eachS]) else if ¬ letH (hereV f n j) then none else some (nmC f n (n - j) j, true, [namS (nmT_ f n j (nmC f n (n - j) j))])
def segD (ok : Bool) (orL : Nat → Option (Nat × CT)) (nw : Bool) (i : Nat) : Option (Nat × Bool × QT) :=
  if hereV f n i = 46 then (if nw = false ∧ hereV f n (i + 1) = 46 then (if hereV f n (i + 2) = 91 then (slsD f n ok orL nw (i + 2)).map (fun p => (p.1, false, segS true p.2.2)) else (shD f n nw (i + 2)).map (fun p => (p.1, false, segS true p.2.2))) else (shD f n nw (i + 1)).map (fun p => (p.1, p.2.1, segS false p.2.2)))
  else (slsD f n ok orL nw i).map (fun p => (p.1, p.2.1, segS false p.2.2))
def qrLD (ok : Bool) (orL : Nat → Option (Nat × CT)) (nw : Bool) : Nat → Nat → Bool → Option (Nat × Bool × List QT)
  | 0, _, _ => none
  | k + 1, i, fl => if ¬ hereV f n (skipB f n i) = 46 ∧ ¬ hereV f n (skipB f n i) = 91 then some (i, fl, []) else (segD f n ok orL nw (skipB f n i)).bind (fun p => (qrLD ok orL nw k p.1 (fl && p.2.1)).map (fun q => (q.1, q.2.1, p.2.2 :: q.2.2)))
/-- a query from its $ or @ on -/
def qrD (ok : Bool) (orL : Nat → Option (Nat × CT)) (nw : Bool) (i : Nat) : Option (Nat × Bool × QT) := (qrLD f n ok orL nw 4097 (i + 1) true).map (fun q => (q.1, q.2.1, qryS (decide (hereV f n i = 36)) q.2.2))
def brD {α : Type} (ok : Bool) (inn : Nat → Option (Nat × α)) (j : Nat) : Option (Nat × α) := if ok = true ∧ hereV f n j = 40 then (inn (skipB f n (j + 1))).bind (fun k => if hereV f n (skipB f n k.1) = 41 then some (skipB f n k.1 + 1, k.2) else none) else none
def wrD (i : Nat) : Option (Nat × LF) :=
  if hereV f n i = 116 then (if mtB f n i (ctx 11) 4 = true then some (i + 4, (1, 0, [])) else none)
  else if hereV f n i = 102 then (if mtB f n i (ctx 12) 5 = true then some (i + 5, (2, 0, [])) else none)
  else if hereV f n i = 110 then (if mtB f n i (ctx 13) 4 = true then some (i + 4, (0, 0, [])) else none)
  else if hereV f n i = 39 ∨ hereV f n i = 34 then (qtR f n i).map (fun p => (p.1 + 1, (4, 0, p.2)))
  else (iCv f n i).map (fun v => (v.1, (3, v.2, [])))
def anyD (qyL : Nat → Option (Nat × Bool × QT)) (i : Nat) : Option (Nat × QT) := if begC (hereV f n i) then (qyL i).map (fun p => (p.1, p.2.2)) else none
def fnD {α : Type} (t ln : Nat) (ok : Bool) (inn : Nat → Option (Nat × α)) (i : Nat) : Option (Nat × α) := if mtB f n i (ctx t) ln = true then brD f n ok inn (i + ln) else none
/-- what may be compared -/
def opD (ok : Bool) (orL : Nat → Option (Nat × CT)) (cmL : Nat → Option (Nat × OT)) (qyL : Nat → Option (Nat × Bool × QT)) (i : Nat) : Option (Nat × OT) :=
  if begC (hereV f n i) then (qrD f n ok orL true i).map (fun p => (p.1, onlO p.2.2))
  else if hereV f n i = 108 then (fnD f n 10 6 ok cmL i).map (fun p => (p.1, lenO p.2))
  else if hereV f n i = 99 then (fnD f n 8 5 ok (anyD f n qyL) i).map (fun p => (p.1, cntO p.2))
  else if hereV f n i = 118 then (fnD f n 9 5 ok (anyD f n qyL) i).map (fun p => (p.1, onlO p.2))
  else (wrD f n i).map (fun p => (p.1, litO p.2))
def oprD (j : Nat) : Option (Nat × Nat) :=
  if hereV f n j = 60 then (if hereV f n (j + 1) = 61 then some (j + 2, 3) else some (j + 1, 2))
  else if hereV f n j = 62 then (if hereV f n (j + 1) = 61 then some (j + 2, 5) else some (j + 1, 4))
  else if hereV f n j = 33 then (if hereV f n (j + 1) = 61 then some (j + 2, 1) else none)
  else if hereV f n j = 61 then (if hereV f n (j + 1) = 61 then some (j + 2, 0) else none) else none
def cpD (op : Nat → Option (Nat × OT)) (x : OT) (j : Nat) : Option (Nat × CT) := (oprD f n j).bind (fun k => (op (skipB f n k.1)).map (fun y => (y.1, cmpC k.2 x y.2)))
def gpD (ok : Bool) (orL : Nat → Option (Nat × CT)) (i : Nat) : Option (Nat × CT) := if ok = true ∧ hereV f n i = 40 then (orL (i + 1)).bind (fun j => if hereV f n j.1 = 41 then some (j.1 + 1, j.2) else none) else none
def tcD (ok : Bool) (orL : Nat → Option (Nat × CT)) (op : Nat → Option (Nat × OT)) (i : Nat) : Option (Nat × CT) := (qrD f n ok orL false i).bind (fun p => if opH (hereV f n (skipB f n p.1)) then (if p.2.1 = false then none else cpD f n op (onlO p.2.2) (skipB f n p.1)) else some (skipB f n p.1, tstC p.2.2))
def ngD (ok : Bool) (orL : Nat → Option (Nat × CT)) (i : Nat) : Option (Nat × CT) := (if hereV f n (skipB f n (i + 1)) = 40 then gpD f n ok orL (skipB f n (i + 1)) else (anyD f n (qrD f n ok orL false) (skipB f n (i + 1))).map (fun p => (p.1, tstC p.2))).map (fun p => (p.1, notC p.2))
def baD1 (ok : Bool) (orL : Nat → Option (Nat × CT)) (cmL : Nat → Option (Nat × OT)) (qyL : Nat → Option (Nat × Bool × QT)) (i : Nat) : Option (Nat × CT) :=
  if hereV f n i = 33 then ngD f n ok orL i
  else if hereV f n i = 40 then gpD f n ok orL i
  else if begC (hereV f n i) then tcD f n ok orL (opD f n ok orL cmL qyL) i
  else (opD f n ok orL cmL qyL i).bind (fun x => cpD f n (opD f n ok orL cmL qyL) x.2 (skipB f n x.1))
def baD (ok : Bool) (orL : Nat → Option (Nat × CT)) (cmL : Nat → Option (Nat × OT)) (qyL : Nat → Option (Nat × Bool × QT)) (i : Nat) : Option (Nat × CT) := (baD1 f n ok orL cmL qyL (skipB f n i)).map (fun p => (skipB f n p.1, p.2))
def liD (one : Nat → Option (Nat × CT)) (c : Int32) : Nat → Nat → Option (Nat × List CT)
  | 0, _ => none
  | k + 1, p => if hereV f n p = c then (if hereV f n (p + 1) = c then (one (p + 2)).bind (fun q => (liD one c k q.1).map (fun r => (r.1, q.2 :: r.2))) else none) else some (p, [])
def anD (ok : Bool) (orL : Nat → Option (Nat × CT)) (cmL : Nat → Option (Nat × OT)) (qyL : Nat → Option (Nat × Bool × QT)) (i : Nat) : Option (Nat × CT) := (baD f n ok orL cmL qyL i).bind (fun p => (liD f n (baD f n ok orL cmL qyL) 38 4098 p.1).map (fun r => (r.1, allC (p.2 :: r.2))))
def orD (ok : Bool) (orL : Nat → Option (Nat × CT)) (cmL : Nat → Option (Nat × OT)) (qyL : Nat → Option (Nat × Bool × QT)) (i : Nat) : Option (Nat × CT) := (anD f n ok orL cmL qyL i).bind (fun p => (liD f n (anD f n ok orL cmL qyL) 124 4098 p.1).map (fun r => (r.1, anyC_ (p.2 :: r.2))))
def DDd : Nat → (Nat → Option (Nat × CT)) × (Nat → Option (Nat × OT)) × (Nat → Option (Nat × Bool × QT))
  | 0 => (orD f n false (fun _ => none) (fun _ => none) (fun _ => none), opD f n false (fun _ => none) (fun _ => none) (fun _ => none), qrD f n false (fun _ => none) false)
  | d + 1 => (orD f n true (DDd d).1 (DDd d).2.1 (DDd d).2.2, opD f n true (DDd d).1 (DDd d).2.1 (DDd d).2.2, qrD f n true (DDd d).1 false)
/-- a whole query: is it singular, and what it says -/
def jQD : Option (Bool × QT) := if hereV f n 0 = 36 then ((DDd f n 16).2.2 0).bind (fun p => if p.1 < n then none else some p.2) else none
end CQueryD
section DIntro
variable {f : Nat → Int32} {n i j p p1 p2 p3 u k m : Nat} {r v w : Int64} {ok nw b b0 fl : Bool} {orL : Nat → Option (Nat × CT)} {cmL op : Nat → Option (Nat × OT)} {one : Nat → Option (Nat × CT)} {qyL : Nat → Option (Nat × Bool × QT)} {L : List Int32} {c : Int32} {s : QT} {g h9 : CT} {x y : OT} {lf : LF}
-- integer
theorem iBv_no (h : ¬ digH (hereV f n i) ∨ hereV f n i = 48) {mi : Bool} : iBv f n mi i = none := by sorry
theorem iBv_big (hd : (r, u) = digR f n i) (h : ¬ r ≤ 9007199254740991) {mi : Bool} : iBv f n mi i = none := by sorry
theorem iBv_ok (hg : digH (hereV f n i)) (h0 : ¬ hereV f n i = 48) (hd : (r, u) = digR f n i) (hm : r ≤ 9007199254740991) {mi : Bool} : iBv f n mi i = some (u, if mi = true then -r else r) := by sorry
theorem iCv_m (h : hereV f n i = 45) : iCv f n i = iBv f n true (i + 1) := by sorry
theorem iCv_0 (h0 : ¬ hereV f n i = 45) (h : hereV f n i = 48) : iCv f n i = some (i + 1, 0) := by sorry
theorem iCv_p (h0 : ¬ hereV f n i = 45) (h : ¬ hereV f n i = 48) : iCv f n i = iBv f n false i := by sorry
-- slice
theorem slV_0 (hp : p1 = skipB f n (i + 1)) (h : numC (hereV f n p1)) (hi : iCv f n p1 = none) : slV f n i = none := by sorry
theorem slV_1 (hp : p1 = skipB f n (i + 1)) (h : numC (hereV f n p1)) (hi : iCv f n p1 = some (u, v)) (hp2 : p2 = skipB f n u) : slV f n i = (slV2 f n p2).map (fun w => (w.1, some v, w.2)) := by sorry
theorem slV_2 (hp : p1 = skipB f n (i + 1)) (h : ¬ numC (hereV f n p1)) : slV f n i = (slV2 f n p1).map (fun w => (w.1, none, w.2)) := by sorry
theorem slV2_e (h : ¬ hereV f n j = 58) : slV2 f n j = some (j, 1) := by sorry
theorem slV2_0 (h : hereV f n j = 58) (hp : p = skipB f n (j + 1)) (hn : numC (hereV f n p)) (hi : iCv f n p = none) : slV2 f n j = none := by sorry
theorem slV2_1 (h : hereV f n j = 58) (hp : p = skipB f n (j + 1)) (hn : numC (hereV f n p)) (hi : iCv f n p = some (u, v)) : slV2 f n j = some (u, v) := by sorry
theorem slV2_2 (h : hereV f n j = 58) (hp : p = skipB f n (j + 1)) (hn : ¬ numC (hereV f n p)) : slV2 f n j = some (p, 1) := by sorry
-- selector
theorem selD_0 (hp : p = skipB f n i) (h : selD1 f n orL nw p = none) : selD f n orL nw i = none := by sorry
theorem selD_1 (hp : p = skipB f n i) (h : selD1 f n orL nw p = some (p1, b, s)) (hp2 : p2 = skipB f n p1) : selD f n orL nw i = some (p2, b, s) := by sorry
theorem selD1_q0 (h : hereV f n i = 39 ∨ hereV f n i = 34) (hq : qtR f n i = none) : selD1 f n orL nw i = none := by sorry
theorem selD1_q (h : hereV f n i = 39 ∨ hereV f n i = 34) (hq : qtR f n i = some (j, L)) : selD1 f n orL nw i = some (j + 1, true, namS L) := by sorry
theorem selD1_a (hn : nw = false) (h : hereV f n i = 42) : selD1 f n orL nw i = some (i + 1, false, eachS) := by sorry
theorem selD1_f0 (hn : nw = false) (h : hereV f n i = 63) (ho : orL (i + 1) = none) : selD1 f n orL nw i = none := by sorry
theorem selD1_f (hn : nw = false) (h : hereV f n i = 63) (ho : orL (i + 1) = some (j, g)) : selD1 f n orL nw i = some (j, false, filS g) := by sorry
theorem selD1_s0 (hn : nw = false) (h : hereV f n i = 58) (ho : slV f n i = none) : selD1 f n orL nw i = none := by sorry
theorem selD1_s {e : Option Int64} (hn : nw = false) (h : hereV f n i = 58) (ho : slV f n i = some (j, e, w)) : selD1 f n orL nw i = some (j, false, slcS none e w) := by sorry
theorem selD1_b (hq : ¬ (hereV f n i = 39 ∨ hereV f n i = 34)) (hm : mbI f n i nw) : selD1 f n orL nw i = (iCv f n i).bind (fun v => if nw = false ∧ hereV f n (skipB f n v.1) = 58 then (slV f n (skipB f n v.1)).map (fun j => (j.1, false, slcS (some v.2) j.2.1 j.2.2)) else some (skipB f n v.1, true, idxS v.2)) := by sorry
theorem selD1_i0 (hq : ¬ (hereV f n i = 39 ∨ hereV f n i = 34)) (hm : mbI f n i nw) (hi : iCv f n i = none) : selD1 f n orL nw i = none := by sorry
theorem selD1_i (hq : ¬ (hereV f n i = 39 ∨ hereV f n i = 34)) (hm : mbI f n i nw) (hi : iCv f n i = some (u, v)) (hp : p2 = skipB f n u) (hc : ¬ (nw = false ∧ hereV f n p2 = 58)) : selD1 f n orL nw i = some (p2, true, idxS v) := by sorry
theorem selD1_n0 (hq : ¬ (hereV f n i = 39 ∨ hereV f n i = 34)) (hm : mbI f n i nw) (hi : iCv f n i = some (u, v)) (hp : p2 = skipB f n u) (hn : nw = false) (hc : hereV f n p2 = 58) (hs : slV f n p2 = none) : selD1 f n orL nw i = none := by sorry
theorem selD1_n {e : Option Int64} (hq : ¬ (hereV f n i = 39 ∨ hereV f n i = 34)) (hm : mbI f n i nw) (hi : iCv f n i = some (u, v)) (hp : p2 = skipB f n u) (hn : nw = false) (hc : hereV f n p2 = 58) (hs : slV f n p2 = some (k, e, w)) : selD1 f n orL nw i = some (k, false, slcS (some v) e w) := by sorry
-- selectors: t are those that stand behind the first
variable {l t : List QT} {lc : List CT}
theorem slsD_0 (h : ¬ (ok = true ∧ hereV f n i = 91)) : slsD f n ok orL nw i = none := by sorry
theorem slsD_b (h1 : ok = true) (h2 : hereV f n i = 91) (h3 : selD f n orL nw (i + 1) = some (p, b0, s)) : slsD f n ok orL nw i = (slsLD f n orL nw 4098 p).bind (fun j => if hereV f n j.1 = 93 then some (j.1 + 1, b0 && j.2.isEmpty, s :: j.2) else none) := by sorry
theorem slsD_1 (h1 : ok = true) (h2 : hereV f n i = 91) (h3 : selD f n orL nw (i + 1) = none) : slsD f n ok orL nw i = none := by sorry
theorem slsD_2 (h1 : ok = true) (h2 : hereV f n i = 91) (h3 : selD f n orL nw (i + 1) = some (p, b0, s)) (h4 : slsLD f n orL nw 4098 p = none) : slsD f n ok orL nw i = none := by sorry
theorem slsD_3 (h1 : ok = true) (h2 : hereV f n i = 91) (h3 : selD f n orL nw (i + 1) = some (p, b0, s)) (h4 : slsLD f n orL nw 4098 p = some (j, t)) (h5 : ¬ hereV f n j = 93) : slsD f n ok orL nw i = none := by sorry
theorem slsD_ok (h1 : ok = true) (h2 : hereV f n i = 91) (h3 : selD f n orL nw (i + 1) = some (p, b0, s)) (h4 : slsLD f n orL nw 4098 p = some (j, t)) (h5 : hereV f n j = 93) (hb : (b0 && t.isEmpty) = b) : slsD f n ok orL nw i = some (j + 1, b, s :: t) := by sorry
theorem slLD_u (hm : m ≤ 4095) : slsLD f n orL nw (4098 - m) p = if nw = false ∧ hereV f n p = 44 then (selD f n orL nw (p + 1)).bind (fun q => (slsLD f n orL nw (4098 - (m + 1)) q.1).map (fun r => (r.1, q.2.2 :: r.2))) else some (p, []) := by sorry
theorem slLD_n (hm : m ≤ 4095) (hn : nw = false) (hc : hereV f n p = 44) (hs : selD f n orL nw (p + 1) = none) : slsLD f n orL nw (4098 - m) p = none := by sorry
theorem slLD_s (hm : m ≤ 4095) (hn : nw = false) (hc : hereV f n p = 44) (hs : selD f n orL nw (p + 1) = some (j, b, s)) : slsLD f n orL nw (4098 - m) p = (slsLD f n orL nw (4098 - (m + 1)) j).map (fun r => (r.1, s :: r.2)) := by sorry
theorem slLD_e (hm : m ≤ 4095) (h : ¬ (nw = false ∧ hereV f n p = 44)) : slsLD f n orL nw (4098 - m) p = some (p, []) := by sorry
-- a name without quotes
theorem shD_a (hn : nw = false) (h : hereV f n i = 42) : shD f n nw i = some (i + 1, false, [eachS]) := by sorry
theorem shD_0 (h : ¬ (nw = false ∧ hereV f n i = 42)) (hl : ¬ letH (hereV f n i)) : shD f n nw i = none := by sorry
theorem shD_n (h : ¬ (nw = false ∧ hereV f n i = 42)) (hl : letH (hereV f n i)) (hp : nmC f n (n - i) i = p) (hL : nmT_ f n i p = L) : shD f n nw i = some (p, true, [namS L]) := by sorry
-- segment
theorem segD_b (h : ¬ hereV f n i = 46) : segD f n ok orL nw i = (slsD f n ok orL nw i).map (fun p => (p.1, p.2.1, segS false p.2.2)) := by sorry
theorem segD_d (h : hereV f n i = 46) (h2 : ¬ (nw = false ∧ hereV f n (i + 1) = 46)) : segD f n ok orL nw i = (shD f n nw (i + 1)).map (fun p => (p.1, p.2.1, segS false p.2.2)) := by sorry
theorem segD_s (h : hereV f n i = 46) (hn : nw = false) (h2 : hereV f n (i + 1) = 46) (h3 : hereV f n (i + 1 + 1) = 91) : segD f n ok orL nw i = (slsD f n ok orL nw (i + 1 + 1)).map (fun p => (p.1, false, segS true p.2.2)) := by sorry
theorem segD_h (h : hereV f n i = 46) (hn : nw = false) (h2 : hereV f n (i + 1) = 46) (h3 : ¬ hereV f n (i + 1 + 1) = 91) : segD f n ok orL nw i = (shD f n nw (i + 1 + 1)).map (fun p => (p.1, false, segS true p.2.2)) := by sorry
-- query
theorem qrLD_u (hm : m ≤ 4095) (hp : p1 = skipB f n p) : qrLD f n ok orL nw (4097 - m) p fl = if ¬ hereV f n p1 = 46 ∧ ¬ hereV f n p1 = 91 then some (p, fl, []) else (segD f n ok orL nw p1).bind (fun q => (qrLD f n ok orL nw (4097 - (m + 1)) q.1 (fl && q.2.1)).map (fun r => (r.1, r.2.1, q.2.2 :: r.2.2))) := by sorry
theorem qrLD_e (hm : m ≤ 4095) (hp : p1 = skipB f n p) (h1 : ¬ hereV f n p1 = 46) (h2 : ¬ hereV f n p1 = 91) : qrLD f n ok orL nw (4097 - m) p fl = some (p, fl, []) := by sorry
theorem qrLD_0 (hm : m ≤ 4095) (hp : p1 = skipB f n p) (h : hereV f n p1 = 46 ∨ hereV f n p1 = 91) (hs : segD f n ok orL nw p1 = none) : qrLD f n ok orL nw (4097 - m) p fl = none := by sorry
theorem qrLD_s (hm : m ≤ 4095) (hp : p1 = skipB f n p) (h : hereV f n p1 = 46 ∨ hereV f n p1 = 91) (hs : segD f n ok orL nw p1 = some (j, b, s)) : qrLD f n ok orL nw (4097 - m) p fl = (qrLD f n ok orL nw (4097 - (m + 1)) j (fl && b)).map (fun r => (r.1, r.2.1, s :: r.2.2)) := by sorry
theorem anyD_0 (h : ¬ begC (hereV f n i)) : anyD f n qyL i = none := by sorry
theorem anyD_1 (h : begC (hereV f n i)) (hq : qyL i = none) : anyD f n qyL i = none := by sorry
theorem anyD_2 (h : begC (hereV f n i)) (hq : qyL i = some (j, b, s)) : anyD f n qyL i = some (j, s) := by sorry
-- what is written
theorem wrD_t (h : hereV f n i = 116) (hm : mtch f n i (ctx 11) 4) : wrD f n i = some (i + 4, (1, 0, [])) := by sorry
theorem wrD_t0 (h : hereV f n i = 116) (hm : ¬ mtch f n i (ctx 11) 4) : wrD f n i = none := by sorry
theorem wrD_f (h : hereV f n i = 102) (hm : mtch f n i (ctx 12) 5) : wrD f n i = some (i + 5, (2, 0, [])) := by sorry
theorem wrD_f0 (h : hereV f n i = 102) (hm : ¬ mtch f n i (ctx 12) 5) : wrD f n i = none := by sorry
theorem wrD_n (h : hereV f n i = 110) (hm : mtch f n i (ctx 13) 4) : wrD f n i = some (i + 4, (0, 0, [])) := by sorry
theorem wrD_n0 (h : hereV f n i = 110) (hm : ¬ mtch f n i (ctx 13) 4) : wrD f n i = none := by sorry
theorem wrD_q (h1 : ¬ hereV f n i = 116) (h2 : ¬ hereV f n i = 102) (h3 : ¬ hereV f n i = 110) (h : hereV f n i = 39 ∨ hereV f n i = 34) (hq : qtR f n i = some (j, L)) : wrD f n i = some (j + 1, (4, 0, L)) := by sorry
theorem wrD_q0 (h1 : ¬ hereV f n i = 116) (h2 : ¬ hereV f n i = 102) (h3 : ¬ hereV f n i = 110) (h : hereV f n i = 39 ∨ hereV f n i = 34) (hq : qtR f n i = none) : wrD f n i = none := by sorry
theorem wrD_i0 (h1 : ¬ hereV f n i = 116) (h2 : ¬ hereV f n i = 102) (h3 : ¬ hereV f n i = 110) (h : ¬ (hereV f n i = 39 ∨ hereV f n i = 34)) (hi : iCv f n i = none) : wrD f n i = none := by sorry
theorem wrD_i (h1 : ¬ hereV f n i = 116) (h2 : ¬ hereV f n i = 102) (h3 : ¬ hereV f n i = 110) (h : ¬ (hereV f n i = 39 ∨ hereV f n i = 34)) (hi : iCv f n i = some (u, v)) : wrD f n i = some (u, (3, v, [])) := by sorry
-- in brackets
section DBr
variable {α : Type} {inn : Nat → Option (Nat × α)} {a : α}
theorem brD_0 (h : ¬ (ok = true ∧ hereV f n j = 40)) : brD f n ok inn j = none := by sorry
theorem brD_b (h1 : ok = true) (h2 : hereV f n j = 40) (hp : p = skipB f n (j + 1)) : brD f n ok inn j = (inn p).bind (fun k => if hereV f n (skipB f n k.1) = 41 then some (skipB f n k.1 + 1, k.2) else none) := by sorry
theorem brD_1 (h1 : ok = true) (h2 : hereV f n j = 40) (hp : p = skipB f n (j + 1)) (h3 : inn p = none) : brD f n ok inn j = none := by sorry
theorem brD_2 (h1 : ok = true) (h2 : hereV f n j = 40) (hp : p = skipB f n (j + 1)) (h3 : inn p = some (k, a)) (hp2 : p2 = skipB f n k) (h4 : ¬ hereV f n p2 = 41) : brD f n ok inn j = none := by sorry
theorem brD_ok (h1 : ok = true) (h2 : hereV f n j = 40) (hp : p = skipB f n (j + 1)) (h3 : inn p = some (k, a)) (hp2 : p2 = skipB f n k) (h4 : hereV f n p2 = 41) : brD f n ok inn j = some (p2 + 1, a) := by sorry
theorem fnD_0 {t ln : Nat} (hm : ¬ mtch f n i (ctx t) ln) : fnD f n t ln ok inn i = none := by sorry
theorem fnD_b {t ln : Nat} (hm : mtch f n i (ctx t) ln) : fnD f n t ln ok inn i = brD f n ok inn (i + ln) := by sorry
end DBr
-- what may be compared
theorem opD_q (h : begC (hereV f n i)) : opD f n ok orL cmL qyL i = (qrD f n ok orL true i).map (fun p => (p.1, onlO p.2.2)) := by sorry
theorem opD_l (h : hereV f n i = 108) : opD f n ok orL cmL qyL i = (fnD f n 10 6 ok cmL i).map (fun p => (p.1, lenO p.2)) := by sorry
theorem opD_c (h : hereV f n i = 99) : opD f n ok orL cmL qyL i = (fnD f n 8 5 ok (anyD f n qyL) i).map (fun p => (p.1, cntO p.2)) := by sorry
theorem opD_v (h : hereV f n i = 118) : opD f n ok orL cmL qyL i = (fnD f n 9 5 ok (anyD f n qyL) i).map (fun p => (p.1, onlO p.2)) := by sorry
theorem opD_w (hb : ¬ begC (hereV f n i)) (h1 : ¬ hereV f n i = 108) (h2 : ¬ hereV f n i = 99) (h3 : ¬ hereV f n i = 118) : opD f n ok orL cmL qyL i = (wrD f n i).map (fun p => (p.1, litO p.2)) := by sorry
-- operator
theorem oprD_1 (h : hereV f n i = 60) (h1 : hereV f n (i + 1) = 61) : oprD f n i = some (i + 1 + 1, 3) := by sorry
theorem oprD_2 (h : hereV f n i = 60) (h1 : ¬ hereV f n (i + 1) = 61) : oprD f n i = some (i + 1, 2) := by sorry
theorem oprD_3 (h : hereV f n i = 62) (h1 : hereV f n (i + 1) = 61) : oprD f n i = some (i + 1 + 1, 5) := by sorry
theorem oprD_4 (h : hereV f n i = 62) (h1 : ¬ hereV f n (i + 1) = 61) : oprD f n i = some (i + 1, 4) := by sorry
theorem oprD_5 (h : hereV f n i = 33) (h1 : hereV f n (i + 1) = 61) : oprD f n i = some (i + 1 + 1, 1) := by sorry
theorem oprD_6 (h : hereV f n i = 33) (h1 : ¬ hereV f n (i + 1) = 61) : oprD f n i = none := by sorry
theorem oprD_7 (h1 : ¬ hereV f n i = 60) (h2 : ¬ hereV f n i = 62) (h3 : ¬ hereV f n i = 33) (h4 : ¬ hereV f n i = 61) : oprD f n i = none := by sorry
theorem oprD_8 (h : hereV f n i = 61) (h1 : hereV f n (i + 1) = 61) : oprD f n i = some (i + 1 + 1, 0) := by sorry
theorem oprD_9 (h : hereV f n i = 61) (h1 : ¬ hereV f n (i + 1) = 61) : oprD f n i = none := by sorry
-- comparison
theorem cpD_0 (h : oprD f n i = none) : cpD f n op x i = none := by sorry
theorem cpD_1 (h : oprD f n i = some (u, k)) (hp : p = skipB f n u) (ho : op p = none) : cpD f n op x i = none := by sorry
theorem cpD_ok (h : oprD f n i = some (u, k)) (hp : p = skipB f n u) (ho : op p = some (j, y)) : cpD f n op x i = some (j, cmpC k x y) := by sorry
-- group
theorem gpD_0 (h : ¬ (ok = true ∧ hereV f n i = 40)) : gpD f n ok orL i = none := by sorry
theorem gpD_b (h1 : ok = true) (h2 : hereV f n i = 40) : gpD f n ok orL i = (orL (i + 1)).bind (fun j => if hereV f n j.1 = 41 then some (j.1 + 1, j.2) else none) := by sorry
theorem gpD_1 (h1 : ok = true) (h2 : hereV f n i = 40) (h3 : orL (i + 1) = none) : gpD f n ok orL i = none := by sorry
theorem gpD_2 (h1 : ok = true) (h2 : hereV f n i = 40) (h3 : orL (i + 1) = some (j, g)) (h4 : ¬ hereV f n j = 41) : gpD f n ok orL i = none := by sorry
theorem gpD_ok (h1 : ok = true) (h2 : hereV f n i = 40) (h3 : orL (i + 1) = some (j, g)) (h4 : hereV f n j = 41) : gpD f n ok orL i = some (j + 1, g) := by sorry
-- a test, or a comparison
theorem tcD_0 (h : qrD f n ok orL false i = none) : tcD f n ok orL op i = none := by sorry
theorem tcD_b (h : qrD f n ok orL false i = some (p, b, s)) (hp : p1 = skipB f n p) : tcD f n ok orL op i = if opH (hereV f n p1) then (if b = false then none else cpD f n op (onlO s) p1) else some (p1, tstC s) := by sorry
theorem tcD_t (h : qrD f n ok orL false i = some (p, b, s)) (hp : p1 = skipB f n p) (ho : ¬ opH (hereV f n p1)) : tcD f n ok orL op i = some (p1, tstC s) := by sorry
theorem tcD_1 (h : qrD f n ok orL false i = some (p, b, s)) (hp : p1 = skipB f n p) (ho : opH (hereV f n p1)) (hb : b = false) : tcD f n ok orL op i = none := by sorry
theorem tcD_2 (h : qrD f n ok orL false i = some (p, b, s)) (hp : p1 = skipB f n p) (ho : opH (hereV f n p1)) (hb : b = true) : tcD f n ok orL op i = cpD f n op (onlO s) p1 := by sorry
-- negation
theorem ngD_g (hp : p1 = skipB f n (i + 1)) (h : hereV f n p1 = 40) : ngD f n ok orL i = (gpD f n ok orL p1).map (fun p => (p.1, notC p.2)) := by sorry
theorem ngD_0 (hp : p1 = skipB f n (i + 1)) (h : ¬ hereV f n p1 = 40) (ha : anyD f n (qrD f n ok orL false) p1 = none) : ngD f n ok orL i = none := by sorry
theorem ngD_a (hp : p1 = skipB f n (i + 1)) (h : ¬ hereV f n p1 = 40) (ha : anyD f n (qrD f n ok orL false) p1 = some (j, s)) : ngD f n ok orL i = some (j, notC (tstC s)) := by sorry
-- a simple condition
theorem baD_0 (hp : p = skipB f n i) (h : baD1 f n ok orL cmL qyL p = none) : baD f n ok orL cmL qyL i = none := by sorry
theorem baD_1 (hp : p = skipB f n i) (h : baD1 f n ok orL cmL qyL p = some (p1, g)) (hp2 : p2 = skipB f n p1) : baD f n ok orL cmL qyL i = some (p2, g) := by sorry
theorem baD1_n (h : hereV f n i = 33) : baD1 f n ok orL cmL qyL i = ngD f n ok orL i := by sorry
theorem baD1_g (h : hereV f n i = 40) : baD1 f n ok orL cmL qyL i = gpD f n ok orL i := by sorry
theorem baD1_t (h1 : ¬ hereV f n i = 33) (h2 : ¬ hereV f n i = 40) (h : begC (hereV f n i)) : baD1 f n ok orL cmL qyL i = tcD f n ok orL (opD f n ok orL cmL qyL) i := by sorry
theorem baD1_b (h1 : ¬ hereV f n i = 33) (h2 : ¬ hereV f n i = 40) (h : ¬ begC (hereV f n i)) : baD1 f n ok orL cmL qyL i = (opD f n ok orL cmL qyL i).bind (fun x => cpD f n (opD f n ok orL cmL qyL) x.2 (skipB f n x.1)) := by sorry
theorem baD1_0 (h1 : ¬ hereV f n i = 33) (h2 : ¬ hereV f n i = 40) (h : ¬ begC (hereV f n i)) (h3 : opD f n ok orL cmL qyL i = none) : baD1 f n ok orL cmL qyL i = none := by sorry
theorem baD1_c (h1 : ¬ hereV f n i = 33) (h2 : ¬ hereV f n i = 40) (h : ¬ begC (hereV f n i)) (h3 : opD f n ok orL cmL qyL i = some (u, x)) (hp : p = skipB f n u) : baD1 f n ok orL cmL qyL i = cpD f n (opD f n ok orL cmL qyL) x p := by sorry
-- and, or
theorem liD_u (hm : m ≤ 4095) : liD f n one c (4098 - m) p = if hereV f n p = c then (if hereV f n (p + 1) = c then (one (p + 1 + 1)).bind (fun q => (liD f n one c (4098 - (m + 1)) q.1).map (fun r => (r.1, q.2 :: r.2))) else none) else some (p, []) := by sorry
theorem liD_e (hm : m ≤ 4095) (h : ¬ hereV f n p = c) : liD f n one c (4098 - m) p = some (p, []) := by sorry
theorem liD_0 (hm : m ≤ 4095) (h : hereV f n p = c) (h1 : ¬ hereV f n (p + 1) = c) : liD f n one c (4098 - m) p = none := by sorry
theorem liD_1 (hm : m ≤ 4095) (h : hereV f n p = c) (h1 : hereV f n (p + 1) = c) (h2 : one (p + 1 + 1) = none) : liD f n one c (4098 - m) p = none := by sorry
theorem liD_s (hm : m ≤ 4095) (h : hereV f n p = c) (h1 : hereV f n (p + 1) = c) (h2 : one (p + 1 + 1) = some (j, g)) : liD f n one c (4098 - m) p = (liD f n one c (4098 - (m + 1)) j).map (fun r => (r.1, g :: r.2)) := by sorry
theorem anD_0 (h : baD f n ok orL cmL qyL i = none) : anD f n ok orL cmL qyL i = none := by sorry
theorem anD_b (h : baD f n ok orL cmL qyL i = some (p, g)) : anD f n ok orL cmL qyL i = (liD f n (baD f n ok orL cmL qyL) 38 (4098 - 0) p).map (fun r => (r.1, allC (g :: r.2))) := by sorry
theorem orD_0 (h : anD f n ok orL cmL qyL i = none) : orD f n ok orL cmL qyL i = none := by sorry
theorem orD_b (h : anD f n ok orL cmL qyL i = some (p, g)) : orD f n ok orL cmL qyL i = (liD f n (anD f n ok orL cmL qyL) 124 (4098 - 0) p).map (fun r => (r.1, anyC_ (g :: r.2))) := by sorry
-- the whole
theorem jQD_0 (h : ¬ hereV f n 0 = 36) : jQD f n = none := by sorry
theorem jQD_1 (h : hereV f n 0 = 36) (hq : (DDd f n 16).2.2 0 = none) : jQD f n = none := by sorry
theorem jQD_2 (h : hereV f n 0 = 36) (hq : (DDd f n 16).2.2 0 = some (p, b, s)) (hp : p < n) : jQD f n = none := by sorry
theorem jQD_ok (h : hereV f n 0 = 36) (hq : (DDd f n 16).2.2 0 = some (p, b, s)) (hp : ¬ p < n) : jQD f n = some (b, s) := by sorry
end DIntro
end
section
theorem z_53 : (.fieldLink "QueryBench$QueryReader" 25 "QueryBench$Tape" "at" "I" : Cond) ∈ gtbl := by sorry
theorem z_101 : (.fieldLink "QueryBench$QueryReader" 15 "QueryBench$QueryReader" "open" "I" : Cond) ∈ gtbl := by sorry
theorem z_534 : (.methodLink "QueryBench$QueryReader" 19 ⟨"QueryBench$Tape", "here", "()I"⟩ : Cond) ∈ gtbl := by sorry
theorem z_535 : (.methodLink "QueryBench$QueryReader" 28 ⟨"QueryBench$Tape", "fail", "(I)V"⟩ : Cond) ∈ gtbl := by sorry
theorem z_573 : (.methodLink "QueryBench$Segment" 1 ⟨"java/lang/Object", "<init>", "()V"⟩ : Cond) ∈ gtbl := by sorry
theorem z_589 : (.methodLink "QueryBench$QueryReader" 58 ⟨"QueryBench$Tape", "takeIf", "(I)Z"⟩ : Cond) ∈ gtbl := by sorry
theorem z_598 : (.methodLink "QueryBench$QueryReader" 164 ⟨"QueryBench$Tape", "take", "(I)V"⟩ : Cond) ∈ gtbl := by sorry
theorem z_608 : (.methodLink "QueryBench$Selector" 1 ⟨"java/lang/Object", "<init>", "()V"⟩ : Cond) ∈ gtbl := by sorry
theorem z_609 : (.fieldLink "QueryBench$Selector" 13 "QueryBench$Selector" "kind" "I" : Cond) ∈ gtbl := by sorry
theorem z_623 : (.fieldLink "QueryBench$Selector" 7 "QueryBench$Selector" "step" "J" : Cond) ∈ gtbl := by sorry
theorem z_675 : (.methodLink "QueryBench$Condition" 1 ⟨"java/lang/Object", "<init>", "()V"⟩ : Cond) ∈ gtbl := by sorry
theorem z_676 : (.fieldLink "QueryBench$Condition" 7 "QueryBench$Condition" "kind" "I" : Cond) ∈ gtbl := by sorry
theorem z_781 : (.methodLink "QueryBench$QueryReader" 152 ⟨"QueryBench$Tape", "digits", "(I)J"⟩ : Cond) ∈ gtbl := by sorry
theorem nz_780 : (.methodLinkNest "QueryBench$QueryReader" 84 ⟨"QueryBench", "isDigit", "(I)Z"⟩ "QueryBench" : Cond) ∈ nwl := by sorry
abbrev wi53 (r : Int64) : Prop := -9007199254740992 ≤ r.toInt ∧ r.toInt ≤ 9007199254740992
theorem wi53_pos {r : Int64} (h0 : 0 ≤ r.toInt) (h : r ≤ 9007199254740991) : wi53 r := by sorry
theorem wi53_neg {r : Int64} (h0 : 0 ≤ r.toInt) (h : r ≤ 9007199254740991) : wi53 (-r) := by sorry
abbrev b_Condition_init : ByteArray := prog_2_method_1_code
def y_Condition_init : MethodName := ⟨"QueryBench$Condition", "<init>", "(I)V"⟩
abbrev k_Condition_init : Cond := .code y_Condition_init b_Condition_init 2 none
theorem i_Condition_init : k_Condition_init ∈ gtbl := by sorry
theorem d_Condition_init_0 : decode b_Condition_init 0 = .ok (.aload_n 0, 1) := by sorry
theorem d_Condition_init_1 : decode b_Condition_init 1 = .ok (.invokespecial 1, 3) := by sorry
theorem d_Condition_init_4 : decode b_Condition_init 4 = .ok (.aload_n 0, 1) := by sorry
theorem d_Condition_init_5 : decode b_Condition_init 5 = .ok (.iload_n 1, 1) := by sorry
theorem d_Condition_init_6 : decode b_Condition_init 6 = .ok (.putfield 7, 3) := by sorry
theorem d_Condition_init_9 : decode b_Condition_init 9 = .ok (.return_, 1) := by sorry
set_option maxHeartbeats 4000000 in
set_option maxRecDepth 100000 in
/-- Condition() -/
theorem c_Condition_init (l : Launch) (dC : Nat → ClassId) (dI : Nat → Nat → Nat) (sz : Heap) (q : Nat) (k : Int32) : Met l y_Condition_init (k_Condition_init :: gtbl) ({ frames := 1, cells := 0, slots := 0, locals := 20 }) (va_Pc [.ref q, .int k] (mp dC dI ([(q, .inr (0, [.int 0, .null, .null, .null, .null, .null]))]) [] sz)) (va_Qv (fun (u : Unit) => True) (fun u t9 => mz dC dI ([(q, .inr (0, [.int k, .null, .null, .null, .null, .null]))]) [] (va_A ([(q, .inr (0, [.int 0, .null, .null, .null, .null, .null]))]) sz.size) t9 ∧ szk sz t9.heap (0) (0)) (va_A ([(q, .inr (0, [.int 0, .null, .null, .null, .null, .null]))]) sz.size)) (0) (0) (va_A ([(q, .inr (0, [.int 0, .null, .null, .null, .null, .null]))]) sz.size) := by sorry
abbrev b_Selector_init : ByteArray := prog_9_method_1_code
def y_Selector_init : MethodName := ⟨"QueryBench$Selector", "<init>", "(I)V"⟩
abbrev k_Selector_init : Cond := .code y_Selector_init b_Selector_init 2 none
theorem i_Selector_init : k_Selector_init ∈ gtbl := by sorry
theorem d_Selector_init_0 : decode b_Selector_init 0 = .ok (.aload_n 0, 1) := by sorry
theorem d_Selector_init_1 : decode b_Selector_init 1 = .ok (.invokespecial 1, 3) := by sorry
theorem d_Selector_init_4 : decode b_Selector_init 4 = .ok (.aload_n 0, 1) := by sorry
theorem d_Selector_init_5 : decode b_Selector_init 5 = .ok (.lconst 1, 1) := by sorry
theorem d_Selector_init_6 : decode b_Selector_init 6 = .ok (.putfield 7, 3) := by sorry
theorem d_Selector_init_9 : decode b_Selector_init 9 = .ok (.aload_n 0, 1) := by sorry
theorem d_Selector_init_10 : decode b_Selector_init 10 = .ok (.iload_n 1, 1) := by sorry
theorem d_Selector_init_11 : decode b_Selector_init 11 = .ok (.putfield 13, 3) := by sorry
theorem d_Selector_init_14 : decode b_Selector_init 14 = .ok (.return_, 1) := by sorry
set_option maxHeartbeats 4000000 in
set_option maxRecDepth 100000 in
/-- Selector() -/
theorem c_Selector_init (l : Launch) (dC : Nat → ClassId) (dI : Nat → Nat → Nat) (sz : Heap) (q : Nat) (k : Int32) : Met l y_Selector_init (k_Selector_init :: gtbl) ({ frames := 1, cells := 0, slots := 0, locals := 20 }) (va_Pc [.ref q, .int k] (mp dC dI ([(q, .inr (7, [.int 0, .null, .int 0, .int 0, .long 0, .long 0, .long 0, .null, .null]))]) [] sz)) (va_Qv (fun (u : Unit) => True) (fun u t9 => mz dC dI ([(q, .inr (7, [.int k, .null, .int 0, .int 0, .long 0, .long 0, .long 1, .null, .null]))]) [] (va_A ([(q, .inr (7, [.int 0, .null, .int 0, .int 0, .long 0, .long 0, .long 0, .null, .null]))]) sz.size) t9 ∧ szk sz t9.heap (0) (0)) (va_A ([(q, .inr (7, [.int 0, .null, .int 0, .int 0, .long 0, .long 0, .long 0, .null, .null]))]) sz.size)) (0) (0) (va_A ([(q, .inr (7, [.int 0, .null, .int 0, .int 0, .long 0, .long 0, .long 0, .null, .null]))]) sz.size) := by sorry
abbrev b_Segment_init : ByteArray := prog_8_method_1_code
def y_Segment_init : MethodName := ⟨"QueryBench$Segment", "<init>", "()V"⟩
abbrev k_Segment_init : Cond := .code y_Segment_init b_Segment_init 1 none
theorem i_Segment_init : k_Segment_init ∈ gtbl := by sorry
theorem d_Segment_init_0 : decode b_Segment_init 0 = .ok (.aload_n 0, 1) := by sorry
theorem d_Segment_init_1 : decode b_Segment_init 1 = .ok (.invokespecial 1, 3) := by sorry
theorem d_Segment_init_4 : decode b_Segment_init 4 = .ok (.return_, 1) := by sorry
set_option maxHeartbeats 4000000 in
set_option maxRecDepth 100000 in
/-- Segment() -/
theorem c_Segment_init (l : Launch) (dC : Nat → ClassId) (dI : Nat → Nat → Nat) (sz : Heap) (q : Nat)  : Met l y_Segment_init (k_Segment_init :: gtbl) ({ frames := 1, cells := 0, slots := 0, locals := 20 }) (va_Pc [.ref q] (mp dC dI ([(q, .inr (6, [.int 0, .null, .null]))]) [] sz)) (va_Qv (fun (u : Unit) => True) (fun u t9 => mz dC dI ([(q, .inr (6, [.int 0, .null, .null]))]) [] (va_A ([(q, .inr (6, [.int 0, .null, .null]))]) sz.size) t9 ∧ szk sz t9.heap (0) (0)) (va_A ([(q, .inr (6, [.int 0, .null, .null]))]) sz.size)) (0) (0) (va_A ([(q, .inr (6, [.int 0, .null, .null]))]) sz.size) := by sorry
abbrev b_QueryReader_isQuote : ByteArray := prog_7_method_26_code
def y_QueryReader_isQuote : MethodName := ⟨"QueryBench$QueryReader", "isQuote", "(I)Z"⟩
abbrev k_QueryReader_isQuote : Cond := .code y_QueryReader_isQuote b_QueryReader_isQuote 1 (some .boolean)
theorem i_QueryReader_isQuote : k_QueryReader_isQuote ∈ gtbl := by sorry
theorem d_QueryReader_isQuote_0 : decode b_QueryReader_isQuote 0 = .ok (.iload_n 0, 1) := by sorry
theorem d_QueryReader_isQuote_1 : decode b_QueryReader_isQuote 1 = .ok (.bipush 39, 2) := by sorry
theorem d_QueryReader_isQuote_3 : decode b_QueryReader_isQuote 3 = .ok (.if_icmp .eq 9, 3) := by sorry
theorem d_QueryReader_isQuote_6 : decode b_QueryReader_isQuote 6 = .ok (.iload_n 0, 1) := by sorry
theorem d_QueryReader_isQuote_7 : decode b_QueryReader_isQuote 7 = .ok (.bipush 34, 2) := by sorry
theorem d_QueryReader_isQuote_9 : decode b_QueryReader_isQuote 9 = .ok (.if_icmp .ne 7, 3) := by sorry
theorem d_QueryReader_isQuote_12 : decode b_QueryReader_isQuote 12 = .ok (.iconst 1, 1) := by sorry
theorem d_QueryReader_isQuote_13 : decode b_QueryReader_isQuote 13 = .ok (.goto 4, 3) := by sorry
theorem d_QueryReader_isQuote_16 : decode b_QueryReader_isQuote 16 = .ok (.iconst 0, 1) := by sorry
theorem d_QueryReader_isQuote_17 : decode b_QueryReader_isQuote 17 = .ok (.ireturn, 1) := by sorry
set_option maxHeartbeats 4000000 in
set_option maxRecDepth 100000 in
/-- QueryReader.isQuote -/
theorem c_QueryReader_isQuote (l : Launch) (dC : Nat → ClassId) (dI : Nat → Nat → Nat) (sz : Heap) (x : Int32) : Met l y_QueryReader_isQuote (k_QueryReader_isQuote :: gtbl) ({ frames := 0, cells := 0, slots := 0, locals := 0 }) (va_Pc [.int x] mT) (vp_Si (fun (r : Int32) => Bo r ∧ ((¬ r = 0 → (x = 39 ∨ x = 34)) ∧ (r = 0 → ¬ (x = 39 ∨ x = 34))))) 0 0 (fun _ => False) := by sorry
abbrev b_QueryReader_beginsQuery : ByteArray := prog_7_method_27_code
def y_QueryReader_beginsQuery : MethodName := ⟨"QueryBench$QueryReader", "beginsQuery", "(I)Z"⟩
abbrev k_QueryReader_beginsQuery : Cond := .code y_QueryReader_beginsQuery b_QueryReader_beginsQuery 1 (some .boolean)
theorem i_QueryReader_beginsQuery : k_QueryReader_beginsQuery ∈ gtbl := by sorry
theorem d_QueryReader_beginsQuery_0 : decode b_QueryReader_beginsQuery 0 = .ok (.iload_n 0, 1) := by sorry
theorem d_QueryReader_beginsQuery_1 : decode b_QueryReader_beginsQuery 1 = .ok (.bipush 64, 2) := by sorry
theorem d_QueryReader_beginsQuery_3 : decode b_QueryReader_beginsQuery 3 = .ok (.if_icmp .eq 9, 3) := by sorry
theorem d_QueryReader_beginsQuery_6 : decode b_QueryReader_beginsQuery 6 = .ok (.iload_n 0, 1) := by sorry
theorem d_QueryReader_beginsQuery_7 : decode b_QueryReader_beginsQuery 7 = .ok (.bipush 36, 2) := by sorry
theorem d_QueryReader_beginsQuery_9 : decode b_QueryReader_beginsQuery 9 = .ok (.if_icmp .ne 7, 3) := by sorry
theorem d_QueryReader_beginsQuery_12 : decode b_QueryReader_beginsQuery 12 = .ok (.iconst 1, 1) := by sorry
theorem d_QueryReader_beginsQuery_13 : decode b_QueryReader_beginsQuery 13 = .ok (.goto 4, 3) := by sorry
theorem d_QueryReader_beginsQuery_16 : decode b_QueryReader_beginsQuery 16 = .ok (.iconst 0, 1) := by sorry
theorem d_QueryReader_beginsQuery_17 : decode b_QueryReader_beginsQuery 17 = .ok (.ireturn, 1) := by sorry
set_option maxHeartbeats 4000000 in
set_option maxRecDepth 100000 in
/-- QueryReader.beginsQuery -/
theorem c_QueryReader_beginsQuery (l : Launch) (dC : Nat → ClassId) (dI : Nat → Nat → Nat) (sz : Heap) (x : Int32) : Met l y_QueryReader_beginsQuery (k_QueryReader_beginsQuery :: gtbl) ({ frames := 0, cells := 0, slots := 0, locals := 0 }) (va_Pc [.int x] mT) (vp_Si (fun (r : Int32) => Bo r ∧ ((¬ r = 0 → (x = 64 ∨ x = 36)) ∧ (r = 0 → ¬ (x = 64 ∨ x = 36))))) 0 0 (fun _ => False) := by sorry
set_option maxHeartbeats 4000000 in
set_option maxRecDepth 100000 in
/-- QueryBench.isDigit: what it says -/
theorem g_QB_isDigit (l : Launch) (dC : Nat → ClassId) (dI : Nat → Nat → Nat) (sz : Heap) (x : Int32) : Met l y_QB_isDigit (k_QB_isDigit :: gtbl) ({ frames := 0, cells := 0, slots := 0, locals := 0 }) (va_Pc [.int x] mT) (vp_Si (fun (r : Int32) => Bo r ∧ ((¬ r = 0 → digH x) ∧ (r = 0 → ¬ digH x)))) 0 0 (fun _ => False) := by sorry
abbrev b_QueryReader_isNameByte : ByteArray := prog_7_method_6_code
def y_QueryReader_isNameByte : MethodName := ⟨"QueryBench$QueryReader", "isNameByte", "(I)Z"⟩
abbrev k_QueryReader_isNameByte : Cond := .code y_QueryReader_isNameByte b_QueryReader_isNameByte 1 (some .boolean)
theorem i_QueryReader_isNameByte : k_QueryReader_isNameByte ∈ gtbl := by sorry
theorem d_QueryReader_isNameByte_0 : decode b_QueryReader_isNameByte 0 = .ok (.iload_n 0, 1) := by sorry
theorem d_QueryReader_isNameByte_1 : decode b_QueryReader_isNameByte 1 = .ok (.bipush 97, 2) := by sorry
theorem d_QueryReader_isNameByte_3 : decode b_QueryReader_isNameByte 3 = .ok (.if_icmp .lt 9, 3) := by sorry
theorem d_QueryReader_isNameByte_6 : decode b_QueryReader_isNameByte 6 = .ok (.iload_n 0, 1) := by sorry
theorem d_QueryReader_isNameByte_7 : decode b_QueryReader_isNameByte 7 = .ok (.bipush 122, 2) := by sorry
theorem d_QueryReader_isNameByte_9 : decode b_QueryReader_isNameByte 9 = .ok (.if_icmp .le 28, 3) := by sorry
theorem d_QueryReader_isNameByte_12 : decode b_QueryReader_isNameByte 12 = .ok (.iload_n 0, 1) := by sorry
theorem d_QueryReader_isNameByte_13 : decode b_QueryReader_isNameByte 13 = .ok (.bipush 65, 2) := by sorry
theorem d_QueryReader_isNameByte_15 : decode b_QueryReader_isNameByte 15 = .ok (.if_icmp .lt 9, 3) := by sorry
theorem d_QueryReader_isNameByte_18 : decode b_QueryReader_isNameByte 18 = .ok (.iload_n 0, 1) := by sorry
theorem d_QueryReader_isNameByte_19 : decode b_QueryReader_isNameByte 19 = .ok (.bipush 90, 2) := by sorry
theorem d_QueryReader_isNameByte_21 : decode b_QueryReader_isNameByte 21 = .ok (.if_icmp .le 16, 3) := by sorry
theorem d_QueryReader_isNameByte_24 : decode b_QueryReader_isNameByte 24 = .ok (.iload_n 0, 1) := by sorry
theorem d_QueryReader_isNameByte_25 : decode b_QueryReader_isNameByte 25 = .ok (.bipush 95, 2) := by sorry
theorem d_QueryReader_isNameByte_27 : decode b_QueryReader_isNameByte 27 = .ok (.if_icmp .eq 10, 3) := by sorry
theorem d_QueryReader_isNameByte_30 : decode b_QueryReader_isNameByte 30 = .ok (.iload_n 0, 1) := by sorry
theorem d_QueryReader_isNameByte_31 : decode b_QueryReader_isNameByte 31 = .ok (.invokestatic 84, 3) := by sorry
theorem d_QueryReader_isNameByte_34 : decode b_QueryReader_isNameByte 34 = .ok (.ifCond .eq 7, 3) := by sorry
theorem d_QueryReader_isNameByte_37 : decode b_QueryReader_isNameByte 37 = .ok (.iconst 1, 1) := by sorry
theorem d_QueryReader_isNameByte_38 : decode b_QueryReader_isNameByte 38 = .ok (.goto 4, 3) := by sorry
theorem d_QueryReader_isNameByte_41 : decode b_QueryReader_isNameByte 41 = .ok (.iconst 0, 1) := by sorry
theorem d_QueryReader_isNameByte_42 : decode b_QueryReader_isNameByte 42 = .ok (.ireturn, 1) := by sorry
set_option maxHeartbeats 4000000 in
set_option maxRecDepth 100000 in
/-- QueryReader.isNameByte -/
theorem c_QueryReader_isNameByte (l : Launch) (dC : Nat → ClassId) (dI : Nat → Nat → Nat) (sz : Heap) (x : Int32) : Met l y_QueryReader_isNameByte (k_QueryReader_isNameByte :: gtbl) ({ frames := 1, cells := 0, slots := 0, locals := 40 }) (va_Pc [.int x] mT) (vp_Si (fun (r : Int32) => Bo r ∧ ((¬ r = 0 → letH x ∨ digH x) ∧ (r = 0 → ¬ (letH x ∨ digH x))))) 0 0 (fun _ => False) := by sorry
abbrev b_QueryReader_beginsInteger : ByteArray := prog_7_method_28_code
def y_QueryReader_beginsInteger : MethodName := ⟨"QueryBench$QueryReader", "beginsInteger", "(I)Z"⟩
abbrev k_QueryReader_beginsInteger : Cond := .code y_QueryReader_beginsInteger b_QueryReader_beginsInteger 1 (some .boolean)
theorem i_QueryReader_beginsInteger : k_QueryReader_beginsInteger ∈ gtbl := by sorry
theorem d_QueryReader_beginsInteger_0 : decode b_QueryReader_beginsInteger 0 = .ok (.iload_n 0, 1) := by sorry
theorem d_QueryReader_beginsInteger_1 : decode b_QueryReader_beginsInteger 1 = .ok (.bipush 45, 2) := by sorry
theorem d_QueryReader_beginsInteger_3 : decode b_QueryReader_beginsInteger 3 = .ok (.if_icmp .eq 10, 3) := by sorry
theorem d_QueryReader_beginsInteger_6 : decode b_QueryReader_beginsInteger 6 = .ok (.iload_n 0, 1) := by sorry
theorem d_QueryReader_beginsInteger_7 : decode b_QueryReader_beginsInteger 7 = .ok (.invokestatic 84, 3) := by sorry
theorem d_QueryReader_beginsInteger_10 : decode b_QueryReader_beginsInteger 10 = .ok (.ifCond .eq 7, 3) := by sorry
theorem d_QueryReader_beginsInteger_13 : decode b_QueryReader_beginsInteger 13 = .ok (.iconst 1, 1) := by sorry
theorem d_QueryReader_beginsInteger_14 : decode b_QueryReader_beginsInteger 14 = .ok (.goto 4, 3) := by sorry
theorem d_QueryReader_beginsInteger_17 : decode b_QueryReader_beginsInteger 17 = .ok (.iconst 0, 1) := by sorry
theorem d_QueryReader_beginsInteger_18 : decode b_QueryReader_beginsInteger 18 = .ok (.ireturn, 1) := by sorry
set_option maxHeartbeats 4000000 in
set_option maxRecDepth 100000 in
/-- QueryReader.beginsInteger -/
theorem c_QueryReader_beginsInteger (l : Launch) (dC : Nat → ClassId) (dI : Nat → Nat → Nat) (sz : Heap) (x : Int32) : Met l y_QueryReader_beginsInteger (k_QueryReader_beginsInteger :: gtbl) ({ frames := 1, cells := 0, slots := 0, locals := 40 }) (va_Pc [.int x] mT) (vp_Si (fun (r : Int32) => Bo r ∧ ((¬ r = 0 → numC x) ∧ (r = 0 → ¬ numC x)))) 0 0 (fun _ => False) := by sorry
abbrev b_QueryReader_integer : ByteArray := prog_7_method_10_code
def y_QueryReader_integer : MethodName := ⟨"QueryBench$QueryReader", "integer", "()J"⟩
abbrev k_QueryReader_integer : Cond := .code y_QueryReader_integer b_QueryReader_integer 5 (some .long)
theorem i_QueryReader_integer : k_QueryReader_integer ∈ gtbl := by sorry
theorem d_QueryReader_integer_0 : decode b_QueryReader_integer 0 = .ok (.aload_n 0, 1) := by sorry
theorem d_QueryReader_integer_1 : decode b_QueryReader_integer 1 = .ok (.getfield 9, 3) := by sorry
theorem d_QueryReader_integer_4 : decode b_QueryReader_integer 4 = .ok (.getfield 25, 3) := by sorry
theorem d_QueryReader_integer_7 : decode b_QueryReader_integer 7 = .ok (.istore_n 1, 1) := by sorry
theorem d_QueryReader_integer_8 : decode b_QueryReader_integer 8 = .ok (.aload_n 0, 1) := by sorry
theorem d_QueryReader_integer_9 : decode b_QueryReader_integer 9 = .ok (.getfield 9, 3) := by sorry
theorem d_QueryReader_integer_12 : decode b_QueryReader_integer 12 = .ok (.bipush 45, 2) := by sorry
theorem d_QueryReader_integer_14 : decode b_QueryReader_integer 14 = .ok (.invokevirtual 58, 3) := by sorry
theorem d_QueryReader_integer_17 : decode b_QueryReader_integer 17 = .ok (.istore_n 2, 1) := by sorry
theorem d_QueryReader_integer_18 : decode b_QueryReader_integer 18 = .ok (.iload_n 2, 1) := by sorry
theorem d_QueryReader_integer_19 : decode b_QueryReader_integer 19 = .ok (.ifCond .ne 17, 3) := by sorry
theorem d_QueryReader_integer_22 : decode b_QueryReader_integer 22 = .ok (.aload_n 0, 1) := by sorry
theorem d_QueryReader_integer_23 : decode b_QueryReader_integer 23 = .ok (.getfield 9, 3) := by sorry
theorem d_QueryReader_integer_26 : decode b_QueryReader_integer 26 = .ok (.bipush 48, 2) := by sorry
theorem d_QueryReader_integer_28 : decode b_QueryReader_integer 28 = .ok (.invokevirtual 58, 3) := by sorry
theorem d_QueryReader_integer_31 : decode b_QueryReader_integer 31 = .ok (.ifCond .eq 5, 3) := by sorry
theorem d_QueryReader_integer_34 : decode b_QueryReader_integer 34 = .ok (.lconst 0, 1) := by sorry
theorem d_QueryReader_integer_35 : decode b_QueryReader_integer 35 = .ok (.lreturn, 1) := by sorry
theorem d_QueryReader_integer_36 : decode b_QueryReader_integer 36 = .ok (.aload_n 0, 1) := by sorry
theorem d_QueryReader_integer_37 : decode b_QueryReader_integer 37 = .ok (.getfield 9, 3) := by sorry
theorem d_QueryReader_integer_40 : decode b_QueryReader_integer 40 = .ok (.invokevirtual 19, 3) := by sorry
theorem d_QueryReader_integer_43 : decode b_QueryReader_integer 43 = .ok (.invokestatic 84, 3) := by sorry
theorem d_QueryReader_integer_46 : decode b_QueryReader_integer 46 = .ok (.ifCond .eq 15, 3) := by sorry
theorem d_QueryReader_integer_49 : decode b_QueryReader_integer 49 = .ok (.aload_n 0, 1) := by sorry
theorem d_QueryReader_integer_50 : decode b_QueryReader_integer 50 = .ok (.getfield 9, 3) := by sorry
theorem d_QueryReader_integer_53 : decode b_QueryReader_integer 53 = .ok (.invokevirtual 19, 3) := by sorry
theorem d_QueryReader_integer_56 : decode b_QueryReader_integer 56 = .ok (.bipush 48, 2) := by sorry
theorem d_QueryReader_integer_58 : decode b_QueryReader_integer 58 = .ok (.if_icmp .ne 17, 3) := by sorry
theorem d_QueryReader_integer_61 : decode b_QueryReader_integer 61 = .ok (.aload_n 0, 1) := by sorry
theorem d_QueryReader_integer_62 : decode b_QueryReader_integer 62 = .ok (.getfield 9, 3) := by sorry
theorem d_QueryReader_integer_65 : decode b_QueryReader_integer 65 = .ok (.aload_n 0, 1) := by sorry
theorem d_QueryReader_integer_66 : decode b_QueryReader_integer 66 = .ok (.getfield 9, 3) := by sorry
theorem d_QueryReader_integer_69 : decode b_QueryReader_integer 69 = .ok (.getfield 25, 3) := by sorry
theorem d_QueryReader_integer_72 : decode b_QueryReader_integer 72 = .ok (.invokevirtual 28, 3) := by sorry
theorem d_QueryReader_integer_75 : decode b_QueryReader_integer 75 = .ok (.aload_n 0, 1) := by sorry
theorem d_QueryReader_integer_76 : decode b_QueryReader_integer 76 = .ok (.getfield 9, 3) := by sorry
theorem d_QueryReader_integer_79 : decode b_QueryReader_integer 79 = .ok (.iload_n 1, 1) := by sorry
theorem d_QueryReader_integer_80 : decode b_QueryReader_integer 80 = .ok (.invokevirtual 152, 3) := by sorry
theorem d_QueryReader_integer_83 : decode b_QueryReader_integer 83 = .ok (.lstore_n 3, 1) := by sorry
theorem d_QueryReader_integer_84 : decode b_QueryReader_integer 84 = .ok (.iload_n 2, 1) := by sorry
theorem d_QueryReader_integer_85 : decode b_QueryReader_integer 85 = .ok (.ifCond .eq 8, 3) := by sorry
theorem d_QueryReader_integer_88 : decode b_QueryReader_integer 88 = .ok (.lload_n 3, 1) := by sorry
theorem d_QueryReader_integer_89 : decode b_QueryReader_integer 89 = .ok (.lneg, 1) := by sorry
theorem d_QueryReader_integer_90 : decode b_QueryReader_integer 90 = .ok (.goto 4, 3) := by sorry
theorem d_QueryReader_integer_93 : decode b_QueryReader_integer 93 = .ok (.lload_n 3, 1) := by sorry
theorem d_QueryReader_integer_94 : decode b_QueryReader_integer 94 = .ok (.lreturn, 1) := by sorry
set_option maxHeartbeats 4000000 in
set_option maxRecDepth 100000 in
/-- QueryReader.integer -/
theorem c_QueryReader_integer (l : Launch) (hl9 : l.stackTraces = false) (dC : Nat → ClassId) (dI : Nat → Nat → Nat) (sz : Heap) (cB cI : ClassId) (h0 qb qu : Nat) (uc ln pl : Int32) (bf ug : Nat → Int32) (n i : Nat) (hn0 : n ≤ 4096) (hin : i ≤ n) (qr o : Nat)  : vx_Met l y_QueryReader_integer (k_QueryReader_integer :: gtbl) ({ frames := 10, cells := 1, slots := 6, locals := 170 }) (va_Pc [.ref qr] (mx dC dI ([(qr, .inr (5, [.ref h0, .int (nI o)])), (h0, .inr (8, [.ref qb, .ref qu, .int uc, .int ln, .int (nI n), .int (nI i), .int pl])), (qb, .inl (cB, 4096, .inl bf)), (qu, .inl (cI, 4096, .inl ug))]) [(cB, .byte), (cI, .int)] sz)) (va_Ql (fun (r : Int64) (u : Nat) => i ≤ u ∧ u ≤ n ∧ wi53 r ∧ iCv bf n i = some (u, r)) (fun u t9 => mz dC dI ([(qr, .inr (5, [.ref h0, .int (nI o)])), (h0, .inr (8, [.ref qb, .ref qu, .int uc, .int ln, .int (nI n), .int (nI u), .int pl])), (qb, .inl (cB, 4096, .inl bf)), (qu, .inl (cI, 4096, .inl ug))]) [(cB, .byte), (cI, .int)] (va_A ([(qr, .inr (5, [.ref h0, .int (nI o)])), (h0, .inr (8, [.ref qb, .ref qu, .int uc, .int ln, .int (nI n), .int (nI i), .int pl])), (qb, .inl (cB, 4096, .inl bf)), (qu, .inl (cI, 4096, .inl ug))]) sz.size) t9 ∧ szk sz t9.heap (0) (0)) (va_A ([(qr, .inr (5, [.ref h0, .int (nI o)])), (h0, .inr (8, [.ref qb, .ref qu, .int uc, .int ln, .int (nI n), .int (nI i), .int pl])), (qb, .inl (cB, 4096, .inl bf)), (qu, .inl (cI, 4096, .inl ug))]) sz.size)) (vx_X (fun (u : Int32 × Int32 × Int32 × (Nat → Int32) × Int32) => iCv bf n i = none) (fun En u t9 => En = UOX ∧ mz dC dI ([(qr, .inr (5, [.ref h0, .int u.2.2.2.2])), (h0, .inr (8, [.ref qb, .ref qu, .int u.2.1, .int ln, .int (nI n), .int u.1, .int u.2.2.1])), (qb, .inl (cB, 4096, .inl bf)), (qu, .inl (cI, 4096, .inl u.2.2.2.1))]) [(cB, .byte), (cI, .int)] (va_A ([(qr, .inr (5, [.ref h0, .int (nI o)])), (h0, .inr (8, [.ref qb, .ref qu, .int uc, .int ln, .int (nI n), .int (nI i), .int pl])), (qb, .inl (cB, 4096, .inl bf)), (qu, .inl (cI, 4096, .inl ug))]) sz.size) t9) (va_A ([(qr, .inr (5, [.ref h0, .int (nI o)])), (h0, .inr (8, [.ref qb, .ref qu, .int uc, .int ln, .int (nI n), .int (nI i), .int pl])), (qb, .inl (cB, 4096, .inl bf)), (qu, .inl (cI, 4096, .inl ug))]) sz.size)) (1) (6) (va_A ([(qr, .inr (5, [.ref h0, .int (nI o)])), (h0, .inr (8, [.ref qb, .ref qu, .int uc, .int ln, .int (nI n), .int (nI i), .int pl])), (qb, .inl (cB, 4096, .inl bf)), (qu, .inl (cI, 4096, .inl ug))]) sz.size) := by sorry
abbrev b_QueryReader_operator : ByteArray := prog_7_method_19_code
def y_QueryReader_operator : MethodName := ⟨"QueryBench$QueryReader", "operator", "()I"⟩
abbrev k_QueryReader_operator : Cond := .code y_QueryReader_operator b_QueryReader_operator 2 (some .int)
theorem i_QueryReader_operator : k_QueryReader_operator ∈ gtbl := by sorry
theorem d_QueryReader_operator_0 : decode b_QueryReader_operator 0 = .ok (.aload_n 0, 1) := by sorry
theorem d_QueryReader_operator_1 : decode b_QueryReader_operator 1 = .ok (.getfield 9, 3) := by sorry
theorem d_QueryReader_operator_4 : decode b_QueryReader_operator 4 = .ok (.bipush 60, 2) := by sorry
theorem d_QueryReader_operator_6 : decode b_QueryReader_operator 6 = .ok (.invokevirtual 58, 3) := by sorry
theorem d_QueryReader_operator_9 : decode b_QueryReader_operator 9 = .ok (.ifCond .eq 23, 3) := by sorry
theorem d_QueryReader_operator_12 : decode b_QueryReader_operator 12 = .ok (.aload_n 0, 1) := by sorry
theorem d_QueryReader_operator_13 : decode b_QueryReader_operator 13 = .ok (.getfield 9, 3) := by sorry
theorem d_QueryReader_operator_16 : decode b_QueryReader_operator 16 = .ok (.bipush 61, 2) := by sorry
theorem d_QueryReader_operator_18 : decode b_QueryReader_operator 18 = .ok (.invokevirtual 58, 3) := by sorry
theorem d_QueryReader_operator_21 : decode b_QueryReader_operator 21 = .ok (.ifCond .eq 8, 3) := by sorry
theorem d_QueryReader_operator_24 : decode b_QueryReader_operator 24 = .ok (.bipush 7, 2) := by sorry
theorem d_QueryReader_operator_26 : decode b_QueryReader_operator 26 = .ok (.goto 5, 3) := by sorry
theorem d_QueryReader_operator_29 : decode b_QueryReader_operator 29 = .ok (.bipush 6, 2) := by sorry
theorem d_QueryReader_operator_31 : decode b_QueryReader_operator 31 = .ok (.ireturn, 1) := by sorry
theorem d_QueryReader_operator_32 : decode b_QueryReader_operator 32 = .ok (.aload_n 0, 1) := by sorry
theorem d_QueryReader_operator_33 : decode b_QueryReader_operator 33 = .ok (.getfield 9, 3) := by sorry
theorem d_QueryReader_operator_36 : decode b_QueryReader_operator 36 = .ok (.bipush 62, 2) := by sorry
theorem d_QueryReader_operator_38 : decode b_QueryReader_operator 38 = .ok (.invokevirtual 58, 3) := by sorry
theorem d_QueryReader_operator_41 : decode b_QueryReader_operator 41 = .ok (.ifCond .eq 23, 3) := by sorry
theorem d_QueryReader_operator_44 : decode b_QueryReader_operator 44 = .ok (.aload_n 0, 1) := by sorry
theorem d_QueryReader_operator_45 : decode b_QueryReader_operator 45 = .ok (.getfield 9, 3) := by sorry
theorem d_QueryReader_operator_48 : decode b_QueryReader_operator 48 = .ok (.bipush 61, 2) := by sorry
theorem d_QueryReader_operator_50 : decode b_QueryReader_operator 50 = .ok (.invokevirtual 58, 3) := by sorry
theorem d_QueryReader_operator_53 : decode b_QueryReader_operator 53 = .ok (.ifCond .eq 8, 3) := by sorry
theorem d_QueryReader_operator_56 : decode b_QueryReader_operator 56 = .ok (.bipush 9, 2) := by sorry
theorem d_QueryReader_operator_58 : decode b_QueryReader_operator 58 = .ok (.goto 5, 3) := by sorry
theorem d_QueryReader_operator_61 : decode b_QueryReader_operator 61 = .ok (.bipush 8, 2) := by sorry
theorem d_QueryReader_operator_63 : decode b_QueryReader_operator 63 = .ok (.ireturn, 1) := by sorry
theorem d_QueryReader_operator_64 : decode b_QueryReader_operator 64 = .ok (.aload_n 0, 1) := by sorry
theorem d_QueryReader_operator_65 : decode b_QueryReader_operator 65 = .ok (.getfield 9, 3) := by sorry
theorem d_QueryReader_operator_68 : decode b_QueryReader_operator 68 = .ok (.bipush 33, 2) := by sorry
theorem d_QueryReader_operator_70 : decode b_QueryReader_operator 70 = .ok (.invokevirtual 58, 3) := by sorry
theorem d_QueryReader_operator_73 : decode b_QueryReader_operator 73 = .ok (.ifCond .eq 7, 3) := by sorry
theorem d_QueryReader_operator_76 : decode b_QueryReader_operator 76 = .ok (.iconst 5, 1) := by sorry
theorem d_QueryReader_operator_77 : decode b_QueryReader_operator 77 = .ok (.goto 4, 3) := by sorry
theorem d_QueryReader_operator_80 : decode b_QueryReader_operator 80 = .ok (.iconst 4, 1) := by sorry
theorem d_QueryReader_operator_81 : decode b_QueryReader_operator 81 = .ok (.istore_n 1, 1) := by sorry
theorem d_QueryReader_operator_82 : decode b_QueryReader_operator 82 = .ok (.iload_n 1, 1) := by sorry
theorem d_QueryReader_operator_83 : decode b_QueryReader_operator 83 = .ok (.iconst 4, 1) := by sorry
theorem d_QueryReader_operator_84 : decode b_QueryReader_operator 84 = .ok (.if_icmp .ne 12, 3) := by sorry
theorem d_QueryReader_operator_87 : decode b_QueryReader_operator 87 = .ok (.aload_n 0, 1) := by sorry
theorem d_QueryReader_operator_88 : decode b_QueryReader_operator 88 = .ok (.getfield 9, 3) := by sorry
theorem d_QueryReader_operator_91 : decode b_QueryReader_operator 91 = .ok (.bipush 61, 2) := by sorry
theorem d_QueryReader_operator_93 : decode b_QueryReader_operator 93 = .ok (.invokevirtual 164, 3) := by sorry
theorem d_QueryReader_operator_96 : decode b_QueryReader_operator 96 = .ok (.aload_n 0, 1) := by sorry
theorem d_QueryReader_operator_97 : decode b_QueryReader_operator 97 = .ok (.getfield 9, 3) := by sorry
theorem d_QueryReader_operator_100 : decode b_QueryReader_operator 100 = .ok (.bipush 61, 2) := by sorry
theorem d_QueryReader_operator_102 : decode b_QueryReader_operator 102 = .ok (.invokevirtual 164, 3) := by sorry
theorem d_QueryReader_operator_105 : decode b_QueryReader_operator 105 = .ok (.iload_n 1, 1) := by sorry
theorem d_QueryReader_operator_106 : decode b_QueryReader_operator 106 = .ok (.ireturn, 1) := by sorry
set_option maxHeartbeats 4000000 in
set_option maxRecDepth 100000 in
/-- QueryReader.operator -/
theorem c_QueryReader_operator (l : Launch) (hl9 : l.stackTraces = false) (dC : Nat → ClassId) (dI : Nat → Nat → Nat) (sz : Heap) (cB cI : ClassId) (h0 qb qu : Nat) (uc ln pl : Int32) (bf ug : Nat → Int32) (n i : Nat) (hn0 : n ≤ 4096) (hin : i ≤ n) (qr o : Nat)  : vx_Met l y_QueryReader_operator (k_QueryReader_operator :: gtbl) ({ frames := 10, cells := 1, slots := 6, locals := 170 }) (va_Pc [.ref qr] (mx dC dI ([(qr, .inr (5, [.ref h0, .int (nI o)])), (h0, .inr (8, [.ref qb, .ref qu, .int uc, .int ln, .int (nI n), .int (nI i), .int pl])), (qb, .inl (cB, 4096, .inl bf)), (qu, .inl (cI, 4096, .inl ug))]) [(cB, .byte), (cI, .int)] sz)) (va_Qi (fun (r : Int32) (u : Nat) => (¬ r = 0 ∧ ¬ r = 1 ∧ ¬ r = 2 ∧ ¬ r = 3) ∧ i < u ∧ u ≤ n ∧ ∃ op : Nat, op ≤ 5 ∧ r = nI (4 + op) ∧ oprD bf n i = some (u, op)) (fun u t9 => mz dC dI ([(qr, .inr (5, [.ref h0, .int (nI o)])), (h0, .inr (8, [.ref qb, .ref qu, .int uc, .int ln, .int (nI n), .int (nI u), .int pl])), (qb, .inl (cB, 4096, .inl bf)), (qu, .inl (cI, 4096, .inl ug))]) [(cB, .byte), (cI, .int)] (va_A ([(qr, .inr (5, [.ref h0, .int (nI o)])), (h0, .inr (8, [.ref qb, .ref qu, .int uc, .int ln, .int (nI n), .int (nI i), .int pl])), (qb, .inl (cB, 4096, .inl bf)), (qu, .inl (cI, 4096, .inl ug))]) sz.size) t9 ∧ szk sz t9.heap (0) (0)) (va_A ([(qr, .inr (5, [.ref h0, .int (nI o)])), (h0, .inr (8, [.ref qb, .ref qu, .int uc, .int ln, .int (nI n), .int (nI i), .int pl])), (qb, .inl (cB, 4096, .inl bf)), (qu, .inl (cI, 4096, .inl ug))]) sz.size)) (vx_X (fun (u : Int32 × Int32 × Int32 × (Nat → Int32) × Int32) => oprD bf n i = none) (fun En u t9 => En = UOX ∧ mz dC dI ([(qr, .inr (5, [.ref h0, .int u.2.2.2.2])), (h0, .inr (8, [.ref qb, .ref qu, .int u.2.1, .int ln, .int (nI n), .int u.1, .int u.2.2.1])), (qb, .inl (cB, 4096, .inl bf)), (qu, .inl (cI, 4096, .inl u.2.2.2.1))]) [(cB, .byte), (cI, .int)] (va_A ([(qr, .inr (5, [.ref h0, .int (nI o)])), (h0, .inr (8, [.ref qb, .ref qu, .int uc, .int ln, .int (nI n), .int (nI i), .int pl])), (qb, .inl (cB, 4096, .inl bf)), (qu, .inl (cI, 4096, .inl ug))]) sz.size) t9) (va_A ([(qr, .inr (5, [.ref h0, .int (nI o)])), (h0, .inr (8, [.ref qb, .ref qu, .int uc, .int ln, .int (nI n), .int (nI i), .int pl])), (qb, .inl (cB, 4096, .inl bf)), (qu, .inl (cI, 4096, .inl ug))]) sz.size)) (1) (6) (va_A ([(qr, .inr (5, [.ref h0, .int (nI o)])), (h0, .inr (8, [.ref qb, .ref qu, .int uc, .int ln, .int (nI n), .int (nI i), .int pl])), (qb, .inl (cB, 4096, .inl bf)), (qu, .inl (cI, 4096, .inl ug))]) sz.size) := by sorry
abbrev b_QueryReader_takeOpening : ByteArray := prog_7_method_24_code
def y_QueryReader_takeOpening : MethodName := ⟨"QueryBench$QueryReader", "takeOpening", "(I)V"⟩
abbrev k_QueryReader_takeOpening : Cond := .code y_QueryReader_takeOpening b_QueryReader_takeOpening 2 none
theorem i_QueryReader_takeOpening : k_QueryReader_takeOpening ∈ gtbl := by sorry
theorem d_QueryReader_takeOpening_0 : decode b_QueryReader_takeOpening 0 = .ok (.aload_n 0, 1) := by sorry
theorem d_QueryReader_takeOpening_1 : decode b_QueryReader_takeOpening 1 = .ok (.getfield 15, 3) := by sorry
theorem d_QueryReader_takeOpening_4 : decode b_QueryReader_takeOpening 4 = .ok (.bipush 16, 2) := by sorry
theorem d_QueryReader_takeOpening_6 : decode b_QueryReader_takeOpening 6 = .ok (.if_icmp .lt 17, 3) := by sorry
theorem d_QueryReader_takeOpening_9 : decode b_QueryReader_takeOpening 9 = .ok (.aload_n 0, 1) := by sorry
theorem d_QueryReader_takeOpening_10 : decode b_QueryReader_takeOpening 10 = .ok (.getfield 9, 3) := by sorry
theorem d_QueryReader_takeOpening_13 : decode b_QueryReader_takeOpening 13 = .ok (.aload_n 0, 1) := by sorry
theorem d_QueryReader_takeOpening_14 : decode b_QueryReader_takeOpening 14 = .ok (.getfield 9, 3) := by sorry
theorem d_QueryReader_takeOpening_17 : decode b_QueryReader_takeOpening 17 = .ok (.getfield 25, 3) := by sorry
theorem d_QueryReader_takeOpening_20 : decode b_QueryReader_takeOpening 20 = .ok (.invokevirtual 28, 3) := by sorry
theorem d_QueryReader_takeOpening_23 : decode b_QueryReader_takeOpening 23 = .ok (.aload_n 0, 1) := by sorry
theorem d_QueryReader_takeOpening_24 : decode b_QueryReader_takeOpening 24 = .ok (.getfield 9, 3) := by sorry
theorem d_QueryReader_takeOpening_27 : decode b_QueryReader_takeOpening 27 = .ok (.iload_n 1, 1) := by sorry
theorem d_QueryReader_takeOpening_28 : decode b_QueryReader_takeOpening 28 = .ok (.invokevirtual 164, 3) := by sorry
theorem d_QueryReader_takeOpening_31 : decode b_QueryReader_takeOpening 31 = .ok (.aload_n 0, 1) := by sorry
theorem d_QueryReader_takeOpening_32 : decode b_QueryReader_takeOpening 32 = .ok (.dup, 1) := by sorry
theorem d_QueryReader_takeOpening_33 : decode b_QueryReader_takeOpening 33 = .ok (.getfield 15, 3) := by sorry
theorem d_QueryReader_takeOpening_36 : decode b_QueryReader_takeOpening 36 = .ok (.iconst 1, 1) := by sorry
theorem d_QueryReader_takeOpening_37 : decode b_QueryReader_takeOpening 37 = .ok (.iadd, 1) := by sorry
theorem d_QueryReader_takeOpening_38 : decode b_QueryReader_takeOpening 38 = .ok (.putfield 15, 3) := by sorry
theorem d_QueryReader_takeOpening_41 : decode b_QueryReader_takeOpening 41 = .ok (.return_, 1) := by sorry
set_option maxHeartbeats 4000000 in
set_option maxRecDepth 100000 in
/-- QueryReader.takeOpening -/
theorem c_QueryReader_takeOpening (l : Launch) (hl9 : l.stackTraces = false) (dC : Nat → ClassId) (dI : Nat → Nat → Nat) (sz : Heap) (cB cI : ClassId) (h0 qb qu : Nat) (uc ln pl : Int32) (bf ug : Nat → Int32) (n i : Nat) (hn0 : n ≤ 4096) (hin : i ≤ n) (qr o : Nat) (ho : o ≤ 16) (b9 : Int32) (hbn : b9 ≠ -1) : vx_Met l y_QueryReader_takeOpening (k_QueryReader_takeOpening :: gtbl) ({ frames := 10, cells := 1, slots := 6, locals := 170 }) (va_Pc [.ref qr, .int b9] (mx dC dI ([(qr, .inr (5, [.ref h0, .int (nI o)])), (h0, .inr (8, [.ref qb, .ref qu, .int uc, .int ln, .int (nI n), .int (nI i), .int pl])), (qb, .inl (cB, 4096, .inl bf)), (qu, .inl (cI, 4096, .inl ug))]) [(cB, .byte), (cI, .int)] sz)) (va_Qv (fun (u : Unit) => o < 16 ∧ i < n ∧ hereV bf n i = b9) (fun u t9 => mz dC dI ([(qr, .inr (5, [.ref h0, .int (nI (o + 1))])), (h0, .inr (8, [.ref qb, .ref qu, .int uc, .int ln, .int (nI n), .int (nI (i + 1)), .int pl])), (qb, .inl (cB, 4096, .inl bf)), (qu, .inl (cI, 4096, .inl ug))]) [(cB, .byte), (cI, .int)] (va_A ([(qr, .inr (5, [.ref h0, .int (nI o)])), (h0, .inr (8, [.ref qb, .ref qu, .int uc, .int ln, .int (nI n), .int (nI i), .int pl])), (qb, .inl (cB, 4096, .inl bf)), (qu, .inl (cI, 4096, .inl ug))]) sz.size) t9 ∧ szk sz t9.heap (0) (0)) (va_A ([(qr, .inr (5, [.ref h0, .int (nI o)])), (h0, .inr (8, [.ref qb, .ref qu, .int uc, .int ln, .int (nI n), .int (nI i), .int pl])), (qb, .inl (cB, 4096, .inl bf)), (qu, .inl (cI, 4096, .inl ug))]) sz.size)) (vx_X (fun (u : Int32 × Int32 × Int32 × (Nat → Int32) × Int32) => o < 16 → ¬ hereV bf n i = b9) (fun En u t9 => En = UOX ∧ mz dC dI ([(qr, .inr (5, [.ref h0, .int u.2.2.2.2])), (h0, .inr (8, [.ref qb, .ref qu, .int u.2.1, .int ln, .int (nI n), .int u.1, .int u.2.2.1])), (qb, .inl (cB, 4096, .inl bf)), (qu, .inl (cI, 4096, .inl u.2.2.2.1))]) [(cB, .byte), (cI, .int)] (va_A ([(qr, .inr (5, [.ref h0, .int (nI o)])), (h0, .inr (8, [.ref qb, .ref qu, .int uc, .int ln, .int (nI n), .int (nI i), .int pl])), (qb, .inl (cB, 4096, .inl bf)), (qu, .inl (cI, 4096, .inl ug))]) sz.size) t9) (va_A ([(qr, .inr (5, [.ref h0, .int (nI o)])), (h0, .inr (8, [.ref qb, .ref qu, .int uc, .int ln, .int (nI n), .int (nI i), .int pl])), (qb, .inl (cB, 4096, .inl bf)), (qu, .inl (cI, 4096, .inl ug))]) sz.size)) (1) (6) (va_A ([(qr, .inr (5, [.ref h0, .int (nI o)])), (h0, .inr (8, [.ref qb, .ref qu, .int uc, .int ln, .int (nI n), .int (nI i), .int pl])), (qb, .inl (cB, 4096, .inl bf)), (qu, .inl (cI, 4096, .inl ug))]) sz.size) := by sorry
abbrev b_QueryReader_takeClosing : ByteArray := prog_7_method_25_code
def y_QueryReader_takeClosing : MethodName := ⟨"QueryBench$QueryReader", "takeClosing", "(I)V"⟩
abbrev k_QueryReader_takeClosing : Cond := .code y_QueryReader_takeClosing b_QueryReader_takeClosing 2 none
theorem i_QueryReader_takeClosing : k_QueryReader_takeClosing ∈ gtbl := by sorry
theorem d_QueryReader_takeClosing_0 : decode b_QueryReader_takeClosing 0 = .ok (.aload_n 0, 1) := by sorry
theorem d_QueryReader_takeClosing_1 : decode b_QueryReader_takeClosing 1 = .ok (.getfield 9, 3) := by sorry
theorem d_QueryReader_takeClosing_4 : decode b_QueryReader_takeClosing 4 = .ok (.iload_n 1, 1) := by sorry
theorem d_QueryReader_takeClosing_5 : decode b_QueryReader_takeClosing 5 = .ok (.invokevirtual 164, 3) := by sorry
theorem d_QueryReader_takeClosing_8 : decode b_QueryReader_takeClosing 8 = .ok (.aload_n 0, 1) := by sorry
theorem d_QueryReader_takeClosing_9 : decode b_QueryReader_takeClosing 9 = .ok (.dup, 1) := by sorry
theorem d_QueryReader_takeClosing_10 : decode b_QueryReader_takeClosing 10 = .ok (.getfield 15, 3) := by sorry
theorem d_QueryReader_takeClosing_13 : decode b_QueryReader_takeClosing 13 = .ok (.iconst 1, 1) := by sorry
theorem d_QueryReader_takeClosing_14 : decode b_QueryReader_takeClosing 14 = .ok (.isub, 1) := by sorry
theorem d_QueryReader_takeClosing_15 : decode b_QueryReader_takeClosing 15 = .ok (.putfield 15, 3) := by sorry
theorem d_QueryReader_takeClosing_18 : decode b_QueryReader_takeClosing 18 = .ok (.return_, 1) := by sorry
set_option maxHeartbeats 4000000 in
set_option maxRecDepth 100000 in
/-- QueryReader.takeClosing -/
theorem c_QueryReader_takeClosing (l : Launch) (hl9 : l.stackTraces = false) (dC : Nat → ClassId) (dI : Nat → Nat → Nat) (sz : Heap) (cB cI : ClassId) (h0 qb qu : Nat) (uc ln pl : Int32) (bf ug : Nat → Int32) (n i : Nat) (hn0 : n ≤ 4096) (hin : i ≤ n) (qr o : Nat) (b9 : Int32) (hbn : b9 ≠ -1) : vx_Met l y_QueryReader_takeClosing (k_QueryReader_takeClosing :: gtbl) ({ frames := 10, cells := 1, slots := 6, locals := 170 }) (va_Pc [.ref qr, .int b9] (mx dC dI ([(qr, .inr (5, [.ref h0, .int (nI (o + 1))])), (h0, .inr (8, [.ref qb, .ref qu, .int uc, .int ln, .int (nI n), .int (nI i), .int pl])), (qb, .inl (cB, 4096, .inl bf)), (qu, .inl (cI, 4096, .inl ug))]) [(cB, .byte), (cI, .int)] sz)) (va_Qv (fun (u : Unit) => i < n ∧ hereV bf n i = b9) (fun u t9 => mz dC dI ([(qr, .inr (5, [.ref h0, .int (nI o)])), (h0, .inr (8, [.ref qb, .ref qu, .int uc, .int ln, .int (nI n), .int (nI (i + 1)), .int pl])), (qb, .inl (cB, 4096, .inl bf)), (qu, .inl (cI, 4096, .inl ug))]) [(cB, .byte), (cI, .int)] (va_A ([(qr, .inr (5, [.ref h0, .int (nI (o + 1))])), (h0, .inr (8, [.ref qb, .ref qu, .int uc, .int ln, .int (nI n), .int (nI i), .int pl])), (qb, .inl (cB, 4096, .inl bf)), (qu, .inl (cI, 4096, .inl ug))]) sz.size) t9 ∧ szk sz t9.heap (0) (0)) (va_A ([(qr, .inr (5, [.ref h0, .int (nI (o + 1))])), (h0, .inr (8, [.ref qb, .ref qu, .int uc, .int ln, .int (nI n), .int (nI i), .int pl])), (qb, .inl (cB, 4096, .inl bf)), (qu, .inl (cI, 4096, .inl ug))]) sz.size)) (vx_X (fun (u : Int32 × Int32 × Int32 × (Nat → Int32) × Int32) => ¬ hereV bf n i = b9) (fun En u t9 => En = UOX ∧ mz dC dI ([(qr, .inr (5, [.ref h0, .int u.2.2.2.2])), (h0, .inr (8, [.ref qb, .ref qu, .int u.2.1, .int ln, .int (nI n), .int u.1, .int u.2.2.1])), (qb, .inl (cB, 4096, .inl bf)), (qu, .inl (cI, 4096, .inl u.2.2.2.1))]) [(cB, .byte), (cI, .int)] (va_A ([(qr, .inr (5, [.ref h0, .int (nI (o + 1))])), (h0, .inr (8, [.ref qb, .ref qu, .int uc, .int ln, .int (nI n), .int (nI i), .int pl])), (qb, .inl (cB, 4096, .inl bf)), (qu, .inl (cI, 4096, .inl ug))]) sz.size) t9) (va_A ([(qr, .inr (5, [.ref h0, .int (nI (o + 1))])), (h0, .inr (8, [.ref qb, .ref qu, .int uc, .int ln, .int (nI n), .int (nI i), .int pl])), (qb, .inl (cB, 4096, .inl bf)), (qu, .inl (cI, 4096, .inl ug))]) sz.size)) (1) (6) (va_A ([(qr, .inr (5, [.ref h0, .int (nI (o + 1))])), (h0, .inr (8, [.ref qb, .ref qu, .int uc, .int ln, .int (nI n), .int (nI i), .int pl])), (qb, .inl (cB, 4096, .inl bf)), (qu, .inl (cI, 4096, .inl ug))]) sz.size) := by sorry
end
section
/-- marks: 0 not looked at, 1 a value whose number changes, 2 a value that stays, 3 all else -/
def SUB (S S' : Nat → Nat) : Prop := ∀ a, ¬ S a = 0 → S' a = S a
def DIS (S S' : Nat → Nat) : Prop := ∀ a, S a = 0 ∨ S' a = 0
def joM (S S' : Nat → Nat) : Nat → Nat := fun a => if S a = 0 then S' a else S a
def onM (a k : Nat) : Nat → Nat := fun b => if b = a then k else 0
theorem SUB.rf {S : Nat → Nat} : SUB S S := by sorry
theorem SUB.tr {S T U : Nat → Nat} (h1 : SUB S T) (h2 : SUB T U) : SUB S U := by sorry
theorem SUB.l {S S' : Nat → Nat} : SUB S (joM S S') := by sorry
theorem SUB.r {S S' : Nat → Nat} (hd : DIS S S') : SUB S' (joM S S') := by sorry
theorem joM_on {S : Nat → Nat} {a k : Nat} (h : S a = 0) : joM S (onM a k) a = k := by sorry
theorem DIS.on {S : Nat → Nat} {a k : Nat} (h : S a = 0) : DIS S (onM a k) := by sorry
/-- the numbers are as they were, but for those that change -/
def NUg (S : Nat → Nat) (ν ν' : Nat → Int64) : Prop := ∀ a, ¬ S a = 1 → ν' a = ν a
theorem NUg.rf {S : Nat → Nat} {ν : Nat → Int64} : NUg S ν ν := by sorry
theorem NUg.tr {S : Nat → Nat} {ν ν1 ν2 : Nat → Int64} (h1 : NUg S ν ν1) (h2 : NUg S ν1 ν2) : NUg S ν ν2 := by sorry
theorem NUg.up {S T : Nat → Nat} {ν ν1 : Nat → Int64} (h : NUg S ν ν1) (hs : SUB S T) : NUg T ν ν1 := by sorry
/-- an object of a number's value, whatever the number -/
def NV (f : Nat → va_E) (b : Nat) : Prop := ∃ nu tx pa na ix nm no sp, f b = vE 3 nu tx none pa na ix nm no sp
/-- the same cell, but for field k -/
def eqx (k : Nat) (e e' : va_E) : Prop := e' = e ∨ ∃ c l o, e = .inr (c, l) ∧ e' = .inr (c, l.set k (va_rf o))
/-- what is marked is as it was -/
def AGR (S : Nat → Nat) (f f' : Nat → va_E) : Prop := ∀ b, (¬ S b = 0 → ¬ S b = 1 → f' b = f b) ∧ (S b = 1 → NV f b → NV f' b)
theorem AGR.sub {S T : Nat → Nat} {f f' : Nat → va_E} (h : AGR T f f') (hs : SUB S T) : AGR S f f' := by sorry
theorem AGR.same {S : Nat → Nat} {f f' : Nat → va_E} (h : ∀ b, ¬ S b = 0 → f' b = f b) : AGR S f f' := by sorry
theorem pf_ν {f : Nat → va_E} {ν ν' : Nat → Int64} {b : Nat} (h : ν' b = ν b) : pf f ν' b = pf f ν b := by sorry
theorem AGR.nu {S : Nat → Nat} {f : Nat → va_E} {ν ν' : Nat → Int64} (h : NUg S ν ν') : AGR S (pf f ν) (pf f ν') := by sorry
abbrev RT (M : Type) : Type := (Nat → va_E) → (Nat → Nat) → Nat → M → Prop
def RLE {M : Type} (R R' : RT M) : Prop := ∀ f S a m, R f S a m → R' f S a m
/-- what holds with these marks holds with more -/
def MonS {M : Type} (R : RT M) : Prop := ∀ f S S' a m, R f S a m → SUB S S' → R f S' a m
/-- it looks at nothing that is not marked, nor at field k of its own cell -/
def FrC {M : Type} (k : Nat) (R : RT M) : Prop := ∀ f f' S a m, R f S a m → eqx k (f a) (f' a) → AGR S f f' → R f' S a m
/-- a chain up to z: k the field that leads on -/
def CHE {M : Type} (R : RT M) (k : Nat) (f : Nat → va_E) (S : Nat → Nat) (z : Option Nat) : Option Nat → List M → Prop
  | o, [] => o = z
  | o, m :: l => ∃ a, o = some a ∧ S a = 3 ∧ R f S a m ∧ CHE R k f S z (refE k (f a)) l
abbrev CHD {M : Type} (R : RT M) (k : Nat) (f : Nat → va_E) (S : Nat → Nat) (o : Option Nat) (l : List M) : Prop := CHE R k f S none o l
theorem CHD_le {M : Type} {R R' : RT M} (h : RLE R R') {k : Nat} {f : Nat → va_E} {S : Nat → Nat} {z : Option Nat} : ∀ (l : List M) (o : Option Nat), CHE R k f S z o l → CHE R' k f S z o l := by sorry
theorem CHD_mo {M : Type} {R : RT M} (h : MonS R) {k : Nat} {f : Nat → va_E} {S S' : Nat → Nat} (hs : SUB S S') {z : Option Nat} : ∀ (l : List M) (o : Option Nat), CHE R k f S z o l → CHE R k f S' z o l := by sorry
theorem CHD_fr {M : Type} {R : RT M} {j : Nat} (h : FrC j R) {k : Nat} {f f' : Nat → va_E} {S : Nat → Nat} (ha : AGR S f f') {z : Option Nat} : ∀ (l : List M) (o : Option Nat), CHE R k f S z o l → CHE R k f' S z o l := by sorry
theorem CHE_snoc {M : Type} {R : RT M} {k : Nat} {f : Nat → va_E} {S : Nat → Nat} {y : Nat} {z : Option Nat} {m : M} (hs : S y = 3) (hr : R f S y m) (hz : refE k (f y) = z) : ∀ (l : List M) (o : Option Nat), CHE R k f S (some y) o l → CHE R k f S z o (l ++ [m]) := by sorry
/-- a chain under way: o its first, y its last, which is not marked -/
def KI {M : Type} (R : RT M) (k : Nat) (f : Nat → va_E) (S : Nat → Nat) (o : Option Nat) (y : Nat) (l : List M) (m : M) : Prop := CHE R k f S (some y) o l ∧ S y = 0 ∧ R f S y m ∧ refE k (f y) = none
theorem KI.one {M : Type} {R : RT M} {k : Nat} {f : Nat → va_E} {S : Nat → Nat} {y : Nat} {m : M} (h1 : R f S y m) (h2 : S y = 0) (h3 : refE k (f y) = none) : KI R k f S (some y) y [] m := by sorry
theorem KI.all {M : Type} {R : RT M} (hm : MonS R) {k : Nat} {f : Nat → va_E} {S : Nat → Nat} {o : Option Nat} {y : Nat} {l : List M} {m : M} (h : KI R k f S o y l m) : CHD R k f (joM S (onM y 3)) o (l ++ [m]) := by sorry
/-- it stays so where nothing of it changes -/
theorem KI.fr {M : Type} {R : RT M} {k : Nat} (hf : FrC k R) {f f' : Nat → va_E} {S : Nat → Nat} {o : Option Nat} {y : Nat} {l : List M} {m : M} (h : KI R k f S o y l m) (ha : AGR S f f') (hy : f' y = f y) : KI R k f' S o y l m := by sorry
/-- one more: v is put behind y -/
theorem KI.add {M : Type} {R : RT M} {k : Nat} (hm : MonS R) (hf : FrC k R) {f f' : Nat → va_E} {S S1 : Nat → Nat} {o : Option Nat} {y v : Nat} {l : List M} {m m1 : M} (h : KI R k f S o y l m) (hv : R f S1 v m1) (hvn : refE k (f v) = none) (hv1 : S1 v = 0) (hvS : S v = 0) (hne : v ≠ y) (hy1 : S1 y = 0) (hd : DIS S S1) (hb : ∀ b, b ≠ y → f' b = f b) (hy : eqx k (f y) (f' y)) (hl : refE k (f' y) = some v) : KI R k f' (joM (joM S (onM y 3)) S1) o v (l ++ [m]) m1 := by sorry
/-- a selector: K what a filter may say -/
def LDf (K : RT CT) : RT QT := fun f S a m => ∃ kd nm hs ht st sp se fl nx, f a = lE kd nm hs ht st sp se fl nx ∧ ((kd = 0 ∧ ∃ b, nm = some b ∧ S b = 3 ∧ m = namS (txL f b)) ∨ (kd = 1 ∧ m = eachS) ∨ (kd = 2 ∧ m = idxS st) ∨ (kd = 3 ∧ m = slcS (if hs = 0 then none else some st) (if ht = 0 then none else some sp) se) ∨ (kd = 4 ∧ ∃ b g, fl = some b ∧ S b = 3 ∧ K f S b g ∧ m = filS g))
/-- a segment -/
def GDf (K : RT CT) : RT QT := fun f S a m => ∃ ds fi nx, f a = gE ds fi nx ∧ ∃ l, CHD (LDf K) 8 f S fi l ∧ m = segS (decide (¬ ds = 0)) l
/-- a query -/
def QDf (K : RT CT) : RT QT := fun f S a m => ∃ fr sg fi la, f a = qE fr sg fi la ∧ ∃ l, CHD (GDf K) 2 f S fi l ∧ m = qryS (decide (¬ fr = 0)) l
/-- what is compared -/
def ODf (O : RT OT) (Q : RT QT) : RT OT := fun f S a m => ∃ kd va qu inn, f a = oE kd va qu inn ∧ ((kd = 0 ∧ ∃ b x, va = some b ∧ S b = 2 ∧ CL f b x ∧ x.1 < 5 ∧ refE 3 (f b) = none ∧ (∀ q, x.1 = 4 → refE 2 (f b) = some q → S q = 3) ∧ m = litO x) ∨ (kd = 1 ∧ ∃ q s, qu = some q ∧ S q = 3 ∧ Q f S q s ∧ m = onlO s) ∨ (kd = 2 ∧ ∃ b q s, va = some b ∧ S b = 1 ∧ NV f b ∧ qu = some q ∧ S q = 3 ∧ Q f S q s ∧ m = cntO s) ∨ (kd = 3 ∧ ∃ b o x, va = some b ∧ S b = 1 ∧ NV f b ∧ inn = some o ∧ S o = 3 ∧ O f S o x ∧ m = lenO x))
/-- a condition -/
def KDf (K : RT CT) (O : RT OT) (Q : RT QT) : RT CT := fun f S a m => ∃ kd fi nx qu le ri, f a = kE kd fi nx qu le ri ∧ ((kd = 0 ∧ ∃ l, CHD K 2 f S fi l ∧ m = anyC_ l) ∨ (kd = 1 ∧ ∃ l, CHD K 2 f S fi l ∧ m = allC l) ∨ (kd = 2 ∧ ∃ b g, fi = some b ∧ S b = 3 ∧ K f S b g ∧ m = notC g) ∨ (kd = 3 ∧ ∃ q s, qu = some q ∧ S q = 3 ∧ Q f S q s ∧ m = tstC s) ∨ (∃ op x y b c Sl Sr, op ≤ 5 ∧ kd = nI (4 + op) ∧ le = some b ∧ ri = some c ∧ S b = 3 ∧ S c = 3 ∧ SUB Sl S ∧ SUB Sr S ∧ DIS Sl Sr ∧ O f Sl b x ∧ O f Sr c y ∧ m = cmpC op x y))
theorem LDf_le {K K' : RT CT} (h : RLE K K') : RLE (LDf K) (LDf K') := by sorry
theorem LDf_mo {K : RT CT} (h : MonS K) : MonS (LDf K) := by sorry
theorem AGR.ax {S : Nat → Nat} {f f' : Nat → va_E} (h : AGR S f f') {b k : Nat} (hb : S b = k) (h0 : ¬ k = 0) (h1 : ¬ k = 1) : f' b = f b := by sorry
theorem eqx_L {f f' : Nat → va_E} {a : Nat} {kd : Int32} {nm : Option Nat} {hs ht : Int32} {st sp se : Int64} {fl nx : Option Nat} (h : f a = lE kd nm hs ht st sp se fl nx) (he : eqx 8 (f a) (f' a)) : ∃ nx', f' a = lE kd nm hs ht st sp se fl nx' := by sorry
theorem eqx_G {f f' : Nat → va_E} {a : Nat} {ds : Int32} {fi nx : Option Nat} (h : f a = gE ds fi nx) (he : eqx 2 (f a) (f' a)) : ∃ nx', f' a = gE ds fi nx' := by sorry
theorem eqx_K {f f' : Nat → va_E} {a : Nat} {kd : Int32} {fi nx qu le ri : Option Nat} (h : f a = kE kd fi nx qu le ri) (he : eqx 2 (f a) (f' a)) : ∃ nx', f' a = kE kd fi nx' qu le ri := by sorry
theorem LDf_fr {K : RT CT} (h : FrC 2 K) : FrC 8 (LDf K) := by sorry
theorem GDf_le {K K' : RT CT} (h : RLE K K') : RLE (GDf K) (GDf K') := by sorry
theorem GDf_mo {K : RT CT} (h : MonS K) : MonS (GDf K) := by sorry
theorem GDf_fr {K : RT CT} (h : FrC 2 K) : FrC 2 (GDf K) := by sorry
theorem QDf_le {K K' : RT CT} (h : RLE K K') : RLE (QDf K) (QDf K') := by sorry
theorem QDf_mo {K : RT CT} (h : MonS K) : MonS (QDf K) := by sorry
theorem QDf_fr {K : RT CT} (h : FrC 2 K) {f f' : Nat → va_E} {S : Nat → Nat} {a : Nat} {m : QT} (hq : QDf K f S a m) (he : f' a = f a) (ha : AGR S f f') : QDf K f' S a m := by sorry
/-- as FrC, its own cell as it was -/
def FrO {M : Type} (R : RT M) : Prop := ∀ f f' S a m, R f S a m → f' a = f a → AGR S f f' → R f' S a m
theorem FrC.o {M : Type} {k : Nat} {R : RT M} (h : FrC k R) : FrO R := by sorry
theorem ODf_le {O O' : RT OT} {Q Q' : RT QT} (hO : RLE O O') (hQ : RLE Q Q') : RLE (ODf O Q) (ODf O' Q') := by sorry
theorem ODf_mo {O : RT OT} {Q : RT QT} (hO : MonS O) (hQ : MonS Q) : MonS (ODf O Q) := by sorry
theorem CL.fr {f f' : Nat → va_E} {b : Nat} {x : LF} (h : CL f b x) (he : f' b = f b) (ht : ∀ q, x.1 = 4 → refE 2 (f b) = some q → f' q = f q) : CL f' b x := by sorry
theorem ODf_fr {O : RT OT} {Q : RT QT} (hO : FrO O) (hQ : FrO Q) : FrO (ODf O Q) := by sorry
theorem KDf_le {K K' : RT CT} {O O' : RT OT} {Q Q' : RT QT} (hK : RLE K K') (hO : RLE O O') (hQ : RLE Q Q') : RLE (KDf K O Q) (KDf K' O' Q') := by sorry
theorem KDf_mo {K : RT CT} {O : RT OT} {Q : RT QT} (hK : MonS K) (hQ : MonS Q) : MonS (KDf K O Q) := by sorry
theorem KDf_fr {K : RT CT} {O : RT OT} {Q : RT QT} (hK : FrC 2 K) (hO : FrO O) (hQ : FrO Q) : FrC 2 (KDf K O Q) := by sorry
/-- what objects say, d deep at most -/
def RD : Nat → RT CT × RT OT × RT QT
  | 0 => (fun _ _ _ _ => False, fun _ _ _ _ => False, fun _ _ _ _ => False)
  | d + 1 => (KDf (RD d).1 (RD d).2.1 (RD d).2.2, ODf (RD d).2.1 (RD d).2.2, QDf (RD d).1)
theorem RD_le : ∀ d, RLE (RD d).1 (RD (d + 1)).1 ∧ RLE (RD d).2.1 (RD (d + 1)).2.1 ∧ RLE (RD d).2.2 (RD (d + 1)).2.2 := by sorry
theorem RD_les {d e : Nat} (h : d ≤ e) : RLE (RD d).1 (RD e).1 ∧ RLE (RD d).2.1 (RD e).2.1 ∧ RLE (RD d).2.2 (RD e).2.2 := by sorry
theorem RD_mo : ∀ d, MonS (RD d).1 ∧ MonS (RD d).2.1 ∧ MonS (RD d).2.2 := by sorry
theorem RD_fr : ∀ d, FrC 2 (RD d).1 ∧ FrO (RD d).2.1 ∧ FrO (RD d).2.2 := by sorry
/-- a condition, an operand, a query, a segment, a selector says this -/
def KD : RT CT := fun f S a m => ∃ d, (RD d).1 f S a m
def OD : RT OT := fun f S a m => ∃ d, (RD d).2.1 f S a m
def QD : RT QT := fun f S a m => ∃ d, (RD d).2.2 f S a m
def GD : RT QT := fun f S a m => ∃ d, GDf (RD d).1 f S a m
def LD : RT QT := fun f S a m => ∃ d, LDf (RD d).1 f S a m
theorem KD_mo : MonS KD := by sorry
theorem OD_mo : MonS OD := by sorry
theorem QD_mo : MonS QD := by sorry
theorem GD_mo : MonS GD := by sorry
theorem LD_mo : MonS LD := by sorry
theorem KD_fr : FrC 2 KD := by sorry
theorem OD_fr : FrO OD := by sorry
theorem QD_fr : FrO QD := by sorry
theorem GD_fr : FrC 2 GD := by sorry
theorem LD_fr : FrC 8 LD := by sorry
/-- a chain of what is d deep, each of its own depth -/
theorem CHE_all {M : Type} {R : Nat → RT M} (hle : ∀ d e, d ≤ e → RLE (R d) (R e)) {k : Nat} {f : Nat → va_E} {S : Nat → Nat} {z : Option Nat} : ∀ (l : List M) (o : Option Nat), CHE (fun f S a m => ∃ d, R d f S a m) k f S z o l → ∃ d, CHE (R d) k f S z o l := by sorry
theorem KD_chain {k : Nat} {f : Nat → va_E} {S : Nat → Nat} {z o : Option Nat} {l : List CT} (h : CHE KD k f S z o l) : ∃ d, CHE (RD d).1 k f S z o l := by sorry
theorem LD_chain {k : Nat} {f : Nat → va_E} {S : Nat → Nat} {z o : Option Nat} {l : List QT} (h : CHE LD k f S z o l) : ∃ d, CHE (LDf (RD d).1) k f S z o l := by sorry
theorem GD_chain {k : Nat} {f : Nat → va_E} {S : Nat → Nat} {z o : Option Nat} {l : List QT} (h : CHE GD k f S z o l) : ∃ d, CHE (GDf (RD d).1) k f S z o l := by sorry
-- what they are made of
theorem KD_in {f : Nat → va_E} {S : Nat → Nat} {a : Nat} {m : CT} (h : KDf KD OD QD f S a m) : KD f S a m := by sorry
theorem KD_out {f : Nat → va_E} {S : Nat → Nat} {a : Nat} {m : CT} (h : KD f S a m) : KDf KD OD QD f S a m := by sorry
theorem OD_in {f : Nat → va_E} {S : Nat → Nat} {a : Nat} {m : OT} (h : ODf OD QD f S a m) : OD f S a m := by sorry
theorem OD_out {f : Nat → va_E} {S : Nat → Nat} {a : Nat} {m : OT} (h : OD f S a m) : ODf OD QD f S a m := by sorry
theorem LD_in {f : Nat → va_E} {S : Nat → Nat} {a : Nat} {m : QT} (h : LDf KD f S a m) : LD f S a m := by sorry
theorem LD_out {f : Nat → va_E} {S : Nat → Nat} {a : Nat} {m : QT} (h : LD f S a m) : LDf KD f S a m := by sorry
theorem GD_in {f : Nat → va_E} {S : Nat → Nat} {a : Nat} {ds : Int32} {fi nx : Option Nat} {l : List QT} (e : f a = gE ds fi nx) (h : CHD LD 8 f S fi l) : GD f S a (segS (decide (¬ ds = 0)) l) := by sorry
theorem GD_out {f : Nat → va_E} {S : Nat → Nat} {a : Nat} {m : QT} (h : GD f S a m) : ∃ ds fi nx l, f a = gE ds fi nx ∧ CHD LD 8 f S fi l ∧ m = segS (decide (¬ ds = 0)) l := by sorry
theorem QD_in {f : Nat → va_E} {S : Nat → Nat} {a : Nat} {fr sg : Int32} {fi la : Option Nat} {l : List QT} (e : f a = qE fr sg fi la) (h : CHD GD 2 f S fi l) : QD f S a (qryS (decide (¬ fr = 0)) l) := by sorry
theorem QD_out {f : Nat → va_E} {S : Nat → Nat} {a : Nat} {m : QT} (h : QD f S a m) : ∃ fr sg fi la l, f a = qE fr sg fi la ∧ CHD GD 2 f S fi l ∧ m = qryS (decide (¬ fr = 0)) l := by sorry
section DMake
variable {f : Nat → va_E} {S : Nat → Nat} {a b c : Nat}
theorem LD.nam {hs ht : Int32} {st sp se : Int64} {fl nx : Option Nat} (e : f a = lE 0 (some b) hs ht st sp se fl nx) (hb : S b = 3) : LD f S a (namS (txL f b)) := by sorry
theorem LD.each {nm : Option Nat} {hs ht : Int32} {st sp se : Int64} {fl nx : Option Nat} (e : f a = lE 1 nm hs ht st sp se fl nx) : LD f S a eachS := by sorry
theorem LD.idx {nm : Option Nat} {hs ht : Int32} {st sp se : Int64} {fl nx : Option Nat} (e : f a = lE 2 nm hs ht st sp se fl nx) : LD f S a (idxS st) := by sorry
theorem LD.slc {nm : Option Nat} {hs ht : Int32} {st sp se : Int64} {fl nx : Option Nat} (e : f a = lE 3 nm hs ht st sp se fl nx) : LD f S a (slcS (if hs = 0 then none else some st) (if ht = 0 then none else some sp) se) := by sorry
theorem LD.fil {nm : Option Nat} {hs ht : Int32} {st sp se : Int64} {nx : Option Nat} {g : CT} (e : f a = lE 4 nm hs ht st sp se (some b) nx) (hb : S b = 3) (hg : KD f S b g) : LD f S a (filS g) := by sorry
theorem OD.lit {qu inn : Option Nat} {x : LF} (e : f a = oE 0 (some b) qu inn) (hb : S b = 2) (hc : CL f b x) (h5 : x.1 < 5) (h3 : refE 3 (f b) = none) (ht : ∀ q, x.1 = 4 → refE 2 (f b) = some q → S q = 3) : OD f S a (litO x) := by sorry
theorem OD.onl {va inn : Option Nat} {s : QT} (e : f a = oE 1 va (some b) inn) (hb : S b = 3) (hq : QD f S b s) : OD f S a (onlO s) := by sorry
theorem OD.cnt {inn : Option Nat} {s : QT} (e : f a = oE 2 (some c) (some b) inn) (hc : S c = 1) (hv : NV f c) (hb : S b = 3) (hq : QD f S b s) : OD f S a (cntO s) := by sorry
theorem OD.len {qu : Option Nat} {x : OT} (e : f a = oE 3 (some c) qu (some b)) (hc : S c = 1) (hv : NV f c) (hb : S b = 3) (hq : OD f S b x) : OD f S a (lenO x) := by sorry
theorem KD.any {fi nx qu le ri : Option Nat} {l : List CT} (e : f a = kE 0 fi nx qu le ri) (h : CHD KD 2 f S fi l) : KD f S a (anyC_ l) := by sorry
theorem KD.all {fi nx qu le ri : Option Nat} {l : List CT} (e : f a = kE 1 fi nx qu le ri) (h : CHD KD 2 f S fi l) : KD f S a (allC l) := by sorry
theorem KD.not {nx qu le ri : Option Nat} {g : CT} (e : f a = kE 2 (some b) nx qu le ri) (hb : S b = 3) (h : KD f S b g) : KD f S a (notC g) := by sorry
theorem KD.tst {fi nx le ri : Option Nat} {s : QT} (e : f a = kE 3 fi nx (some b) le ri) (hb : S b = 3) (h : QD f S b s) : KD f S a (tstC s) := by sorry
theorem KD.cmp {fi nx qu : Option Nat} {op : Nat} {x y : OT} {Sl Sr : Nat → Nat} (e : f a = kE (nI (4 + op)) fi nx qu (some b) (some c)) (ho : op ≤ 5) (hb : S b = 3) (hc : S c = 3) (hl : SUB Sl S) (hr : SUB Sr S) (hd : DIS Sl Sr) (hx : OD f Sl b x) (hy : OD f Sr c y) : KD f S a (cmpC op x y) := by sorry
end DMake
end
section
/-- what a reader of queries leaves: new objects beside those that were there -/
def QG (cI cV : ClassId) (E lv : Nat → Nat) (L : List Nat) (f : Nat → va_E) (i n p z : Nat) (N : List Nat) (E' lv' : Nat → Nat) (f' : Nat → va_E) : Prop := i ≤ p ∧ p ≤ n ∧ PO cI cV E' lv' (L ++ N) f' ∧ EX E E' ∧ (∀ a, E a ≠ 0 → lv' a = lv a) ∧ (∀ a, a ∈ L → f' a = f a) ∧ (∀ a, E a = 0 → E' a ≠ 1) ∧ (∀ a, E a = 0 → E' a ≠ 0 → z ≤ a)
section QGs
variable {cI cV : ClassId} {E lv E1 lv1 E2 lv2 : Nat → Nat} {L N N2 : List Nat} {f f1 f2 : Nat → va_E} {i n p p2 z z2 q s b : Nat} {e : va_E}
theorem QG.rf (h : PO cI cV E lv L f) (hin : i ≤ n) : QG cI cV E lv L f i n i z [] E lv f := by sorry
theorem QG.num (h : QG cI cV E lv L f i n p z N E1 lv1 f1) : i ≤ p ∧ p ≤ n := by sorry
theorem QG.po (h : QG cI cV E lv L f i n p z N E1 lv1 f1) : PO cI cV E1 lv1 (L ++ N) f1 := by sorry
theorem QG.ex (h : QG cI cV E lv L f i n p z N E1 lv1 f1) : EX E E1 := by sorry
theorem QG.on (h : QG cI cV E lv L f i n p z N E1 lv1 f1) : ∀ a, a ∈ L → f1 a = f a := by sorry
theorem QG.mv (h : QG cI cV E lv L f i n p z N E1 lv1 f1) (h1 : p ≤ p2) (h2 : p2 ≤ n) : QG cI cV E lv L f i n p2 z N E1 lv1 f1 := by sorry
theorem QG.tr (h : QG cI cV E lv L f i n p z N E1 lv1 f1) (g : QG cI cV E1 lv1 (L ++ N) f1 p n p2 z2 N2 E2 lv2 f2) (hz : z ≤ z2) : QG cI cV E lv L f i n p2 z (N ++ N2) E2 lv2 f2 := by sorry
theorem QG.add (h : QG cI cV E lv L f i n p z N E1 lv1 f1) (hq : E1 q = 0) (hqL : q ∉ L ++ N) (hz : z ≤ q) (hs0 : s ≠ 0) (hs1 : s ≠ 1) (hc : CO cI cV (va_up E1 q s) (va_up lv1 q b) q e) : QG cI cV E lv L f i n p z (N ++ [q]) (va_up E1 q s) (va_up lv1 q b) (va_up f1 q e) := by sorry
theorem QG.upd (h : QG cI cV E lv L f i n p z N E1 lv1 f1) (hqL : q ∉ L) (hc : CO cI cV E1 lv1 q e) : QG cI cV E lv L f i n p z N E1 lv1 (va_up f1 q e) := by sorry
end QGs
section Cells2
variable {cI cV : ClassId} {E lv : Nat → Nat} {a : Nat} {e : va_E}
theorem CO.Q (ha : E a = 7) (h : ∃ fr sg fi la, e = qE fr sg fi la ∧ oR (fun b => E b = 8 ∧ lv b ≤ lv a) fi ∧ oR (fun b => E b = 8) la) : CO cI cV E lv a e := by sorry
theorem CO.G (ha : E a = 8) (h : ∃ ds fi nx, e = gE ds fi nx ∧ GO E lv a fi nx) : CO cI cV E lv a e := by sorry
theorem CO.L (ha : E a = 9) (h : ∃ kd nm hs ht st sp se fl nx, e = lE kd nm hs ht st sp se fl nx ∧ LO E lv a kd nm se fl nx) : CO cI cV E lv a e := by sorry
theorem CO.K (ha : E a = 10) (h : ∃ kd fi nx qu le ri, e = kE kd fi nx qu le ri ∧ KO E lv a kd fi nx qu le ri) : CO cI cV E lv a e := by sorry
theorem CO.O (ha : E a = 11) (h : ∃ kd va qu inn, e = oE kd va qu inn ∧ OO E lv a kd va qu inn) : CO cI cV E lv a e := by sorry
end Cells2
/-- a new cell lies behind all that was there at the start -/
theorem newA {A : Nat → Prop} {ws0 ws : va_W} {z q : Nat} {e : va_E} (hA : va_A ws0 z = A) (hD : va_D A (ws ++ [(q, e)])) (hs : ∀ (k : Nat) (x : Nat × va_E), ws0[k]? = some x → ∃ (j : Nat) (y : va_E), ws[j]? = some (x.1, y)) : z ≤ q := by sorry
end
section
theorem z_563 : (.methodLink "QueryBench$QueryReader" 39 ⟨"QueryBench$Tape", "skipBlanks", "()V"⟩ : Cond) ∈ gtbl := by sorry
theorem z_612 : (.fieldLink "QueryBench$QueryReader" 110 "QueryBench$Selector" "kind" "I" : Cond) ∈ gtbl := by sorry
theorem z_617 : (.fieldLink "QueryBench$QueryReader" 146 "QueryBench$Selector" "hasStop" "Z" : Cond) ∈ gtbl := by sorry
theorem z_621 : (.fieldLink "QueryBench$QueryReader" 143 "QueryBench$Selector" "stop" "J" : Cond) ∈ gtbl := by sorry
theorem z_624 : (.fieldLink "QueryBench$QueryReader" 149 "QueryBench$Selector" "step" "J" : Cond) ∈ gtbl := by sorry
theorem z_776 : (.methodLink "QueryBench$QueryReader" 129 ⟨"QueryBench$QueryReader", "integer", "()J"⟩ : Cond) ∈ gtbl := by sorry
theorem z_778 : (.instanceMethod ⟨"QueryBench$QueryReader", "integer", "()J"⟩ : Cond) ∈ gtbl := by sorry
theorem z_786 : (.methodLink "QueryBench$QueryReader" 140 ⟨"QueryBench$QueryReader", "beginsInteger", "(I)Z"⟩ : Cond) ∈ gtbl := by sorry
theorem z_787 : (.static ⟨"QueryBench$QueryReader", "beginsInteger", "(I)Z"⟩ : Cond) ∈ gtbl := by sorry
abbrev b_QueryReader_slice : ByteArray := prog_7_method_9_code
def y_QueryReader_slice : MethodName := ⟨"QueryBench$QueryReader", "slice", "(LQueryBench$Selector;)V"⟩
abbrev k_QueryReader_slice : Cond := .code y_QueryReader_slice b_QueryReader_slice 2 none
theorem i_QueryReader_slice : k_QueryReader_slice ∈ gtbl := by sorry
theorem d_QueryReader_slice_0 : decode b_QueryReader_slice 0 = .ok (.aload_n 1, 1) := by sorry
theorem d_QueryReader_slice_1 : decode b_QueryReader_slice 1 = .ok (.iconst 3, 1) := by sorry
theorem d_QueryReader_slice_2 : decode b_QueryReader_slice 2 = .ok (.putfield 110, 3) := by sorry
theorem d_QueryReader_slice_5 : decode b_QueryReader_slice 5 = .ok (.aload_n 0, 1) := by sorry
theorem d_QueryReader_slice_6 : decode b_QueryReader_slice 6 = .ok (.getfield 9, 3) := by sorry
theorem d_QueryReader_slice_9 : decode b_QueryReader_slice 9 = .ok (.dup, 1) := by sorry
theorem d_QueryReader_slice_10 : decode b_QueryReader_slice 10 = .ok (.getfield 25, 3) := by sorry
theorem d_QueryReader_slice_13 : decode b_QueryReader_slice 13 = .ok (.iconst 1, 1) := by sorry
theorem d_QueryReader_slice_14 : decode b_QueryReader_slice 14 = .ok (.iadd, 1) := by sorry
theorem d_QueryReader_slice_15 : decode b_QueryReader_slice 15 = .ok (.putfield 25, 3) := by sorry
theorem d_QueryReader_slice_18 : decode b_QueryReader_slice 18 = .ok (.aload_n 0, 1) := by sorry
theorem d_QueryReader_slice_19 : decode b_QueryReader_slice 19 = .ok (.getfield 9, 3) := by sorry
theorem d_QueryReader_slice_22 : decode b_QueryReader_slice 22 = .ok (.invokevirtual 39, 3) := by sorry
theorem d_QueryReader_slice_25 : decode b_QueryReader_slice 25 = .ok (.aload_n 0, 1) := by sorry
theorem d_QueryReader_slice_26 : decode b_QueryReader_slice 26 = .ok (.getfield 9, 3) := by sorry
theorem d_QueryReader_slice_29 : decode b_QueryReader_slice 29 = .ok (.invokevirtual 19, 3) := by sorry
theorem d_QueryReader_slice_32 : decode b_QueryReader_slice 32 = .ok (.invokestatic 140, 3) := by sorry
theorem d_QueryReader_slice_35 : decode b_QueryReader_slice 35 = .ok (.ifCond .eq 23, 3) := by sorry
theorem d_QueryReader_slice_38 : decode b_QueryReader_slice 38 = .ok (.aload_n 1, 1) := by sorry
theorem d_QueryReader_slice_39 : decode b_QueryReader_slice 39 = .ok (.aload_n 0, 1) := by sorry
theorem d_QueryReader_slice_40 : decode b_QueryReader_slice 40 = .ok (.invokevirtual 129, 3) := by sorry
theorem d_QueryReader_slice_43 : decode b_QueryReader_slice 43 = .ok (.putfield 143, 3) := by sorry
theorem d_QueryReader_slice_46 : decode b_QueryReader_slice 46 = .ok (.aload_n 1, 1) := by sorry
theorem d_QueryReader_slice_47 : decode b_QueryReader_slice 47 = .ok (.iconst 1, 1) := by sorry
theorem d_QueryReader_slice_48 : decode b_QueryReader_slice 48 = .ok (.putfield 146, 3) := by sorry
theorem d_QueryReader_slice_51 : decode b_QueryReader_slice 51 = .ok (.aload_n 0, 1) := by sorry
theorem d_QueryReader_slice_52 : decode b_QueryReader_slice 52 = .ok (.getfield 9, 3) := by sorry
theorem d_QueryReader_slice_55 : decode b_QueryReader_slice 55 = .ok (.invokevirtual 39, 3) := by sorry
theorem d_QueryReader_slice_58 : decode b_QueryReader_slice 58 = .ok (.aload_n 0, 1) := by sorry
theorem d_QueryReader_slice_59 : decode b_QueryReader_slice 59 = .ok (.getfield 9, 3) := by sorry
theorem d_QueryReader_slice_62 : decode b_QueryReader_slice 62 = .ok (.bipush 58, 2) := by sorry
theorem d_QueryReader_slice_64 : decode b_QueryReader_slice 64 = .ok (.invokevirtual 58, 3) := by sorry
theorem d_QueryReader_slice_67 : decode b_QueryReader_slice 67 = .ok (.ifCond .eq 31, 3) := by sorry
theorem d_QueryReader_slice_70 : decode b_QueryReader_slice 70 = .ok (.aload_n 0, 1) := by sorry
theorem d_QueryReader_slice_71 : decode b_QueryReader_slice 71 = .ok (.getfield 9, 3) := by sorry
theorem d_QueryReader_slice_74 : decode b_QueryReader_slice 74 = .ok (.invokevirtual 39, 3) := by sorry
theorem d_QueryReader_slice_77 : decode b_QueryReader_slice 77 = .ok (.aload_n 0, 1) := by sorry
theorem d_QueryReader_slice_78 : decode b_QueryReader_slice 78 = .ok (.getfield 9, 3) := by sorry
theorem d_QueryReader_slice_81 : decode b_QueryReader_slice 81 = .ok (.invokevirtual 19, 3) := by sorry
theorem d_QueryReader_slice_84 : decode b_QueryReader_slice 84 = .ok (.invokestatic 140, 3) := by sorry
theorem d_QueryReader_slice_87 : decode b_QueryReader_slice 87 = .ok (.ifCond .eq 11, 3) := by sorry
theorem d_QueryReader_slice_90 : decode b_QueryReader_slice 90 = .ok (.aload_n 1, 1) := by sorry
theorem d_QueryReader_slice_91 : decode b_QueryReader_slice 91 = .ok (.aload_n 0, 1) := by sorry
theorem d_QueryReader_slice_92 : decode b_QueryReader_slice 92 = .ok (.invokevirtual 129, 3) := by sorry
theorem d_QueryReader_slice_95 : decode b_QueryReader_slice 95 = .ok (.putfield 149, 3) := by sorry
theorem d_QueryReader_slice_98 : decode b_QueryReader_slice 98 = .ok (.return_, 1) := by sorry
set_option maxHeartbeats 4000000 in
set_option maxRecDepth 100000 in
/-- QueryReader.slice -/
theorem c_QueryReader_slice (l : Launch) (hl9 : l.stackTraces = false) (dC : Nat → ClassId) (dI : Nat → Nat → Nat) (sz : Heap) (cB cI : ClassId) (h0 qb qu : Nat) (uc ln pl : Int32) (bf ug : Nat → Int32) (n i : Nat) (hn0 : n ≤ 4096) (hin : i < n) (qr o sl : Nat) (k0 hs hp9 : Int32) (st sp : Int64) (vn vf vx : Value) : vx_Met l y_QueryReader_slice (k_QueryReader_slice :: gtbl) ({ frames := 11, cells := 1, slots := 6, locals := 210 }) (va_Pc [.ref qr, .ref sl] (mx dC dI ([(qr, .inr (5, [.ref h0, .int (nI o)])), (h0, .inr (8, [.ref qb, .ref qu, .int uc, .int ln, .int (nI n), .int (nI i), .int pl])), (qb, .inl (cB, 4096, .inl bf)), (qu, .inl (cI, 4096, .inl ug)), (sl, .inr (7, [.int k0, vn, .int hs, .int hp9, .long st, .long sp, .long 1, vf, vx]))]) [(cB, .byte), (cI, .int)] sz)) (va_Qv (fun (u : Nat × Int32 × Int64 × Int64) => i < u.1 ∧ u.1 ≤ n ∧ wi53 u.2.2.2 ∧ ∃ e : Option Int64, slV bf n i = some (u.1, e, u.2.2.2) ∧ (hp9 = 0 → (if u.2.1 = 0 then none else some u.2.2.1) = e)) (fun u t9 => mz dC dI ([(qr, .inr (5, [.ref h0, .int (nI o)])), (h0, .inr (8, [.ref qb, .ref qu, .int uc, .int ln, .int (nI n), .int (nI u.1), .int pl])), (qb, .inl (cB, 4096, .inl bf)), (qu, .inl (cI, 4096, .inl ug)), (sl, .inr (7, [.int 3, vn, .int hs, .int u.2.1, .long st, .long u.2.2.1, .long u.2.2.2, vf, vx]))]) [(cB, .byte), (cI, .int)] (va_A ([(qr, .inr (5, [.ref h0, .int (nI o)])), (h0, .inr (8, [.ref qb, .ref qu, .int uc, .int ln, .int (nI n), .int (nI i), .int pl])), (qb, .inl (cB, 4096, .inl bf)), (qu, .inl (cI, 4096, .inl ug)), (sl, .inr (7, [.int k0, vn, .int hs, .int hp9, .long st, .long sp, .long 1, vf, vx]))]) sz.size) t9 ∧ szk sz t9.heap (0) (0)) (va_A ([(qr, .inr (5, [.ref h0, .int (nI o)])), (h0, .inr (8, [.ref qb, .ref qu, .int uc, .int ln, .int (nI n), .int (nI i), .int pl])), (qb, .inl (cB, 4096, .inl bf)), (qu, .inl (cI, 4096, .inl ug)), (sl, .inr (7, [.int k0, vn, .int hs, .int hp9, .long st, .long sp, .long 1, vf, vx]))]) sz.size)) (vx_X (fun (u : Int32 × Int32 × Int32 × (Nat → Int32) × Int32) => slV bf n i = none) (fun En u t9 => En = UOX ∧ mz dC dI ([(qr, .inr (5, [.ref h0, .int u.2.2.2.2])), (h0, .inr (8, [.ref qb, .ref qu, .int u.2.1, .int ln, .int (nI n), .int u.1, .int u.2.2.1])), (qb, .inl (cB, 4096, .inl bf)), (qu, .inl (cI, 4096, .inl u.2.2.2.1))]) [(cB, .byte), (cI, .int)] (va_A ([(qr, .inr (5, [.ref h0, .int (nI o)])), (h0, .inr (8, [.ref qb, .ref qu, .int uc, .int ln, .int (nI n), .int (nI i), .int pl])), (qb, .inl (cB, 4096, .inl bf)), (qu, .inl (cI, 4096, .inl ug)), (sl, .inr (7, [.int k0, vn, .int hs, .int hp9, .long st, .long sp, .long 1, vf, vx]))]) sz.size) t9) (va_A ([(qr, .inr (5, [.ref h0, .int (nI o)])), (h0, .inr (8, [.ref qb, .ref qu, .int uc, .int ln, .int (nI n), .int (nI i), .int pl])), (qb, .inl (cB, 4096, .inl bf)), (qu, .inl (cI, 4096, .inl ug)), (sl, .inr (7, [.int k0, vn, .int hs, .int hp9, .long st, .long sp, .long 1, vf, vx]))]) sz.size)) (1) (6) (va_A ([(qr, .inr (5, [.ref h0, .int (nI o)])), (h0, .inr (8, [.ref qb, .ref qu, .int uc, .int ln, .int (nI n), .int (nI i), .int pl])), (qb, .inl (cB, 4096, .inl bf)), (qu, .inl (cI, 4096, .inl ug)), (sl, .inr (7, [.int k0, vn, .int hs, .int hp9, .long st, .long sp, .long 1, vf, vx]))]) sz.size) := by sorry
end
section
theorem z_545 : (.methodLink "QueryBench$Query" 1 ⟨"java/lang/Object", "<init>", "()V"⟩ : Cond) ∈ gtbl := by sorry
theorem z_546 : (.fieldLink "QueryBench$Query" 13 "QueryBench$Query" "fromRoot" "Z" : Cond) ∈ gtbl := by sorry
theorem z_548 : (.fieldLink "QueryBench$Query" 7 "QueryBench$Query" "singular" "Z" : Cond) ∈ gtbl := by sorry
theorem z_574 : (.fieldLink "QueryBench$Segment" 7 "QueryBench$Segment" "descends" "Z" : Cond) ∈ gtbl := by sorry
theorem z_577 : (.fieldLink "QueryBench$Segment" 13 "QueryBench$Segment" "first" "LQueryBench$Selector;" : Cond) ∈ gtbl := by sorry
theorem z_610 : (.fieldLink "QueryBench$Segment" 22 "QueryBench$Selector" "kind" "I" : Cond) ∈ gtbl := by sorry
theorem z_628 : (.fieldLink "QueryBench$Segment" 17 "QueryBench$Selector" "next" "LQueryBench$Selector;" : Cond) ∈ gtbl := by sorry
theorem z_725 : (.methodLink "QueryBench$Operand" 1 ⟨"java/lang/Object", "<init>", "()V"⟩ : Cond) ∈ gtbl := by sorry
theorem z_726 : (.fieldLink "QueryBench$Operand" 7 "QueryBench$Operand" "kind" "I" : Cond) ∈ gtbl := by sorry
theorem z_728 : (.fieldLink "QueryBench$Operand" 13 "QueryBench$Operand" "value" "LQueryBench$Value;" : Cond) ∈ gtbl := by sorry
abbrev b_Query_init : ByteArray := prog_6_method_1_code
def y_Query_init : MethodName := ⟨"QueryBench$Query", "<init>", "(Z)V"⟩
abbrev k_Query_init : Cond := .code y_Query_init b_Query_init 2 none
theorem i_Query_init : k_Query_init ∈ gtbl := by sorry
theorem d_Query_init_0 : decode b_Query_init 0 = .ok (.aload_n 0, 1) := by sorry
theorem d_Query_init_1 : decode b_Query_init 1 = .ok (.invokespecial 1, 3) := by sorry
theorem d_Query_init_4 : decode b_Query_init 4 = .ok (.aload_n 0, 1) := by sorry
theorem d_Query_init_5 : decode b_Query_init 5 = .ok (.iconst 1, 1) := by sorry
theorem d_Query_init_6 : decode b_Query_init 6 = .ok (.putfield 7, 3) := by sorry
theorem d_Query_init_9 : decode b_Query_init 9 = .ok (.aload_n 0, 1) := by sorry
theorem d_Query_init_10 : decode b_Query_init 10 = .ok (.iload_n 1, 1) := by sorry
theorem d_Query_init_11 : decode b_Query_init 11 = .ok (.putfield 13, 3) := by sorry
theorem d_Query_init_14 : decode b_Query_init 14 = .ok (.return_, 1) := by sorry
set_option maxHeartbeats 4000000 in
set_option maxRecDepth 100000 in
/-- Query() -/
theorem c_Query_init (l : Launch) (dC : Nat → ClassId) (dI : Nat → Nat → Nat) (sz : Heap) (q : Nat) (k : Int32) (hk : Bo k) : Met l y_Query_init (k_Query_init :: gtbl) ({ frames := 1, cells := 0, slots := 0, locals := 20 }) (va_Pc [.ref q, .int k] (mp dC dI ([(q, .inr (4, [.int 0, .int 0, .null, .null]))]) [] sz)) (va_Qv (fun (u : Unit) => True) (fun u t9 => mz dC dI ([(q, .inr (4, [.int k, .int 1, .null, .null]))]) [] (va_A ([(q, .inr (4, [.int 0, .int 0, .null, .null]))]) sz.size) t9 ∧ szk sz t9.heap (0) (0)) (va_A ([(q, .inr (4, [.int 0, .int 0, .null, .null]))]) sz.size)) (0) (0) (va_A ([(q, .inr (4, [.int 0, .int 0, .null, .null]))]) sz.size) := by sorry
abbrev b_Operand_init : ByteArray := prog_4_method_1_code
def y_Operand_init : MethodName := ⟨"QueryBench$Operand", "<init>", "(ILQueryBench$Value;)V"⟩
abbrev k_Operand_init : Cond := .code y_Operand_init b_Operand_init 3 none
theorem i_Operand_init : k_Operand_init ∈ gtbl := by sorry
theorem d_Operand_init_0 : decode b_Operand_init 0 = .ok (.aload_n 0, 1) := by sorry
theorem d_Operand_init_1 : decode b_Operand_init 1 = .ok (.invokespecial 1, 3) := by sorry
theorem d_Operand_init_4 : decode b_Operand_init 4 = .ok (.aload_n 0, 1) := by sorry
theorem d_Operand_init_5 : decode b_Operand_init 5 = .ok (.iload_n 1, 1) := by sorry
theorem d_Operand_init_6 : decode b_Operand_init 6 = .ok (.putfield 7, 3) := by sorry
theorem d_Operand_init_9 : decode b_Operand_init 9 = .ok (.aload_n 0, 1) := by sorry
theorem d_Operand_init_10 : decode b_Operand_init 10 = .ok (.aload_n 2, 1) := by sorry
theorem d_Operand_init_11 : decode b_Operand_init 11 = .ok (.putfield 13, 3) := by sorry
theorem d_Operand_init_14 : decode b_Operand_init 14 = .ok (.return_, 1) := by sorry
set_option maxHeartbeats 4000000 in
set_option maxRecDepth 100000 in
/-- Operand() -/
theorem c_Operand_init (l : Launch) (dC : Nat → ClassId) (dI : Nat → Nat → Nat) (sz : Heap) (q : Nat) (k : Int32) (va : Option Nat) : Met l y_Operand_init (k_Operand_init :: gtbl) ({ frames := 1, cells := 0, slots := 0, locals := 20 }) (va_Pc [.ref q, .int k, va_rf va] (mp dC dI ([(q, .inr (2, [.int 0, .null, .null, .null]))]) [] sz)) (va_Qv (fun (u : Unit) => True) (fun u t9 => mz dC dI ([(q, .inr (2, [.int k, va_rf va, .null, .null]))]) [] (va_A ([(q, .inr (2, [.int 0, .null, .null, .null]))]) sz.size) t9 ∧ szk sz t9.heap (0) (0)) (va_A ([(q, .inr (2, [.int 0, .null, .null, .null]))]) sz.size)) (0) (0) (va_A ([(q, .inr (2, [.int 0, .null, .null, .null]))]) sz.size) := by sorry
abbrev b_Segment_isSingular : ByteArray := prog_8_method_2_code
def y_Segment_isSingular : MethodName := ⟨"QueryBench$Segment", "isSingular", "()Z"⟩
abbrev k_Segment_isSingular : Cond := .code y_Segment_isSingular b_Segment_isSingular 1 (some .boolean)
theorem i_Segment_isSingular : k_Segment_isSingular ∈ gtbl := by sorry
theorem d_Segment_isSingular_0 : decode b_Segment_isSingular 0 = .ok (.aload_n 0, 1) := by sorry
theorem d_Segment_isSingular_1 : decode b_Segment_isSingular 1 = .ok (.getfield 7, 3) := by sorry
theorem d_Segment_isSingular_4 : decode b_Segment_isSingular 4 = .ok (.ifCond .ne 38, 3) := by sorry
theorem d_Segment_isSingular_7 : decode b_Segment_isSingular 7 = .ok (.aload_n 0, 1) := by sorry
theorem d_Segment_isSingular_8 : decode b_Segment_isSingular 8 = .ok (.getfield 13, 3) := by sorry
theorem d_Segment_isSingular_11 : decode b_Segment_isSingular 11 = .ok (.getfield 17, 3) := by sorry
theorem d_Segment_isSingular_14 : decode b_Segment_isSingular 14 = .ok (.ifnonnull 28, 3) := by sorry
theorem d_Segment_isSingular_17 : decode b_Segment_isSingular 17 = .ok (.aload_n 0, 1) := by sorry
theorem d_Segment_isSingular_18 : decode b_Segment_isSingular 18 = .ok (.getfield 13, 3) := by sorry
theorem d_Segment_isSingular_21 : decode b_Segment_isSingular 21 = .ok (.getfield 22, 3) := by sorry
theorem d_Segment_isSingular_24 : decode b_Segment_isSingular 24 = .ok (.ifCond .eq 14, 3) := by sorry
theorem d_Segment_isSingular_27 : decode b_Segment_isSingular 27 = .ok (.aload_n 0, 1) := by sorry
theorem d_Segment_isSingular_28 : decode b_Segment_isSingular 28 = .ok (.getfield 13, 3) := by sorry
theorem d_Segment_isSingular_31 : decode b_Segment_isSingular 31 = .ok (.getfield 22, 3) := by sorry
theorem d_Segment_isSingular_34 : decode b_Segment_isSingular 34 = .ok (.iconst 2, 1) := by sorry
theorem d_Segment_isSingular_35 : decode b_Segment_isSingular 35 = .ok (.if_icmp .ne 7, 3) := by sorry
theorem d_Segment_isSingular_38 : decode b_Segment_isSingular 38 = .ok (.iconst 1, 1) := by sorry
theorem d_Segment_isSingular_39 : decode b_Segment_isSingular 39 = .ok (.goto 4, 3) := by sorry
theorem d_Segment_isSingular_42 : decode b_Segment_isSingular 42 = .ok (.iconst 0, 1) := by sorry
theorem d_Segment_isSingular_43 : decode b_Segment_isSingular 43 = .ok (.ireturn, 1) := by sorry
set_option maxHeartbeats 4000000 in
set_option maxRecDepth 100000 in
/-- Segment.isSingular -/
theorem c_Segment_isSingular (l : Launch) (dC : Nat → ClassId) (dI : Nat → Nat → Nat) (sz : Heap) (cI cV : ClassId) (E lv : Nat → Nat) (L : List Nat) (f : Nat → va_E) (hO : PO cI cV E lv L f) (sg : Nat) (hsg : E sg = 8) : Met l y_Segment_isSingular (k_Segment_isSingular :: gtbl) ({ frames := 0, cells := 0, slots := 0, locals := 0 }) (va_Pc [.ref sg] (mq dC dI ([] ++ va_pl L f) [(cI, .int), (cV, .object "QueryBench$Value")] sz)) (vp_Si (fun (r : Int32) => r = bI (sgG f sg))) 0 0 (fun _ => False) := by sorry
end
section
theorem z_24 : (.initialized "QueryBench$Segment" : Cond) ∈ gtbl := by sorry
theorem z_551 : (.fieldLink "QueryBench$Query" 20 "QueryBench$Query" "first" "LQueryBench$Segment;" : Cond) ∈ gtbl := by sorry
theorem z_553 : (.fieldLink "QueryBench$Query" 16 "QueryBench$Query" "last" "LQueryBench$Segment;" : Cond) ∈ gtbl := by sorry
theorem z_580 : (.fieldLink "QueryBench$Query" 23 "QueryBench$Segment" "next" "LQueryBench$Segment;" : Cond) ∈ gtbl := by sorry
theorem z_800 : (.methodLink "QueryBench$Query" 28 ⟨"QueryBench$Segment", "isSingular", "()Z"⟩ : Cond) ∈ gtbl := by sorry
theorem z_801 : (.instanceMethod ⟨"QueryBench$Segment", "isSingular", "()Z"⟩ : Cond) ∈ gtbl := by sorry
theorem z_802 : (.selects "QueryBench$Segment" ⟨"QueryBench$Segment", "isSingular", "()Z"⟩ ⟨"QueryBench$Segment", "isSingular", "()Z"⟩ : Cond) ∈ gtbl := by sorry
/-- a segment leads to the next one -/
theorem PO.segn {cI cV : ClassId} {E lv : Nat → Nat} {L : List Nat} {f : Nat → va_E} {z v : Nat} (h : PO cI cV E lv L f) (hz : E z = 8) (hv : E v = 8) (hl : lv v ≤ lv z) (ho : z < v) {ds : Int32} {fi nx : Option Nat} (ef : f z = gE ds fi nx) (hg : GO E lv z fi nx) : PO cI cV E lv L (va_up f z (gE ds fi (some v))) := by sorry
abbrev b_Query_add : ByteArray := prog_6_method_2_code
def y_Query_add : MethodName := ⟨"QueryBench$Query", "add", "(LQueryBench$Segment;)V"⟩
abbrev k_Query_add : Cond := .code y_Query_add b_Query_add 2 none
theorem i_Query_add : k_Query_add ∈ gtbl := by sorry
theorem d_Query_add_0 : decode b_Query_add 0 = .ok (.aload_n 0, 1) := by sorry
theorem d_Query_add_1 : decode b_Query_add 1 = .ok (.getfield 16, 3) := by sorry
theorem d_Query_add_4 : decode b_Query_add 4 = .ok (.ifnonnull 11, 3) := by sorry
theorem d_Query_add_7 : decode b_Query_add 7 = .ok (.aload_n 0, 1) := by sorry
theorem d_Query_add_8 : decode b_Query_add 8 = .ok (.aload_n 1, 1) := by sorry
theorem d_Query_add_9 : decode b_Query_add 9 = .ok (.putfield 20, 3) := by sorry
theorem d_Query_add_12 : decode b_Query_add 12 = .ok (.goto 11, 3) := by sorry
theorem d_Query_add_15 : decode b_Query_add 15 = .ok (.aload_n 0, 1) := by sorry
theorem d_Query_add_16 : decode b_Query_add 16 = .ok (.getfield 16, 3) := by sorry
theorem d_Query_add_19 : decode b_Query_add 19 = .ok (.aload_n 1, 1) := by sorry
theorem d_Query_add_20 : decode b_Query_add 20 = .ok (.putfield 23, 3) := by sorry
theorem d_Query_add_23 : decode b_Query_add 23 = .ok (.aload_n 0, 1) := by sorry
theorem d_Query_add_24 : decode b_Query_add 24 = .ok (.aload_n 1, 1) := by sorry
theorem d_Query_add_25 : decode b_Query_add 25 = .ok (.putfield 16, 3) := by sorry
theorem d_Query_add_28 : decode b_Query_add 28 = .ok (.aload_n 0, 1) := by sorry
theorem d_Query_add_29 : decode b_Query_add 29 = .ok (.aload_n 0, 1) := by sorry
theorem d_Query_add_30 : decode b_Query_add 30 = .ok (.getfield 7, 3) := by sorry
theorem d_Query_add_33 : decode b_Query_add 33 = .ok (.ifCond .eq 14, 3) := by sorry
theorem d_Query_add_36 : decode b_Query_add 36 = .ok (.aload_n 1, 1) := by sorry
theorem d_Query_add_37 : decode b_Query_add 37 = .ok (.invokevirtual 28, 3) := by sorry
theorem d_Query_add_40 : decode b_Query_add 40 = .ok (.ifCond .eq 7, 3) := by sorry
theorem d_Query_add_43 : decode b_Query_add 43 = .ok (.iconst 1, 1) := by sorry
theorem d_Query_add_44 : decode b_Query_add 44 = .ok (.goto 4, 3) := by sorry
theorem d_Query_add_47 : decode b_Query_add 47 = .ok (.iconst 0, 1) := by sorry
theorem d_Query_add_48 : decode b_Query_add 48 = .ok (.putfield 7, 3) := by sorry
theorem d_Query_add_51 : decode b_Query_add 51 = .ok (.return_, 1) := by sorry
set_option maxHeartbeats 4000000 in
set_option maxRecDepth 100000 in
/-- Query.add -/
theorem c_Query_add (l : Launch) (dC : Nat → ClassId) (dI : Nat → Nat → Nat) (sz : Heap) (cI cV : ClassId) (E lv : Nat → Nat) (L : List Nat) (f : Nat → va_E) (hO : PO cI cV E lv L f) (q : Nat) (fr : Int32) (fl : Bool) (fi la : Option Nat) (sn : Nat) (hsn : E sn = 8) (hla : oR (fun z => E z = 8 ∧ lv sn ≤ lv z ∧ z < sn) la) : Met l y_Query_add (k_Query_add :: gtbl) ({ frames := 1, cells := 0, slots := 0, locals := 40 }) (va_Pc [.ref q, .ref sn] (mn dC dI ([(q, .inr (4, [.int fr, .int (bI fl), va_rf fi, va_rf la]))] ++ va_pl L f) [(cI, .int), (cV, .object "QueryBench$Value")] sz)) (va_Qv (fun (u : Option Nat × (Nat → va_E)) => PO cI cV E lv L u.2 ∧ ((la = none → u.1 = some sn ∧ u.2 = f) ∧ (la ≠ none → u.1 = fi)) ∧ ∀ z, la = some z → ∃ ds fi9 nx, f z = gE ds fi9 nx ∧ u.2 = va_up f z (gE ds fi9 (some sn))) (fun u t9 => mz dC dI ([(q, .inr (4, [.int fr, .int (bI (fl && sgG f sn)), va_rf u.1, .ref sn]))] ++ va_pl L u.2) [(cI, .int), (cV, .object "QueryBench$Value")] (va_A ([(q, .inr (4, [.int fr, .int (bI fl), va_rf fi, va_rf la]))] ++ va_pl L f) sz.size) t9 ∧ szk sz t9.heap (0) (0)) (va_A ([(q, .inr (4, [.int fr, .int (bI fl), va_rf fi, va_rf la]))] ++ va_pl L f) sz.size)) (0) (0) (va_A ([(q, .inr (4, [.int fr, .int (bI fl), va_rf fi, va_rf la]))] ++ va_pl L f) sz.size) := by sorry
end
section
theorem z_25 : (.initialized "QueryBench$Selector" : Cond) ∈ gtbl := by sorry
theorem z_44 : (.fieldLink "QueryBench$QueryReader" 91 "QueryBench$Tape" "bytes" "[B" : Cond) ∈ gtbl := by sorry
theorem z_50 : (.fieldLink "QueryBench$QueryReader" 36 "QueryBench$Tape" "end" "I" : Cond) ∈ gtbl := by sorry
theorem z_603 : (.classLink "QueryBench$QueryReader" 77 "QueryBench$Selector" : Cond) ∈ gtbl := by sorry
theorem z_604 : (.instantiable "QueryBench$Selector" 9 : Cond) ∈ gtbl := by sorry
theorem z_605 : (.methodLink "QueryBench$QueryReader" 79 ⟨"QueryBench$Selector", "<init>", "(I)V"⟩ : Cond) ∈ gtbl := by sorry
theorem z_606 : (.instanceMethod ⟨"QueryBench$Selector", "<init>", "(I)V"⟩ : Cond) ∈ gtbl := by sorry
theorem z_613 : (.fieldLink "QueryBench$QueryReader" 87 "QueryBench$Selector" "name" "[I" : Cond) ∈ gtbl := by sorry
theorem z_793 : (.methodLink "QueryBench$QueryReader" 81 ⟨"QueryBench$QueryReader", "isNameByte", "(I)Z"⟩ : Cond) ∈ gtbl := by sorry
theorem z_794 : (.static ⟨"QueryBench$QueryReader", "isNameByte", "(I)Z"⟩ : Cond) ∈ gtbl := by sorry
/-- new objects for every choice of levels: from bd on the newest may have the level that is asked for -/
def QX (cI cV : ClassId) (E : Nat → Nat) (L : List Nat) (f : Nat → va_E) (i n p z : Nat) (N : List Nat) (E' : Nat → Nat) (f' : Nat → va_E) (bd : Nat) (R : Nat → (Nat → Nat) → Prop) : Prop := ∀ lv : Nat → Nat, PO cI cV E lv L f → ∀ b : Nat, bd ≤ b → ∃ lv' : Nat → Nat, QG cI cV E lv L f i n p z N E' lv' f' ∧ R b lv'
/-- r is new, of sort s -/
def QPn (cI cV : ClassId) (E : Nat → Nat) (L : List Nat) (f : Nat → va_E) (i n z s bd dm r p : Nat) (N : List Nat) (E' : Nat → Nat) (f' : Nat → va_E) : Prop := E r = 0 ∧ E' r = s ∧ i + dm ≤ p ∧ p ≤ n ∧ QX cI cV E L f i n p z N E' f' bd (fun b lv' => lv' r = b)
/-- a chain from x to y, all of sort s and of one level -/
def CI (cI cV : ClassId) (E : Nat → Nat) (L : List Nat) (f : Nat → va_E) (i n z s bd x y p : Nat) (N : List Nat) (E' : Nat → Nat) (f' : Nat → va_E) : Prop := E x = 0 ∧ E y = 0 ∧ E' x = s ∧ E' y = s ∧ p ≤ n ∧ QX cI cV E L f i n p z N E' f' bd (fun b lv' => lv' x = b ∧ lv' y = b)
/-- a query's segments -/
def QQ (cI cV : ClassId) (E : Nat → Nat) (L : List Nat) (f : Nat → va_E) (i n z bd : Nat) (x y : Option Nat) (p : Nat) (N : List Nat) (E' : Nat → Nat) (f' : Nat → va_E) : Prop := oR (fun a => E a = 0 ∧ E' a = 8) x ∧ oR (fun a => E a = 0 ∧ E' a = 8) y ∧ p ≤ n ∧ QX cI cV E L f i n p z N E' f' bd (fun b lv' => oR (fun a => lv' a = b) x ∧ oR (fun a => lv' a = b) y)
section QPs
variable {cI cV : ClassId} {E lv E1 lv1 E2 E3 lv2 : Nat → Nat} {L N N2 N3 : List Nat} {f f1 f2 f3 : Nat → va_E} {i n p p1 p2 z9 z2 s bd bd2 dm r x9 y9 v : Nat} {R : Nat → (Nat → Nat) → Prop}
theorem QG.lve (h : QG cI cV E lv L f i n p z9 N E1 lv1 f1) : ∀ a, E a ≠ 0 → lv1 a = lv a := by sorry
theorem QG.ge (h : QG cI cV E lv L f i n p z9 N E1 lv1 f1) (ha : E r = 0) (hb : E1 r ≠ 0) : z9 ≤ r := by sorry
theorem QX.g (h : QX cI cV E L f i n p z9 N E1 f1 bd R) (hO : PO cI cV E lv L f) : ∃ lv', QG cI cV E lv L f i n p z9 N E1 lv' f1 := by sorry
theorem QPn.x (h : QPn cI cV E L f i n z9 s bd dm r p N E1 f1) : QX cI cV E L f i n p z9 N E1 f1 bd (fun b lv' => lv' r = b) := by sorry
theorem QPn.num (h : QPn cI cV E L f i n z9 s bd dm r p N E1 f1) : i + dm ≤ p ∧ p ≤ n := by sorry
theorem QPn.new (h : QPn cI cV E L f i n z9 s bd dm r p N E1 f1) : E r = 0 := by sorry
theorem QPn.so (h : QPn cI cV E L f i n z9 s bd dm r p N E1 f1) : E1 r = s := by sorry
theorem CI.x (h : CI cI cV E L f i n z9 s bd x9 y9 p N E1 f1) : QX cI cV E L f i n p z9 N E1 f1 bd (fun b lv' => lv' x9 = b ∧ lv' y9 = b) := by sorry
theorem CI.le (h : CI cI cV E L f i n z9 s bd x9 y9 p N E1 f1) : p ≤ n := by sorry
end QPs
theorem pl_on {L : List Nat} {f g : Nat → va_E} (h : ∀ a, a ∈ L → g a = f a) : va_pl L g = va_pl L f := by sorry
theorem plP_cut {D : va_G} {cl : List vw_C} {X : va_W} {L N : List Nat} {f g : Nat → va_E} {H : Heap} (hP : va_P D cl (X ++ va_pl (L ++ N) g) H) (h : ∀ a, a ∈ L → g a = f a) : va_P D cl (X ++ va_pl L f) H := by sorry
theorem plD_cut {A : Nat → Prop} {X : va_W} {L N : List Nat} {f g : Nat → va_E} (hD : va_D A (X ++ va_pl (L ++ N) g)) (h : ∀ a, a ∈ L → g a = f a) : va_D A (X ++ va_pl L f) := by sorry
/-- a new cell lies behind all that was there at the start, the pool may have grown -/
theorem newB {A : Nat → Prop} {X0 X : va_W} {L N : List Nat} {f g : Nat → va_E} {z q : Nat} {e : va_E} (hA : va_A (X0 ++ va_pl L f) z = A) (hD : va_D A ((X ++ va_pl (L ++ N) g) ++ [(q, e)])) (hs : ∀ (k : Nat) (x : Nat × va_E), X0[k]? = some x → ∃ (j : Nat) (y : va_E), X[j]? = some (x.1, y)) : z ≤ q := by sorry
theorem lE_inj {kd kd' : Int32} {nm nm' : Option Nat} {hs hs' ht ht' : Int32} {st st' sp sp' se se' : Int64} {fl fl' nx nx' : Option Nat} (h : lE kd nm hs ht st sp se fl nx = lE kd' nm' hs' ht' st' sp' se' fl' nx') : kd = kd' ∧ nm = nm' ∧ se = se' ∧ fl = fl' ∧ nx = nx' := by sorry
theorem kE_inj {kd kd' : Int32} {fi fi' nx nx' qu qu' le le' ri ri' : Option Nat} (h : kE kd fi nx qu le ri = kE kd' fi' nx' qu' le' ri') : kd = kd' ∧ fi = fi' ∧ nx = nx' ∧ qu = qu' ∧ le = le' ∧ ri = ri' := by sorry
theorem gE_inj {ds ds' : Int32} {fi fi' nx nx' : Option Nat} (h : gE ds fi nx = gE ds' fi' nx') : ds = ds' ∧ fi = fi' ∧ nx = nx' := by sorry
section Cells3
variable {cI cV : ClassId} {E lv : Nat → Nat} {L : List Nat} {f : Nat → va_E} {a : Nat}
theorem PO.selE (h : PO cI cV E lv L f) (ha : E a = 9) {kd : Int32} {nm : Option Nat} {hs ht : Int32} {st sp se : Int64} {fl nx : Option Nat} (ef : f a = lE kd nm hs ht st sp se fl nx) : LO E lv a kd nm se fl nx := by sorry
theorem PO.conE (h : PO cI cV E lv L f) (ha : E a = 10) {kd : Int32} {fi nx qu le ri : Option Nat} (ef : f a = kE kd fi nx qu le ri) : KO E lv a kd fi nx qu le ri := by sorry
theorem PO.segE (h : PO cI cV E lv L f) (ha : E a = 8) {ds : Int32} {fi nx : Option Nat} (ef : f a = gE ds fi nx) : GO E lv a fi nx := by sorry
end Cells3
section Chains
variable {cI cV : ClassId} {E E1 E3 : Nat → Nat} {L N N3 : List Nat} {f f1 f3 : Nat → va_E} {i n p p1 p3 z9 z2 s bd bd2 dm r x9 y9 v : Nat}
theorem CI.start (h : QPn cI cV E L f i n z9 s bd dm r p N E1 f1) : CI cI cV E L f i n z9 s bd r r p N E1 f1 := by sorry
theorem CI.mv (h : CI cI cV E L f i n z9 s bd x9 y9 p N E1 f1) (h1 : p ≤ p1) (h2 : p1 ≤ n) : CI cI cV E L f i n z9 s bd x9 y9 p1 N E1 f1 := by sorry
theorem QPn.mv (h : QPn cI cV E L f i n z9 s bd dm r p N E1 f1) (h1 : p ≤ p1) (h2 : p1 ≤ n) : QPn cI cV E L f i n z9 s bd dm r p1 N E1 f1 := by sorry
/-- a method that answers what another has answered, from a later place on -/
theorem QPn.up {i1 dm2 : Nat} (h : QPn cI cV E (L ++ []) f i1 n z2 s bd dm r p N E1 f1) (hi : i ≤ i1) (hin : i1 ≤ n) (hz : z9 ≤ z2) (hb : bd ≤ bd2) (hd : i + dm2 ≤ i1 + dm) : QPn cI cV E L f i n z9 s bd2 dm2 r p ([] ++ N) E1 f1 := by sorry
theorem CI.qp (h : CI cI cV E L f i n z9 s bd x9 y9 p N E1 f1) (hd : i + dm ≤ p) : QPn cI cV E L f i n z9 s bd dm x9 p N E1 f1 := by sorry
/-- the chain goes on -/
theorem CI.next9 (h : CI cI cV E L f i n z9 9 bd x9 y9 p N E1 f1) (hE1 : EX E E1) (hq : QPn cI cV E1 (L ++ N) f1 p1 n z2 9 bd2 dm v p3 N3 E3 f3) (h1 : p ≤ p1) (h2 : p1 ≤ n) (hz : z9 ≤ z2) (hy : y9 < z2) (hb : bd2 ≤ bd) {kd : Int32} {nm : Option Nat} {hs ht : Int32} {st sp se : Int64} {fl nx : Option Nat} (hyL : y9 ∉ L) (ef : f3 y9 = lE kd nm hs ht st sp se fl nx) (hE3 : EX E1 E3) : CI cI cV E L f i n z9 9 bd x9 v p3 (N ++ N3) E3 (va_up f3 y9 (lE kd nm hs ht st sp se fl (some v))) := by sorry
theorem CI.next10 (h : CI cI cV E L f i n z9 10 bd x9 y9 p N E1 f1) (hE1 : EX E E1) (hq : QPn cI cV E1 (L ++ N) f1 p1 n z2 10 bd2 dm v p3 N3 E3 f3) (h1 : p ≤ p1) (h2 : p1 ≤ n) (hz : z9 ≤ z2) (hy : y9 < z2) (hb : bd2 ≤ bd) {kd : Int32} {fi nx qu le ri : Option Nat} (hyL : y9 ∉ L) (ef : f3 y9 = kE kd fi nx qu le ri) (hE3 : EX E1 E3) : CI cI cV E L f i n z9 10 bd x9 v p3 (N ++ N3) E3 (va_up f3 y9 (kE kd fi (some v) qu le ri)) := by sorry
theorem QQ.x {x9 y9 : Option Nat} (h : QQ cI cV E L f i n z9 bd x9 y9 p N E1 f1) : QX cI cV E L f i n p z9 N E1 f1 bd (fun b lv' => oR (fun a => lv' a = b) x9 ∧ oR (fun a => lv' a = b) y9) := by sorry
theorem QQ.start (hin : p ≤ n) (hip : i ≤ p) : QQ cI cV E L f i n z9 bd none none p [] E f := by sorry
theorem QQ.mv {x9 y9 : Option Nat} (h : QQ cI cV E L f i n z9 bd x9 y9 p N E1 f1) (h1 : p ≤ p1) (h2 : p1 ≤ n) : QQ cI cV E L f i n z9 bd x9 y9 p1 N E1 f1 := by sorry
/-- a segment more -/
theorem QQ.next {x9 y9 x2 : Option Nat} {f4 : Nat → va_E} (h : QQ cI cV E L f i n z9 bd x9 y9 p N E1 f1) (hE1 : EX E E1) (hq : QPn cI cV E1 (L ++ N) f1 p1 n z2 8 bd2 dm v p3 N3 E3 f3) (h1 : p ≤ p1) (h2 : p1 ≤ n) (hz : z9 ≤ z2) (hy : ∀ a, y9 = some a → a < z2 ∧ a ∉ L) (hb : bd2 ≤ bd) (hE3 : EX E1 E3) (hf : (y9 = none → x2 = some v ∧ f4 = f3) ∧ (y9 ≠ none → x2 = x9)) (hf4 : ∀ a, y9 = some a → ∃ ds fi nx, f3 a = gE ds fi nx ∧ f4 = va_up f3 a (gE ds fi (some v))) : QQ cI cV E L f i n z9 bd x2 (some v) p3 (N ++ N3) E3 f4 := by sorry
end Chains

/-- what is marked has come since -/
def NWm (E E1 : Nat → Nat) (S : Nat → Nat) : Prop := ∀ a, ¬ S a = 0 → E a = 0 ∧ ¬ E1 a = 0
/-- what was there is as it was -/
def KPx (E1 E2 : Nat → Nat) (f1 f2 : Nat → va_E) : Prop := ∀ a, ¬ E1 a = 0 → f2 a = f1 a ∧ E2 a = E1 a
/-- v is new, and says m; field k leads nowhere -/
def DNx {M : Type} (R : RT M) (k : Nat) (E E1 : Nat → Nat) (f : Nat → va_E) (v : Nat) (m : M) : Prop := ∃ S : Nat → Nat, R f S v m ∧ NWm E E1 S ∧ S v = 0 ∧ (k = 0 ∨ refE k (f v) = none)
/-- a new chain from v on -/
def DNc {M : Type} (R : RT M) (k : Nat) (E E1 : Nat → Nat) (f : Nat → va_E) (v : Nat) (l : List M) : Prop := ∃ S : Nat → Nat, CHD R k f S (some v) l ∧ NWm E E1 S
/-- a new chain under way, from o to y -/
def KIx {M : Type} (R : RT M) (k : Nat) (E E1 : Nat → Nat) (f : Nat → va_E) (o y : Nat) (l : List M) (m : M) : Prop := ∃ S : Nat → Nat, KI R k f S (some o) y l m ∧ NWm E E1 S
theorem KPx.rf {E : Nat → Nat} {f : Nat → va_E} : KPx E E f f := by sorry
theorem KPx.tr {E1 E2 E3 : Nat → Nat} {f1 f2 f3 : Nat → va_E} (h : KPx E1 E2 f1 f2) (g : KPx E2 E3 f2 f3) : KPx E1 E3 f1 f3 := by sorry
theorem KPx.of {cI cV : ClassId} {E1 lv E2 lv2 : Nat → Nat} {L N : List Nat} {f1 f2 : Nat → va_E} {i n p z : Nat} (hg : QG cI cV E1 lv L f1 i n p z N E2 lv2 f2) (hO : PO cI cV E1 lv L f1) : KPx E1 E2 f1 f2 := by sorry
theorem KPx.up {E1 : Nat → Nat} {f1 : Nat → va_E} {q s : Nat} {e : va_E} (h : E1 q = 0) : KPx E1 (va_up E1 q s) f1 (va_up f1 q e) := by sorry
theorem KPx.ex {E1 E2 : Nat → Nat} {f1 f2 : Nat → va_E} (h : KPx E1 E2 f1 f2) : EX E1 E2 := by sorry
theorem NWm.up {E E1 E2 : Nat → Nat} {S : Nat → Nat} (h : NWm E E1 S) (hx : EX E1 E2) : NWm E E2 S := by sorry
theorem NWm.low {E E0 E1 : Nat → Nat} {S : Nat → Nat} (h : NWm E0 E1 S) (hx : EX E E0) : NWm E E1 S := by sorry
theorem NWm.no {E E1 : Nat → Nat} {S : Nat → Nat} (h : NWm E E1 S) {q : Nat} (hq : E1 q = 0) : S q = 0 := by sorry
theorem NWm.no2 {E E1 : Nat → Nat} {S : Nat → Nat} (h : NWm E E1 S) {q : Nat} (hq : ¬ E q = 0) : S q = 0 := by sorry
theorem NWm.nil {E E1 : Nat → Nat} : NWm E E1 (fun _ => 0) := by sorry
theorem NWm.jo {E E1 : Nat → Nat} {S T : Nat → Nat} (h : NWm E E1 S) (g : NWm E E1 T) : NWm E E1 (joM S T) := by sorry
theorem NWm.on {E E1 : Nat → Nat} {q k : Nat} (h : E q = 0) (h1 : ¬ E1 q = 0) : NWm E E1 (onM q k) := by sorry
theorem NWm.dis {E E1 E2 : Nat → Nat} {S T : Nat → Nat} (h : NWm E E1 S) (g : NWm E1 E2 T) : DIS S T := by sorry
theorem NWm.agr {E E1 E2 : Nat → Nat} {S : Nat → Nat} {f1 f2 : Nat → va_E} (h : NWm E E1 S) (kp : KPx E1 E2 f1 f2) : AGR S f1 f2 := by sorry
section Keep
variable {M : Type} {R : RT M} {k : Nat} {E E0 E1 E2 : Nat → Nat} {f1 f2 : Nat → va_E} {v : Nat} {m : M} {l : List M}
theorem DNx.keep (hR : FrO R) (h : DNx R k E E1 f1 v m) (hv : ¬ E1 v = 0) (kp : KPx E1 E2 f1 f2) : DNx R k E E2 f2 v m := by sorry
theorem DNx.low (h : DNx R k E0 E1 f1 v m) (hx : EX E E0) : DNx R k E E1 f1 v m := by sorry
theorem DNx.lone (h : DNx R k E E1 f1 v m) (h0 : ¬ k = 0) (hm : MonS R) (hv : E v = 0) (hv1 : ¬ E1 v = 0) : DNc R k E E1 f1 v [m] := by sorry
theorem DNc.keep {j : Nat} (hR : FrC j R) (h : DNc R k E E1 f1 v l) (kp : KPx E1 E2 f1 f2) : DNc R k E E2 f2 v l := by sorry
theorem DNc.low (h : DNc R k E0 E1 f1 v l) (hx : EX E E0) : DNc R k E E1 f1 v l := by sorry
theorem KIx.start (h : DNx R k E E1 f1 v m) (h0 : ¬ k = 0) : KIx R k E E1 f1 v v [] m := by sorry
theorem KIx.keep {o y : Nat} (hR : FrC k R) (h : KIx R k E E1 f1 o y l m) (hy : ¬ E1 y = 0) (kp : KPx E1 E2 f1 f2) : KIx R k E E2 f2 o y l m := by sorry
theorem KIx.fin {o y : Nat} (hm : MonS R) (h : KIx R k E E1 f1 o y l m) (hy : E y = 0) (hy1 : ¬ E1 y = 0) : DNc R k E E1 f1 o (l ++ [m]) := by sorry
/-- one more: v is put behind y -/
theorem KIx.add {o y : Nat} {E3 : Nat → Nat} {f3 f4 : Nat → va_E} {m1 : M} (hm : MonS R) (hR : FrC k R) (h0 : ¬ k = 0) (h : KIx R k E E1 f1 o y l m) (hy0 : E y = 0) (hy : ¬ E1 y = 0) (hd : DNx R k E1 E3 f3 v m1) (hv : E1 v = 0) (kp : KPx E1 E3 f1 f3) (hx : EX E E1) (hb : ∀ b, b ≠ y → f4 b = f3 b) (he : eqx k (f3 y) (f4 y)) (hl : refE k (f4 y) = some v) : KIx R k E E3 f4 o v (l ++ [m]) m1 := by sorry
end Keep
theorem joM_0 {S : Nat → Nat} {a b k : Nat} (h : S a = 0) (hn : a ≠ b) : joM S (onM b k) a = 0 := by sorry
theorem joM_l {S T : Nat → Nat} {a k : Nat} (h : S a = k) (hk : ¬ k = 0) : joM S T a = k := by sorry
section Make
variable {E E1 : Nat → Nat} {f1 : Nat → va_E} {q v : Nat}
/-- the chain of a segment -/
theorem DNx.seg {l : List QT} {ds : Int32} (h : DNc LD 8 E E1 f1 v l) (hq : E1 q = 0) : DNx GD 2 E (va_up E1 q 8) (va_up f1 q (gE ds (some v) none)) q (segS (decide (¬ ds = 0)) l) := by sorry
/-- conditions joined -/
theorem DNx.all {l : List CT} (h : DNc KD 2 E E1 f1 v l) (hq : E1 q = 0) : DNx KD 2 E (va_up E1 q 10) (va_up f1 q (kE 1 (some v) none none none none)) q (allC l) := by sorry
theorem DNx.any {l : List CT} (h : DNc KD 2 E E1 f1 v l) (hq : E1 q = 0) : DNx KD 2 E (va_up E1 q 10) (va_up f1 q (kE 0 (some v) none none none none)) q (anyC_ l) := by sorry
/-- what a new object says of another: the other is marked -/
theorem DNx.mark {M : Type} {R : RT M} {k kk : Nat} {m : M} {s : Nat} {e : va_E} (hR : FrO R) (hm : MonS R) (h : DNx R k E E1 f1 v m) (hv : E v = 0) (hv1 : ¬ E1 v = 0) (hq : E1 q = 0) : ∃ S, R (va_up f1 q e) S v m ∧ NWm E (va_up E1 q s) S ∧ S q = 0 ∧ S v = kk := by sorry
theorem DNx.onl {s : QT} (h : DNx QD 0 E E1 f1 v s) (hv : E v = 0) (hv1 : ¬ E1 v = 0) (hq : E1 q = 0) : DNx OD 0 E (va_up E1 q 11) (va_up f1 q (oE 1 none (some v) none)) q (onlO s) := by sorry
theorem DNx.tst {s : QT} (h : DNx QD 0 E E1 f1 v s) (hv : E v = 0) (hv1 : ¬ E1 v = 0) (hq : E1 q = 0) : DNx KD 2 E (va_up E1 q 10) (va_up f1 q (kE 3 none none (some v) none none)) q (tstC s) := by sorry
theorem DNx.not {g : CT} (h : DNx KD 2 E E1 f1 v g) (hv : E v = 0) (hv1 : ¬ E1 v = 0) (hq : E1 q = 0) : DNx KD 2 E (va_up E1 q 10) (va_up f1 q (kE 2 (some v) none none none none)) q (notC g) := by sorry
theorem DNx.fil {g : CT} {hs ht : Int32} {st sp se : Int64} (h : DNx KD 2 E E1 f1 v g) (hv : E v = 0) (hv1 : ¬ E1 v = 0) (hq : E1 q = 0) : DNx LD 8 E (va_up E1 q 9) (va_up f1 q (lE 4 none hs ht st sp se (some v) none)) q (filS g) := by sorry
/-- with a value beside it, whose number changes; it was made before what is read -/
theorem DNx.cnt {E0 : Nat → Nat} {vv : Nat} {s : QT} (h : DNx QD 0 E0 E1 f1 v s) (hx : EX E E0) (hv : E0 v = 0) (hv1 : ¬ E1 v = 0) (hq : E1 q = 0) (hw : E vv = 0) (hw0 : ¬ E0 vv = 0) (hw1 : E1 vv = E0 vv) (hn : NV f1 vv) : DNx OD 0 E (va_up E1 q 11) (va_up f1 q (oE 2 (some vv) (some v) none)) q (cntO s) := by sorry
/-- made after what is read -/
theorem DNx.len {vv : Nat} {x : OT} (h : DNx OD 0 E E1 f1 v x) (hv : E v = 0) (hv1 : ¬ E1 v = 0) (hw : E1 vv = 0) (hwE : E vv = 0) (hq : va_up E1 vv 2 q = 0) {nu : Int64} {tx pa na : Option Nat} {ix : Int32} {nm no : Option Nat} {sp : Int32} : DNx OD 0 E (va_up (va_up E1 vv 2) q 11) (va_up (va_up f1 vv (vE 3 nu tx none pa na ix nm no sp)) q (oE 3 (some vv) none (some v))) q (lenO x) := by sorry
/-- a value as it is written -/
def LTv : RT LF := fun f S b x => CL f b x ∧ x.1 < 5 ∧ refE 3 (f b) = none ∧ ∀ w, x.1 = 4 → refE 2 (f b) = some w → S w = 3
theorem DNx.lit {x : LF} (h : DNx LTv 0 E E1 f1 v x) (hv : E v = 0) (hv1 : ¬ E1 v = 0) (hq : E1 q = 0) : DNx OD 0 E (va_up E1 q 11) (va_up f1 q (oE 0 (some v) none none)) q (litO x) := by sorry
/-- values that are written: with no text, with one -/
theorem DNx.wr0 {kd : Int32} {nu : Int64} {x : LF} (hk : kd = ckd x.1) (h5 : x.1 < 5) (h4 : ¬ x.1 = 4) (hn : x.1 = 3 → nu = x.2.1) : DNx LTv 0 E (va_up E1 q 2) (va_up f1 q (vE kd nu none none none none 0 none none 0)) q x := by sorry
theorem DNx.wr4 {cI : ClassId} {nu : Int64} {b n : Nat} {g : Nat → Int32} {us : List Int32} (hb : E1 b = 0) (hbE : E b = 0) (hq : va_up E1 b 4 q = 0) (hu : (List.range n).map g = us) : DNx LTv 0 E (va_up (va_up E1 b 4) q 2) (va_up (va_up f1 b (tE cI n g)) q (vE 4 nu (some b) none none none 0 none none 0)) q (4, 0, us) := by sorry
-- selectors
theorem DNx.nam {cI : ClassId} {b n : Nat} {g : Nat → Int32} {us : List Int32} {hs ht : Int32} {st sp se : Int64} (hb : E1 b = 0) (hbE : E b = 0) (hq : va_up E1 b 4 q = 0) (hu : (List.range n).map g = us) : DNx LD 8 E (va_up (va_up E1 b 4) q 9) (va_up (va_up f1 b (tE cI n g)) q (lE 0 (some b) hs ht st sp se none none)) q (namS us) := by sorry
theorem DNx.each {hs ht : Int32} {st sp se : Int64} : DNx LD 8 E (va_up E1 q 9) (va_up f1 q (lE 1 none hs ht st sp se none none)) q eachS := by sorry
theorem DNx.idx {hs ht : Int32} {st sp se : Int64} : DNx LD 8 E (va_up E1 q 9) (va_up f1 q (lE 2 none hs ht st sp se none none)) q (idxS st) := by sorry
theorem DNx.slc {hs ht : Int32} {st sp se : Int64} {a b : Option Int64} (ha : (if hs = 0 then none else some st) = a) (hb : (if ht = 0 then none else some sp) = b) : DNx LD 8 E (va_up E1 q 9) (va_up f1 q (lE 3 none hs ht st sp se none none)) q (slcS a b se) := by sorry
end Make
/-- a comparison: the operands are new, the second came after the first -/
theorem DNx.cmp {E0 E1 E2 : Nat → Nat} {f1 f2 : Nat → va_E} {a v q : Nat} {x y : OT} {op : Nat} {rk : Int32} (ha : DNx OD 0 E0 E1 f1 a x) (ha0 : E0 a = 0) (ha1 : ¬ E1 a = 0) (hv : DNx OD 0 E1 E2 f2 v y) (hv0 : E1 v = 0) (hv1 : ¬ E2 v = 0) (kp : KPx E1 E2 f1 f2) (hx : EX E0 E1) (hq : E2 q = 0) (ho : op ≤ 5) (hk : rk = nI (4 + op)) : DNx KD 2 E0 (va_up E2 q 10) (va_up f2 q (kE rk none none none (some a) (some v))) q (cmpC op x y) := by sorry
/-- a query's segments -/
def QIx (E E1 : Nat → Nat) (f : Nat → va_E) (fi la : Option Nat) (l : List QT) : Prop := (fi = none ∧ la = none ∧ l = []) ∨ ∃ (o y : Nat) (l0 : List QT) (m : QT), fi = some o ∧ la = some y ∧ l = l0 ++ [m] ∧ KIx GD 2 E E1 f o y l0 m
theorem QIx.start {E E1 : Nat → Nat} {f : Nat → va_E} : QIx E E1 f none none [] := by sorry
theorem QIx.next {E E1 E3 : Nat → Nat} {f1 f3 f4 : Nat → va_E} {fi la x2 : Option Nat} {l : List QT} {v : Nat} {m1 : QT} (h : QIx E E1 f1 fi la l) (hla : ∀ a, la = some a → E a = 0 ∧ ¬ E1 a = 0) (hd : DNx GD 2 E1 E3 f3 v m1) (hv : E1 v = 0) (kp : KPx E1 E3 f1 f3) (hx : EX E E1) (hf : (la = none → x2 = some v ∧ f4 = f3) ∧ (la ≠ none → x2 = fi)) (hf4 : ∀ a, la = some a → ∃ ds fi nx, f3 a = gE ds fi nx ∧ f4 = va_up f3 a (gE ds fi (some v))) : QIx E E3 f4 x2 (some v) (l ++ [m1]) := by sorry
theorem QIx.fin {E E1 : Nat → Nat} {f1 : Nat → va_E} {fi la : Option Nat} {l : List QT} {q : Nat} {fr sg : Int32} (h : QIx E E1 f1 fi la l) (hla : ∀ a, la = some a → E a = 0 ∧ ¬ E1 a = 0) (hq : E1 q = 0) : DNx QD 0 E (va_up E1 q 7) (va_up f1 q (qE fr sg fi la)) q (qryS (decide (¬ fr = 0)) l) := by sorry
-- what the calls of the family say
def OKd {M : Type} (R : RT M) (k : Nat) (F : Nat → Option (Nat × M)) : Nat → Nat → (Nat → Nat) → (Nat → Nat) → (Nat → va_E) → Nat → Prop := fun i p E E1 f v => ∃ m, F i = some (p, m) ∧ DNx R k E E1 f v m
def OKe {M : Type} (R : RT M) (k : Nat) (F : Nat → Option (Nat × Bool × M)) (sg : (Nat → va_E) → Nat → Bool) : Nat → Nat → (Nat → Nat) → (Nat → Nat) → (Nat → va_E) → Nat → Prop := fun i p E E1 f v => ∃ m, F i = some (p, sg f v, m) ∧ DNx R k E E1 f v m
def OKc {M : Type} (R : RT M) (k : Nat) (F : Nat → Option (Nat × Bool × List M)) (sg : (Nat → va_E) → Nat → Bool) : Nat → Nat → (Nat → Nat) → (Nat → Nat) → (Nat → va_E) → Nat → Prop := fun i p E E1 f v => ∃ l, F i = some (p, sg f v, l) ∧ DNc R k E E1 f v l
def NOd {α : Type} (F : Nat → Option α) : Nat → Prop := fun i => F i = none
/-- lists under way: what was read so far stands ahead of what comes -/
def LSx {α M : Type} (X Y : Option (Nat × List M)) (tl : List M) : Prop := X = Y.map (fun r => (r.1, tl ++ r.2))
theorem LSx.st {M : Type} {X : Option (Nat × List M)} : LSx (α := Unit) X X [] := by sorry
theorem LSx.s {M : Type} {X Y Z : Option (Nat × List M)} {tl : List M} {m : M} (h : LSx (α := Unit) X Y tl) (hY : Y = Z.map (fun r => (r.1, m :: r.2))) : LSx (α := Unit) X Z (tl ++ [m]) := by sorry
theorem LSx.n {M : Type} {X Y : Option (Nat × List M)} {tl : List M} (h : LSx (α := Unit) X Y tl) (hY : Y = none) : X = none := by sorry
theorem LSx.e {M : Type} {X Y : Option (Nat × List M)} {tl : List M} {p : Nat} (h : LSx (α := Unit) X Y tl) (hY : Y = some (p, [])) : X = some (p, tl) := by sorry
/-- elements read one after the other: what has been read, and what is to come -/
def SLd {M : Type} (R : RT M) (kf : Nat) (X Y : Option (Nat × List M)) (E E1 : Nat → Nat) (f : Nat → va_E) (x y : Nat) (m0 : M) (k : Nat) : Prop := ∃ (l : List M) (m : M) (tl : List M), KIx R kf E E1 f x y l m ∧ l ++ [m] = m0 :: tl ∧ tl.length = k ∧ LSx (α := Unit) X Y tl
section Elems
variable {M : Type} {R : RT M} {kf : Nat} {X Y Z : Option (Nat × List M)} {E E1 E3 : Nat → Nat} {f1 f3 f4 : Nat → va_E} {x y v k p : Nat} {m0 m1 : M}
theorem SLd.start (hd : DNx R kf E E1 f1 v m0) (h0 : ¬ kf = 0) : SLd R kf X X E E1 f1 v v m0 0 := by sorry
theorem SLd.next (hm : MonS R) (hR : FrC kf R) (h0 : ¬ kf = 0) (h : SLd R kf X Y E E1 f1 x y m0 k) (hy0 : E y = 0) (hy : ¬ E1 y = 0) (hd : DNx R kf E1 E3 f3 v m1) (hv : E1 v = 0) (kp : KPx E1 E3 f1 f3) (hx : EX E E1) (hb : ∀ b, b ≠ y → f4 b = f3 b) (he : eqx kf (f3 y) (f4 y)) (hl : refE kf (f4 y) = some v) (hY : Y = Z.map (fun r => (r.1, m1 :: r.2))) : SLd R kf X Z E E3 f4 x v m0 (k + 1) := by sorry
theorem SLd.fin (hm : MonS R) (h : SLd R kf X Y E E1 f1 x y m0 k) (hy0 : E y = 0) (hy : ¬ E1 y = 0) (hY : Y = some (p, [])) : ∃ tl, X = some (p, tl) ∧ tl.length = k ∧ DNc R kf E E1 f1 x (m0 :: tl) := by sorry
theorem SLd.n (h : SLd R kf X Y E E1 f1 x y m0 k) (hY : Y = none) : X = none := by sorry
end Elems
theorem SLI.fin2 {g : Nat → Int32} {n : Nat} {nw : Bool} {p0 x y p : Nat} {b0 : Bool} {m : Nat} {f : Nat → va_E} {t : List QT} (h : SLI g n nw p0 x y p b0 m f) (hl : t.length = m) : (b0 && t.isEmpty) = sgL (f x) := by sorry
theorem qrD_nw0 {f : Nat → Int32} {n i : Nat} {ok : Bool} {orL : Nat → Option (Nat × CT)} {r : Option (Nat × Bool × QT)} (h : qrD f n ok orL (nwB 0) i = r) : qrD f n ok orL false i = r := by sorry
theorem qrD_nw1 {f : Nat → Int32} {n i : Nat} {ok : Bool} {orL : Nat → Option (Nat × CT)} {r : Option (Nat × Bool × QT)} (h : qrD f n ok orL (nwB 1) i = r) : qrD f n ok orL true i = r := by sorry
theorem nmC_all {f : Nat → Int32} {n : Nat} : ∀ (k j q : Nat), j ≤ q → q < nmC f n k j → letH (hereV f n q) ∨ digH (hereV f n q) := by sorry
/-- a letter's byte is not negative -/
theorem nm_low {bf : Nat → Int32} {n q : Nat} (hbf : byR bf) (h : letH (hereV bf n q) ∨ digH (hereV bf n q)) : hereV bf n q = bf q := by sorry
theorem nm_units {bf g : Nat → Int32} {n i p : Nat} (hbf : byR bf) (hne : nmC bf n (n - i) i = p) (hg : ∀ a, a < p - i → g a = bf (i + a)) : (List.range (p - i)).map g = nmT_ bf n i p := by sorry
/-- a query under way: the segments that have been read -/
theorem qr_map {ok : Bool} {f : Nat → Int32} {n : Nat} {orL : Nat → Option (Nat × CT)} {nw : Bool} {X : Option (Nat × Bool × QT)} {Y Z : Option (Nat × Bool × List QT)} {b : Bool} {l : List QT} {m : QT} (h : X = Y.map (fun q => (q.1, q.2.1, qryS b (l ++ q.2.2)))) (hY : Y = Z.map (fun r => (r.1, r.2.1, m :: r.2.2))) : X = Z.map (fun q => (q.1, q.2.1, qryS b ((l ++ [m]) ++ q.2.2))) := by sorry

abbrev b_QueryReader_shortSelector : ByteArray := prog_7_method_5_code
def y_QueryReader_shortSelector : MethodName := ⟨"QueryBench$QueryReader", "shortSelector", "(Z)LQueryBench$Selector;"⟩
abbrev k_QueryReader_shortSelector : Cond := .code y_QueryReader_shortSelector b_QueryReader_shortSelector 5 (some (.object "QueryBench$Selector"))
theorem i_QueryReader_shortSelector : k_QueryReader_shortSelector ∈ gtbl := by sorry
theorem d_QueryReader_shortSelector_0 : decode b_QueryReader_shortSelector 0 = .ok (.iload_n 1, 1) := by sorry
theorem d_QueryReader_shortSelector_1 : decode b_QueryReader_shortSelector 1 = .ok (.ifCond .ne 24, 3) := by sorry
theorem d_QueryReader_shortSelector_4 : decode b_QueryReader_shortSelector 4 = .ok (.aload_n 0, 1) := by sorry
theorem d_QueryReader_shortSelector_5 : decode b_QueryReader_shortSelector 5 = .ok (.getfield 9, 3) := by sorry
theorem d_QueryReader_shortSelector_8 : decode b_QueryReader_shortSelector 8 = .ok (.bipush 42, 2) := by sorry
theorem d_QueryReader_shortSelector_10 : decode b_QueryReader_shortSelector 10 = .ok (.invokevirtual 58, 3) := by sorry
theorem d_QueryReader_shortSelector_13 : decode b_QueryReader_shortSelector 13 = .ok (.ifCond .eq 12, 3) := by sorry
theorem d_QueryReader_shortSelector_16 : decode b_QueryReader_shortSelector 16 = .ok (.new 77, 3) := by sorry
theorem d_QueryReader_shortSelector_19 : decode b_QueryReader_shortSelector 19 = .ok (.dup, 1) := by sorry
theorem d_QueryReader_shortSelector_20 : decode b_QueryReader_shortSelector 20 = .ok (.iconst 1, 1) := by sorry
theorem d_QueryReader_shortSelector_21 : decode b_QueryReader_shortSelector 21 = .ok (.invokespecial 79, 3) := by sorry
theorem d_QueryReader_shortSelector_24 : decode b_QueryReader_shortSelector 24 = .ok (.areturn, 1) := by sorry
theorem d_QueryReader_shortSelector_25 : decode b_QueryReader_shortSelector 25 = .ok (.new 77, 3) := by sorry
theorem d_QueryReader_shortSelector_28 : decode b_QueryReader_shortSelector 28 = .ok (.dup, 1) := by sorry
theorem d_QueryReader_shortSelector_29 : decode b_QueryReader_shortSelector 29 = .ok (.iconst 0, 1) := by sorry
theorem d_QueryReader_shortSelector_30 : decode b_QueryReader_shortSelector 30 = .ok (.invokespecial 79, 3) := by sorry
theorem d_QueryReader_shortSelector_33 : decode b_QueryReader_shortSelector 33 = .ok (.astore_n 2, 1) := by sorry
theorem d_QueryReader_shortSelector_34 : decode b_QueryReader_shortSelector 34 = .ok (.aload_n 0, 1) := by sorry
theorem d_QueryReader_shortSelector_35 : decode b_QueryReader_shortSelector 35 = .ok (.getfield 9, 3) := by sorry
theorem d_QueryReader_shortSelector_38 : decode b_QueryReader_shortSelector 38 = .ok (.getfield 25, 3) := by sorry
theorem d_QueryReader_shortSelector_41 : decode b_QueryReader_shortSelector 41 = .ok (.istore_n 3, 1) := by sorry
theorem d_QueryReader_shortSelector_42 : decode b_QueryReader_shortSelector 42 = .ok (.aload_n 0, 1) := by sorry
theorem d_QueryReader_shortSelector_43 : decode b_QueryReader_shortSelector 43 = .ok (.getfield 9, 3) := by sorry
theorem d_QueryReader_shortSelector_46 : decode b_QueryReader_shortSelector 46 = .ok (.invokevirtual 19, 3) := by sorry
theorem d_QueryReader_shortSelector_49 : decode b_QueryReader_shortSelector 49 = .ok (.invokestatic 81, 3) := by sorry
theorem d_QueryReader_shortSelector_52 : decode b_QueryReader_shortSelector 52 = .ok (.ifCond .eq 16, 3) := by sorry
theorem d_QueryReader_shortSelector_55 : decode b_QueryReader_shortSelector 55 = .ok (.aload_n 0, 1) := by sorry
theorem d_QueryReader_shortSelector_56 : decode b_QueryReader_shortSelector 56 = .ok (.getfield 9, 3) := by sorry
theorem d_QueryReader_shortSelector_59 : decode b_QueryReader_shortSelector 59 = .ok (.invokevirtual 19, 3) := by sorry
theorem d_QueryReader_shortSelector_62 : decode b_QueryReader_shortSelector 62 = .ok (.invokestatic 84, 3) := by sorry
theorem d_QueryReader_shortSelector_65 : decode b_QueryReader_shortSelector 65 = .ok (.ifCond .eq 11, 3) := by sorry
theorem d_QueryReader_shortSelector_68 : decode b_QueryReader_shortSelector 68 = .ok (.aload_n 0, 1) := by sorry
theorem d_QueryReader_shortSelector_69 : decode b_QueryReader_shortSelector 69 = .ok (.getfield 9, 3) := by sorry
theorem d_QueryReader_shortSelector_72 : decode b_QueryReader_shortSelector 72 = .ok (.iload_n 3, 1) := by sorry
theorem d_QueryReader_shortSelector_73 : decode b_QueryReader_shortSelector 73 = .ok (.invokevirtual 28, 3) := by sorry
theorem d_QueryReader_shortSelector_76 : decode b_QueryReader_shortSelector 76 = .ok (.aload_n 0, 1) := by sorry
theorem d_QueryReader_shortSelector_77 : decode b_QueryReader_shortSelector 77 = .ok (.getfield 9, 3) := by sorry
theorem d_QueryReader_shortSelector_80 : decode b_QueryReader_shortSelector 80 = .ok (.getfield 25, 3) := by sorry
theorem d_QueryReader_shortSelector_83 : decode b_QueryReader_shortSelector 83 = .ok (.aload_n 0, 1) := by sorry
theorem d_QueryReader_shortSelector_84 : decode b_QueryReader_shortSelector 84 = .ok (.getfield 9, 3) := by sorry
theorem d_QueryReader_shortSelector_87 : decode b_QueryReader_shortSelector 87 = .ok (.getfield 36, 3) := by sorry
theorem d_QueryReader_shortSelector_90 : decode b_QueryReader_shortSelector 90 = .ok (.if_icmp .ge 32, 3) := by sorry
theorem d_QueryReader_shortSelector_93 : decode b_QueryReader_shortSelector 93 = .ok (.aload_n 0, 1) := by sorry
theorem d_QueryReader_shortSelector_94 : decode b_QueryReader_shortSelector 94 = .ok (.getfield 9, 3) := by sorry
theorem d_QueryReader_shortSelector_97 : decode b_QueryReader_shortSelector 97 = .ok (.invokevirtual 19, 3) := by sorry
theorem d_QueryReader_shortSelector_100 : decode b_QueryReader_shortSelector 100 = .ok (.invokestatic 81, 3) := by sorry
theorem d_QueryReader_shortSelector_103 : decode b_QueryReader_shortSelector 103 = .ok (.ifCond .eq 19, 3) := by sorry
theorem d_QueryReader_shortSelector_106 : decode b_QueryReader_shortSelector 106 = .ok (.aload_n 0, 1) := by sorry
theorem d_QueryReader_shortSelector_107 : decode b_QueryReader_shortSelector 107 = .ok (.getfield 9, 3) := by sorry
theorem d_QueryReader_shortSelector_110 : decode b_QueryReader_shortSelector 110 = .ok (.dup, 1) := by sorry
theorem d_QueryReader_shortSelector_111 : decode b_QueryReader_shortSelector 111 = .ok (.getfield 25, 3) := by sorry
theorem d_QueryReader_shortSelector_114 : decode b_QueryReader_shortSelector 114 = .ok (.iconst 1, 1) := by sorry
theorem d_QueryReader_shortSelector_115 : decode b_QueryReader_shortSelector 115 = .ok (.iadd, 1) := by sorry
theorem d_QueryReader_shortSelector_116 : decode b_QueryReader_shortSelector 116 = .ok (.putfield 25, 3) := by sorry
theorem d_QueryReader_shortSelector_119 : decode b_QueryReader_shortSelector 119 = .ok (.goto (-43), 3) := by sorry
theorem d_QueryReader_shortSelector_122 : decode b_QueryReader_shortSelector 122 = .ok (.aload_n 2, 1) := by sorry
theorem d_QueryReader_shortSelector_123 : decode b_QueryReader_shortSelector 123 = .ok (.aload_n 0, 1) := by sorry
theorem d_QueryReader_shortSelector_124 : decode b_QueryReader_shortSelector 124 = .ok (.getfield 9, 3) := by sorry
theorem d_QueryReader_shortSelector_127 : decode b_QueryReader_shortSelector 127 = .ok (.getfield 25, 3) := by sorry
theorem d_QueryReader_shortSelector_130 : decode b_QueryReader_shortSelector 130 = .ok (.iload_n 3, 1) := by sorry
theorem d_QueryReader_shortSelector_131 : decode b_QueryReader_shortSelector 131 = .ok (.isub, 1) := by sorry
theorem d_QueryReader_shortSelector_132 : decode b_QueryReader_shortSelector 132 = .ok (.newarray .int, 2) := by sorry
theorem d_QueryReader_shortSelector_134 : decode b_QueryReader_shortSelector 134 = .ok (.putfield 87, 3) := by sorry
theorem d_QueryReader_shortSelector_137 : decode b_QueryReader_shortSelector 137 = .ok (.iconst 0, 1) := by sorry
theorem d_QueryReader_shortSelector_138 : decode b_QueryReader_shortSelector 138 = .ok (.istore 4, 2) := by sorry
theorem d_QueryReader_shortSelector_140 : decode b_QueryReader_shortSelector 140 = .ok (.iload 4, 2) := by sorry
theorem d_QueryReader_shortSelector_142 : decode b_QueryReader_shortSelector 142 = .ok (.aload_n 2, 1) := by sorry
theorem d_QueryReader_shortSelector_143 : decode b_QueryReader_shortSelector 143 = .ok (.getfield 87, 3) := by sorry
theorem d_QueryReader_shortSelector_146 : decode b_QueryReader_shortSelector 146 = .ok (.arraylength, 1) := by sorry
theorem d_QueryReader_shortSelector_147 : decode b_QueryReader_shortSelector 147 = .ok (.if_icmp .ge 28, 3) := by sorry
theorem d_QueryReader_shortSelector_150 : decode b_QueryReader_shortSelector 150 = .ok (.aload_n 2, 1) := by sorry
theorem d_QueryReader_shortSelector_151 : decode b_QueryReader_shortSelector 151 = .ok (.getfield 87, 3) := by sorry
theorem d_QueryReader_shortSelector_154 : decode b_QueryReader_shortSelector 154 = .ok (.iload 4, 2) := by sorry
theorem d_QueryReader_shortSelector_156 : decode b_QueryReader_shortSelector 156 = .ok (.aload_n 0, 1) := by sorry
theorem d_QueryReader_shortSelector_157 : decode b_QueryReader_shortSelector 157 = .ok (.getfield 9, 3) := by sorry
theorem d_QueryReader_shortSelector_160 : decode b_QueryReader_shortSelector 160 = .ok (.getfield 91, 3) := by sorry
theorem d_QueryReader_shortSelector_163 : decode b_QueryReader_shortSelector 163 = .ok (.iload_n 3, 1) := by sorry
theorem d_QueryReader_shortSelector_164 : decode b_QueryReader_shortSelector 164 = .ok (.iload 4, 2) := by sorry
theorem d_QueryReader_shortSelector_166 : decode b_QueryReader_shortSelector 166 = .ok (.iadd, 1) := by sorry
theorem d_QueryReader_shortSelector_167 : decode b_QueryReader_shortSelector 167 = .ok (.baload, 1) := by sorry
theorem d_QueryReader_shortSelector_168 : decode b_QueryReader_shortSelector 168 = .ok (.iastore, 1) := by sorry
theorem d_QueryReader_shortSelector_169 : decode b_QueryReader_shortSelector 169 = .ok (.iinc 4 1, 3) := by sorry
theorem d_QueryReader_shortSelector_172 : decode b_QueryReader_shortSelector 172 = .ok (.goto (-32), 3) := by sorry
theorem d_QueryReader_shortSelector_175 : decode b_QueryReader_shortSelector 175 = .ok (.aload_n 2, 1) := by sorry
theorem d_QueryReader_shortSelector_176 : decode b_QueryReader_shortSelector 176 = .ok (.areturn, 1) := by sorry
set_option maxHeartbeats 4000000 in
set_option maxRecDepth 100000 in
/-- QueryReader.shortSelector -/
theorem c_QueryReader_shortSelector (l : Launch) (hl9 : l.stackTraces = false) (dC : Nat → ClassId) (dI : Nat → Nat → Nat) (sz : Heap) (cI cV : ClassId) (E lv : Nat → Nat) (L : List Nat) (f : Nat → va_E) (hO : PO cI cV E lv L f) (cB : ClassId) (h0 qb qu : Nat) (uc ln pl : Int32) (bf ug : Nat → Int32) (n i : Nat) (hn0 : n ≤ 4096) (hin : i ≤ n) (qr o : Nat) (nw : Int32) (hbf : byR bf) : vx_Met l y_QueryReader_shortSelector (k_QueryReader_shortSelector :: gtbl) ({ frames := 10, cells := 3, slots := 15 + (n - i), locals := 170 }) (va_Pc [.ref qr, .int nw] (mx dC dI ([(qr, .inr (5, [.ref h0, .int (nI o)])), (h0, .inr (8, [.ref qb, .ref qu, .int uc, .int ln, .int (nI n), .int (nI i), .int pl])), (qb, .inl (cB, 4096, .inl bf)), (qu, .inl (cI, 4096, .inl ug))] ++ va_pl L f) [(cB, .byte), (cI, .int), (cV, .object "QueryBench$Value")] sz)) (va_Qr (fun (u : Nat × Nat × List Nat × (Nat → Nat) × (Nat → va_E)) => QPn cI cV E L f i n sz.size 9 0 0 u.1 u.2.1 u.2.2.1 u.2.2.2.1 u.2.2.2.2 ∧ ∃ m : QT, shD bf n (nwB nw) i = some (u.2.1, sgL (u.2.2.2.2 u.1), [m]) ∧ DNx LD 8 E u.2.2.2.1 u.2.2.2.2 u.1 m) (fun u a9 t9 => mz dC dI ([(qr, .inr (5, [.ref h0, .int (nI o)])), (h0, .inr (8, [.ref qb, .ref qu, .int uc, .int ln, .int (nI n), .int (nI u.2.1), .int pl])), (qb, .inl (cB, 4096, .inl bf)), (qu, .inl (cI, 4096, .inl ug))] ++ va_pl ((L ++ u.2.2.1)) u.2.2.2.2) [(cB, .byte), (cI, .int), (cV, .object "QueryBench$Value")] (va_A ([(qr, .inr (5, [.ref h0, .int (nI o)])), (h0, .inr (8, [.ref qb, .ref qu, .int uc, .int ln, .int (nI n), .int (nI i), .int pl])), (qb, .inl (cB, 4096, .inl bf)), (qu, .inl (cI, 4096, .inl ug))] ++ va_pl L f) sz.size) t9 ∧ szk sz t9.heap (2) (9 + (u.2.1 - i)) ∧ a9 = u.1) (va_A ([(qr, .inr (5, [.ref h0, .int (nI o)])), (h0, .inr (8, [.ref qb, .ref qu, .int uc, .int ln, .int (nI n), .int (nI i), .int pl])), (qb, .inl (cB, 4096, .inl bf)), (qu, .inl (cI, 4096, .inl ug))] ++ va_pl L f) sz.size)) (vx_X (fun (u : Int32 × Int32 × Int32 × (Nat → Int32) × Int32) => shD bf n (nwB nw) i = none) (fun En u t9 => En = UOX ∧ mz dC dI ([(qr, .inr (5, [.ref h0, .int u.2.2.2.2])), (h0, .inr (8, [.ref qb, .ref qu, .int u.2.1, .int ln, .int (nI n), .int u.1, .int u.2.2.1])), (qb, .inl (cB, 4096, .inl bf)), (qu, .inl (cI, 4096, .inl u.2.2.2.1))] ++ va_pl L f) [(cB, .byte), (cI, .int), (cV, .object "QueryBench$Value")] (va_A ([(qr, .inr (5, [.ref h0, .int (nI o)])), (h0, .inr (8, [.ref qb, .ref qu, .int uc, .int ln, .int (nI n), .int (nI i), .int pl])), (qb, .inl (cB, 4096, .inl bf)), (qu, .inl (cI, 4096, .inl ug))] ++ va_pl L f) sz.size) t9) (va_A ([(qr, .inr (5, [.ref h0, .int (nI o)])), (h0, .inr (8, [.ref qb, .ref qu, .int uc, .int ln, .int (nI n), .int (nI i), .int pl])), (qb, .inl (cB, 4096, .inl bf)), (qu, .inl (cI, 4096, .inl ug))] ++ va_pl L f) sz.size)) (3) (15 + (n - i)) (va_A ([(qr, .inr (5, [.ref h0, .int (nI o)])), (h0, .inr (8, [.ref qb, .ref qu, .int uc, .int ln, .int (nI n), .int (nI i), .int pl])), (qb, .inl (cB, 4096, .inl bf)), (qu, .inl (cI, 4096, .inl ug))] ++ va_pl L f) sz.size) := by sorry
end
section
theorem z_594 : (.methodLink "QueryBench$QueryReader" 95 ⟨"QueryBench$QueryReader", "takeOpening", "(I)V"⟩ : Cond) ∈ gtbl := by sorry
theorem z_596 : (.instanceMethod ⟨"QueryBench$QueryReader", "takeOpening", "(I)V"⟩ : Cond) ∈ gtbl := by sorry
theorem z_599 : (.methodLink "QueryBench$QueryReader" 98 ⟨"QueryBench$QueryReader", "selector", "(Z)LQueryBench$Selector;"⟩ : Cond) ∈ gtbl := by sorry
theorem z_601 : (.instanceMethod ⟨"QueryBench$QueryReader", "selector", "(Z)LQueryBench$Selector;"⟩ : Cond) ∈ gtbl := by sorry
theorem z_629 : (.fieldLink "QueryBench$QueryReader" 101 "QueryBench$Selector" "next" "LQueryBench$Selector;" : Cond) ∈ gtbl := by sorry
theorem z_705 : (.methodLink "QueryBench$QueryReader" 104 ⟨"QueryBench$QueryReader", "takeClosing", "(I)V"⟩ : Cond) ∈ gtbl := by sorry
theorem z_707 : (.instanceMethod ⟨"QueryBench$QueryReader", "takeClosing", "(I)V"⟩ : Cond) ∈ gtbl := by sorry
/-- what a method of the reader of queries does -/
def QCT (l : Launch) (K : Nat → Nat × Nat) (dC : Nat → ClassId) (dI : Nat → Nat → Nat) (cI cV : ClassId) (cB : ClassId) (h0 qb qu : Nat) (ln : Int32) (bf : Nat → Int32) (n qr : Nat) (y : MethodName) (W : List Cond) (av : List Value) (o F Lo cc ss ca cm sa sm so bd dm e : Nat) (OK : Nat → Nat → (Nat → Nat) → (Nat → Nat) → (Nat → va_E) → Nat → Prop) (NO : Nat → Prop) : Prop := ∀ (sz : Heap) (E lv : Nat → Nat) (L : List Nat) (f : Nat → va_E) (i : Nat) (uc pl : Int32) (ug : Nat → Int32), PO cI cV E lv L f → i + e ≤ n → vx_Met l y W ({ frames := F, cells := 8 * (n - i) + cc, slots := 64 * (n - i) + ss, locals := Lo }) (va_Pc av (ml K dC dI ([(qr, .inr (5, [.ref h0, .int (nI o)])), (h0, .inr (8, [.ref qb, .ref qu, .int uc, .int ln, .int (nI n), .int (nI i), .int pl])), (qb, .inl (cB, 4096, .inl bf)), (qu, .inl (cI, 4096, .inl ug))] ++ va_pl L f) [(cB, .byte), (cI, .int), (cV, .object "QueryBench$Value")] sz)) (va_Qr (fun (u : Nat × Nat × List Nat × (Nat → Nat) × (Nat → va_E) × Int32 × (Nat → Int32)) => QPn cI cV E L f i n sz.size so bd dm u.1 u.2.1 u.2.2.1 u.2.2.2.1 u.2.2.2.2.1 ∧ OK i u.2.1 E u.2.2.2.1 u.2.2.2.2.1 u.1) (fun u a9 t9 => mz dC dI ([(qr, .inr (5, [.ref h0, .int (nI o)])), (h0, .inr (8, [.ref qb, .ref qu, .int u.2.2.2.2.2.1, .int ln, .int (nI n), .int (nI u.2.1), .int pl])), (qb, .inl (cB, 4096, .inl bf)), (qu, .inl (cI, 4096, .inl u.2.2.2.2.2.2))] ++ va_pl ((L ++ u.2.2.1)) u.2.2.2.2.1) [(cB, .byte), (cI, .int), (cV, .object "QueryBench$Value")] (va_A ([(qr, .inr (5, [.ref h0, .int (nI o)])), (h0, .inr (8, [.ref qb, .ref qu, .int uc, .int ln, .int (nI n), .int (nI i), .int pl])), (qb, .inl (cB, 4096, .inl bf)), (qu, .inl (cI, 4096, .inl ug))] ++ va_pl L f) sz.size) t9 ∧ szk sz t9.heap (8 * (u.2.1 - i) + ca - cm) (64 * (u.2.1 - i) + sa - sm) ∧ a9 = u.1) (va_A ([(qr, .inr (5, [.ref h0, .int (nI o)])), (h0, .inr (8, [.ref qb, .ref qu, .int uc, .int ln, .int (nI n), .int (nI i), .int pl])), (qb, .inl (cB, 4096, .inl bf)), (qu, .inl (cI, 4096, .inl ug))] ++ va_pl L f) sz.size)) (vx_X (fun (u : Int32 × Int32 × Int32 × (Nat → Int32) × Int32) => NO i) (fun En u t9 => En = UOX ∧ mz dC dI ([(qr, .inr (5, [.ref h0, .int u.2.2.2.2])), (h0, .inr (8, [.ref qb, .ref qu, .int u.2.1, .int ln, .int (nI n), .int u.1, .int u.2.2.1])), (qb, .inl (cB, 4096, .inl bf)), (qu, .inl (cI, 4096, .inl u.2.2.2.1))] ++ va_pl L f) [(cB, .byte), (cI, .int), (cV, .object "QueryBench$Value")] (va_A ([(qr, .inr (5, [.ref h0, .int (nI o)])), (h0, .inr (8, [.ref qb, .ref qu, .int uc, .int ln, .int (nI n), .int (nI i), .int pl])), (qb, .inl (cB, 4096, .inl bf)), (qu, .inl (cI, 4096, .inl ug))] ++ va_pl L f) sz.size) t9) (va_A ([(qr, .inr (5, [.ref h0, .int (nI o)])), (h0, .inr (8, [.ref qb, .ref qu, .int uc, .int ln, .int (nI n), .int (nI i), .int pl])), (qb, .inl (cB, 4096, .inl bf)), (qu, .inl (cI, 4096, .inl ug))] ++ va_pl L f) sz.size)) (8 * (n - i) + cc) (64 * (n - i) + ss) (va_A ([(qr, .inr (5, [.ref h0, .int (nI o)])), (h0, .inr (8, [.ref qb, .ref qu, .int uc, .int ln, .int (nI n), .int (nI i), .int pl])), (qb, .inl (cB, 4096, .inl bf)), (qu, .inl (cI, 4096, .inl ug))] ++ va_pl L f) sz.size)
abbrev b_QueryReader_selector : ByteArray := prog_7_method_8_code
def y_QueryReader_selector : MethodName := ⟨"QueryBench$QueryReader", "selector", "(Z)LQueryBench$Selector;"⟩
abbrev k_QueryReader_selector : Cond := .code y_QueryReader_selector b_QueryReader_selector 3 (some (.object "QueryBench$Selector"))
theorem i_QueryReader_selector : k_QueryReader_selector ∈ gtbl := by sorry
theorem d_QueryReader_selector_0 : decode b_QueryReader_selector 0 = .ok (.aload_n 0, 1) := by sorry
theorem d_QueryReader_selector_1 : decode b_QueryReader_selector 1 = .ok (.getfield 9, 3) := by sorry
theorem d_QueryReader_selector_4 : decode b_QueryReader_selector 4 = .ok (.invokevirtual 39, 3) := by sorry
theorem d_QueryReader_selector_7 : decode b_QueryReader_selector 7 = .ok (.new 77, 3) := by sorry
theorem d_QueryReader_selector_10 : decode b_QueryReader_selector 10 = .ok (.dup, 1) := by sorry
theorem d_QueryReader_selector_11 : decode b_QueryReader_selector 11 = .ok (.iconst 2, 1) := by sorry
theorem d_QueryReader_selector_12 : decode b_QueryReader_selector 12 = .ok (.invokespecial 79, 3) := by sorry
theorem d_QueryReader_selector_15 : decode b_QueryReader_selector 15 = .ok (.astore_n 2, 1) := by sorry
theorem d_QueryReader_selector_16 : decode b_QueryReader_selector 16 = .ok (.aload_n 0, 1) := by sorry
theorem d_QueryReader_selector_17 : decode b_QueryReader_selector 17 = .ok (.getfield 9, 3) := by sorry
theorem d_QueryReader_selector_20 : decode b_QueryReader_selector 20 = .ok (.invokevirtual 19, 3) := by sorry
theorem d_QueryReader_selector_23 : decode b_QueryReader_selector 23 = .ok (.invokestatic 107, 3) := by sorry
theorem d_QueryReader_selector_26 : decode b_QueryReader_selector 26 = .ok (.ifCond .eq 22, 3) := by sorry
theorem d_QueryReader_selector_29 : decode b_QueryReader_selector 29 = .ok (.aload_n 2, 1) := by sorry
theorem d_QueryReader_selector_30 : decode b_QueryReader_selector 30 = .ok (.iconst 0, 1) := by sorry
theorem d_QueryReader_selector_31 : decode b_QueryReader_selector 31 = .ok (.putfield 110, 3) := by sorry
theorem d_QueryReader_selector_34 : decode b_QueryReader_selector 34 = .ok (.aload_n 2, 1) := by sorry
theorem d_QueryReader_selector_35 : decode b_QueryReader_selector 35 = .ok (.aload_n 0, 1) := by sorry
theorem d_QueryReader_selector_36 : decode b_QueryReader_selector 36 = .ok (.getfield 9, 3) := by sorry
theorem d_QueryReader_selector_39 : decode b_QueryReader_selector 39 = .ok (.invokevirtual 113, 3) := by sorry
theorem d_QueryReader_selector_42 : decode b_QueryReader_selector 42 = .ok (.putfield 87, 3) := by sorry
theorem d_QueryReader_selector_45 : decode b_QueryReader_selector 45 = .ok (.goto 124, 3) := by sorry
theorem d_QueryReader_selector_48 : decode b_QueryReader_selector 48 = .ok (.iload_n 1, 1) := by sorry
theorem d_QueryReader_selector_49 : decode b_QueryReader_selector 49 = .ok (.ifCond .ne 23, 3) := by sorry
theorem d_QueryReader_selector_52 : decode b_QueryReader_selector 52 = .ok (.aload_n 0, 1) := by sorry
theorem d_QueryReader_selector_53 : decode b_QueryReader_selector 53 = .ok (.getfield 9, 3) := by sorry
theorem d_QueryReader_selector_56 : decode b_QueryReader_selector 56 = .ok (.bipush 42, 2) := by sorry
theorem d_QueryReader_selector_58 : decode b_QueryReader_selector 58 = .ok (.invokevirtual 58, 3) := by sorry
theorem d_QueryReader_selector_61 : decode b_QueryReader_selector 61 = .ok (.ifCond .eq 11, 3) := by sorry
theorem d_QueryReader_selector_64 : decode b_QueryReader_selector 64 = .ok (.aload_n 2, 1) := by sorry
theorem d_QueryReader_selector_65 : decode b_QueryReader_selector 65 = .ok (.iconst 1, 1) := by sorry
theorem d_QueryReader_selector_66 : decode b_QueryReader_selector 66 = .ok (.putfield 110, 3) := by sorry
theorem d_QueryReader_selector_69 : decode b_QueryReader_selector 69 = .ok (.goto 100, 3) := by sorry
theorem d_QueryReader_selector_72 : decode b_QueryReader_selector 72 = .ok (.iload_n 1, 1) := by sorry
theorem d_QueryReader_selector_73 : decode b_QueryReader_selector 73 = .ok (.ifCond .ne 31, 3) := by sorry
theorem d_QueryReader_selector_76 : decode b_QueryReader_selector 76 = .ok (.aload_n 0, 1) := by sorry
theorem d_QueryReader_selector_77 : decode b_QueryReader_selector 77 = .ok (.getfield 9, 3) := by sorry
theorem d_QueryReader_selector_80 : decode b_QueryReader_selector 80 = .ok (.bipush 63, 2) := by sorry
theorem d_QueryReader_selector_82 : decode b_QueryReader_selector 82 = .ok (.invokevirtual 58, 3) := by sorry
theorem d_QueryReader_selector_85 : decode b_QueryReader_selector 85 = .ok (.ifCond .eq 19, 3) := by sorry
theorem d_QueryReader_selector_88 : decode b_QueryReader_selector 88 = .ok (.aload_n 2, 1) := by sorry
theorem d_QueryReader_selector_89 : decode b_QueryReader_selector 89 = .ok (.iconst 4, 1) := by sorry
theorem d_QueryReader_selector_90 : decode b_QueryReader_selector 90 = .ok (.putfield 110, 3) := by sorry
theorem d_QueryReader_selector_93 : decode b_QueryReader_selector 93 = .ok (.aload_n 2, 1) := by sorry
theorem d_QueryReader_selector_94 : decode b_QueryReader_selector 94 = .ok (.aload_n 0, 1) := by sorry
theorem d_QueryReader_selector_95 : decode b_QueryReader_selector 95 = .ok (.invokevirtual 117, 3) := by sorry
theorem d_QueryReader_selector_98 : decode b_QueryReader_selector 98 = .ok (.putfield 121, 3) := by sorry
theorem d_QueryReader_selector_101 : decode b_QueryReader_selector 101 = .ok (.goto 68, 3) := by sorry
theorem d_QueryReader_selector_104 : decode b_QueryReader_selector 104 = .ok (.iload_n 1, 1) := by sorry
theorem d_QueryReader_selector_105 : decode b_QueryReader_selector 105 = .ok (.ifCond .ne 23, 3) := by sorry
theorem d_QueryReader_selector_108 : decode b_QueryReader_selector 108 = .ok (.aload_n 0, 1) := by sorry
theorem d_QueryReader_selector_109 : decode b_QueryReader_selector 109 = .ok (.getfield 9, 3) := by sorry
theorem d_QueryReader_selector_112 : decode b_QueryReader_selector 112 = .ok (.invokevirtual 19, 3) := by sorry
theorem d_QueryReader_selector_115 : decode b_QueryReader_selector 115 = .ok (.bipush 58, 2) := by sorry
theorem d_QueryReader_selector_117 : decode b_QueryReader_selector 117 = .ok (.if_icmp .ne 11, 3) := by sorry
theorem d_QueryReader_selector_120 : decode b_QueryReader_selector 120 = .ok (.aload_n 0, 1) := by sorry
theorem d_QueryReader_selector_121 : decode b_QueryReader_selector 121 = .ok (.aload_n 2, 1) := by sorry
theorem d_QueryReader_selector_122 : decode b_QueryReader_selector 122 = .ok (.invokevirtual 125, 3) := by sorry
theorem d_QueryReader_selector_125 : decode b_QueryReader_selector 125 = .ok (.goto 44, 3) := by sorry
theorem d_QueryReader_selector_128 : decode b_QueryReader_selector 128 = .ok (.aload_n 2, 1) := by sorry
theorem d_QueryReader_selector_129 : decode b_QueryReader_selector 129 = .ok (.aload_n 0, 1) := by sorry
theorem d_QueryReader_selector_130 : decode b_QueryReader_selector 130 = .ok (.invokevirtual 129, 3) := by sorry
theorem d_QueryReader_selector_133 : decode b_QueryReader_selector 133 = .ok (.putfield 133, 3) := by sorry
theorem d_QueryReader_selector_136 : decode b_QueryReader_selector 136 = .ok (.aload_n 2, 1) := by sorry
theorem d_QueryReader_selector_137 : decode b_QueryReader_selector 137 = .ok (.iconst 1, 1) := by sorry
theorem d_QueryReader_selector_138 : decode b_QueryReader_selector 138 = .ok (.putfield 137, 3) := by sorry
theorem d_QueryReader_selector_141 : decode b_QueryReader_selector 141 = .ok (.aload_n 0, 1) := by sorry
theorem d_QueryReader_selector_142 : decode b_QueryReader_selector 142 = .ok (.getfield 9, 3) := by sorry
theorem d_QueryReader_selector_145 : decode b_QueryReader_selector 145 = .ok (.invokevirtual 39, 3) := by sorry
theorem d_QueryReader_selector_148 : decode b_QueryReader_selector 148 = .ok (.iload_n 1, 1) := by sorry
theorem d_QueryReader_selector_149 : decode b_QueryReader_selector 149 = .ok (.ifCond .ne 20, 3) := by sorry
theorem d_QueryReader_selector_152 : decode b_QueryReader_selector 152 = .ok (.aload_n 0, 1) := by sorry
theorem d_QueryReader_selector_153 : decode b_QueryReader_selector 153 = .ok (.getfield 9, 3) := by sorry
theorem d_QueryReader_selector_156 : decode b_QueryReader_selector 156 = .ok (.invokevirtual 19, 3) := by sorry
theorem d_QueryReader_selector_159 : decode b_QueryReader_selector 159 = .ok (.bipush 58, 2) := by sorry
theorem d_QueryReader_selector_161 : decode b_QueryReader_selector 161 = .ok (.if_icmp .ne 8, 3) := by sorry
theorem d_QueryReader_selector_164 : decode b_QueryReader_selector 164 = .ok (.aload_n 0, 1) := by sorry
theorem d_QueryReader_selector_165 : decode b_QueryReader_selector 165 = .ok (.aload_n 2, 1) := by sorry
theorem d_QueryReader_selector_166 : decode b_QueryReader_selector 166 = .ok (.invokevirtual 125, 3) := by sorry
theorem d_QueryReader_selector_169 : decode b_QueryReader_selector 169 = .ok (.aload_n 0, 1) := by sorry
theorem d_QueryReader_selector_170 : decode b_QueryReader_selector 170 = .ok (.getfield 9, 3) := by sorry
theorem d_QueryReader_selector_173 : decode b_QueryReader_selector 173 = .ok (.invokevirtual 39, 3) := by sorry
theorem d_QueryReader_selector_176 : decode b_QueryReader_selector 176 = .ok (.aload_n 2, 1) := by sorry
theorem d_QueryReader_selector_177 : decode b_QueryReader_selector 177 = .ok (.areturn, 1) := by sorry
abbrev b_QueryReader_selectors : ByteArray := prog_7_method_7_code
def y_QueryReader_selectors : MethodName := ⟨"QueryBench$QueryReader", "selectors", "(Z)LQueryBench$Selector;"⟩
abbrev k_QueryReader_selectors : Cond := .code y_QueryReader_selectors b_QueryReader_selectors 5 (some (.object "QueryBench$Selector"))
theorem i_QueryReader_selectors : k_QueryReader_selectors ∈ gtbl := by sorry
theorem d_QueryReader_selectors_0 : decode b_QueryReader_selectors 0 = .ok (.aload_n 0, 1) := by sorry
theorem d_QueryReader_selectors_1 : decode b_QueryReader_selectors 1 = .ok (.bipush 91, 2) := by sorry
theorem d_QueryReader_selectors_3 : decode b_QueryReader_selectors 3 = .ok (.invokevirtual 95, 3) := by sorry
theorem d_QueryReader_selectors_6 : decode b_QueryReader_selectors 6 = .ok (.aload_n 0, 1) := by sorry
theorem d_QueryReader_selectors_7 : decode b_QueryReader_selectors 7 = .ok (.iload_n 1, 1) := by sorry
theorem d_QueryReader_selectors_8 : decode b_QueryReader_selectors 8 = .ok (.invokevirtual 98, 3) := by sorry
theorem d_QueryReader_selectors_11 : decode b_QueryReader_selectors 11 = .ok (.astore_n 2, 1) := by sorry
theorem d_QueryReader_selectors_12 : decode b_QueryReader_selectors 12 = .ok (.aload_n 2, 1) := by sorry
theorem d_QueryReader_selectors_13 : decode b_QueryReader_selectors 13 = .ok (.astore_n 3, 1) := by sorry
theorem d_QueryReader_selectors_14 : decode b_QueryReader_selectors 14 = .ok (.iconst 0, 1) := by sorry
theorem d_QueryReader_selectors_15 : decode b_QueryReader_selectors 15 = .ok (.istore 4, 2) := by sorry
theorem d_QueryReader_selectors_17 : decode b_QueryReader_selectors 17 = .ok (.iload 4, 2) := by sorry
theorem d_QueryReader_selectors_19 : decode b_QueryReader_selectors 19 = .ok (.sipush 4096, 3) := by sorry
theorem d_QueryReader_selectors_22 : decode b_QueryReader_selectors 22 = .ok (.if_icmp .ge 39, 3) := by sorry
theorem d_QueryReader_selectors_25 : decode b_QueryReader_selectors 25 = .ok (.iload_n 1, 1) := by sorry
theorem d_QueryReader_selectors_26 : decode b_QueryReader_selectors 26 = .ok (.ifCond .ne 35, 3) := by sorry
theorem d_QueryReader_selectors_29 : decode b_QueryReader_selectors 29 = .ok (.aload_n 0, 1) := by sorry
theorem d_QueryReader_selectors_30 : decode b_QueryReader_selectors 30 = .ok (.getfield 9, 3) := by sorry
theorem d_QueryReader_selectors_33 : decode b_QueryReader_selectors 33 = .ok (.bipush 44, 2) := by sorry
theorem d_QueryReader_selectors_35 : decode b_QueryReader_selectors 35 = .ok (.invokevirtual 58, 3) := by sorry
theorem d_QueryReader_selectors_38 : decode b_QueryReader_selectors 38 = .ok (.ifCond .eq 23, 3) := by sorry
theorem d_QueryReader_selectors_41 : decode b_QueryReader_selectors 41 = .ok (.aload_n 3, 1) := by sorry
theorem d_QueryReader_selectors_42 : decode b_QueryReader_selectors 42 = .ok (.aload_n 0, 1) := by sorry
theorem d_QueryReader_selectors_43 : decode b_QueryReader_selectors 43 = .ok (.iload_n 1, 1) := by sorry
theorem d_QueryReader_selectors_44 : decode b_QueryReader_selectors 44 = .ok (.invokevirtual 98, 3) := by sorry
theorem d_QueryReader_selectors_47 : decode b_QueryReader_selectors 47 = .ok (.putfield 101, 3) := by sorry
theorem d_QueryReader_selectors_50 : decode b_QueryReader_selectors 50 = .ok (.aload_n 3, 1) := by sorry
theorem d_QueryReader_selectors_51 : decode b_QueryReader_selectors 51 = .ok (.getfield 101, 3) := by sorry
theorem d_QueryReader_selectors_54 : decode b_QueryReader_selectors 54 = .ok (.astore_n 3, 1) := by sorry
theorem d_QueryReader_selectors_55 : decode b_QueryReader_selectors 55 = .ok (.iinc 4 1, 3) := by sorry
theorem d_QueryReader_selectors_58 : decode b_QueryReader_selectors 58 = .ok (.goto (-41), 3) := by sorry
theorem d_QueryReader_selectors_61 : decode b_QueryReader_selectors 61 = .ok (.aload_n 0, 1) := by sorry
theorem d_QueryReader_selectors_62 : decode b_QueryReader_selectors 62 = .ok (.bipush 93, 2) := by sorry
theorem d_QueryReader_selectors_64 : decode b_QueryReader_selectors 64 = .ok (.invokevirtual 104, 3) := by sorry
theorem d_QueryReader_selectors_67 : decode b_QueryReader_selectors 67 = .ok (.aload_n 2, 1) := by sorry
theorem d_QueryReader_selectors_68 : decode b_QueryReader_selectors 68 = .ok (.areturn, 1) := by sorry
abbrev b_QueryReader_segment : ByteArray := prog_7_method_4_code
def y_QueryReader_segment : MethodName := ⟨"QueryBench$QueryReader", "segment", "(Z)LQueryBench$Segment;"⟩
abbrev k_QueryReader_segment : Cond := .code y_QueryReader_segment b_QueryReader_segment 5 (some (.object "QueryBench$Segment"))
theorem i_QueryReader_segment : k_QueryReader_segment ∈ gtbl := by sorry
theorem d_QueryReader_segment_0 : decode b_QueryReader_segment 0 = .ok (.new 55, 3) := by sorry
theorem d_QueryReader_segment_3 : decode b_QueryReader_segment 3 = .ok (.dup, 1) := by sorry
theorem d_QueryReader_segment_4 : decode b_QueryReader_segment 4 = .ok (.invokespecial 57, 3) := by sorry
theorem d_QueryReader_segment_7 : decode b_QueryReader_segment 7 = .ok (.astore_n 2, 1) := by sorry
theorem d_QueryReader_segment_8 : decode b_QueryReader_segment 8 = .ok (.aload_n 0, 1) := by sorry
theorem d_QueryReader_segment_9 : decode b_QueryReader_segment 9 = .ok (.getfield 9, 3) := by sorry
theorem d_QueryReader_segment_12 : decode b_QueryReader_segment 12 = .ok (.bipush 46, 2) := by sorry
theorem d_QueryReader_segment_14 : decode b_QueryReader_segment 14 = .ok (.invokevirtual 58, 3) := by sorry
theorem d_QueryReader_segment_17 : decode b_QueryReader_segment 17 = .ok (.istore_n 3, 1) := by sorry
theorem d_QueryReader_segment_18 : decode b_QueryReader_segment 18 = .ok (.aload_n 2, 1) := by sorry
theorem d_QueryReader_segment_19 : decode b_QueryReader_segment 19 = .ok (.iload_n 3, 1) := by sorry
theorem d_QueryReader_segment_20 : decode b_QueryReader_segment 20 = .ok (.ifCond .eq 23, 3) := by sorry
theorem d_QueryReader_segment_23 : decode b_QueryReader_segment 23 = .ok (.iload_n 1, 1) := by sorry
theorem d_QueryReader_segment_24 : decode b_QueryReader_segment 24 = .ok (.ifCond .ne 19, 3) := by sorry
theorem d_QueryReader_segment_27 : decode b_QueryReader_segment 27 = .ok (.aload_n 0, 1) := by sorry
theorem d_QueryReader_segment_28 : decode b_QueryReader_segment 28 = .ok (.getfield 9, 3) := by sorry
theorem d_QueryReader_segment_31 : decode b_QueryReader_segment 31 = .ok (.bipush 46, 2) := by sorry
theorem d_QueryReader_segment_33 : decode b_QueryReader_segment 33 = .ok (.invokevirtual 58, 3) := by sorry
theorem d_QueryReader_segment_36 : decode b_QueryReader_segment 36 = .ok (.ifCond .eq 7, 3) := by sorry
theorem d_QueryReader_segment_39 : decode b_QueryReader_segment 39 = .ok (.iconst 1, 1) := by sorry
theorem d_QueryReader_segment_40 : decode b_QueryReader_segment 40 = .ok (.goto 4, 3) := by sorry
theorem d_QueryReader_segment_43 : decode b_QueryReader_segment 43 = .ok (.iconst 0, 1) := by sorry
theorem d_QueryReader_segment_44 : decode b_QueryReader_segment 44 = .ok (.putfield 62, 3) := by sorry
theorem d_QueryReader_segment_47 : decode b_QueryReader_segment 47 = .ok (.iload_n 3, 1) := by sorry
theorem d_QueryReader_segment_48 : decode b_QueryReader_segment 48 = .ok (.ifCond .eq 22, 3) := by sorry
theorem d_QueryReader_segment_51 : decode b_QueryReader_segment 51 = .ok (.aload_n 2, 1) := by sorry
theorem d_QueryReader_segment_52 : decode b_QueryReader_segment 52 = .ok (.getfield 62, 3) := by sorry
theorem d_QueryReader_segment_55 : decode b_QueryReader_segment 55 = .ok (.ifCond .eq 19, 3) := by sorry
theorem d_QueryReader_segment_58 : decode b_QueryReader_segment 58 = .ok (.aload_n 0, 1) := by sorry
theorem d_QueryReader_segment_59 : decode b_QueryReader_segment 59 = .ok (.getfield 9, 3) := by sorry
theorem d_QueryReader_segment_62 : decode b_QueryReader_segment 62 = .ok (.invokevirtual 19, 3) := by sorry
theorem d_QueryReader_segment_65 : decode b_QueryReader_segment 65 = .ok (.bipush 91, 2) := by sorry
theorem d_QueryReader_segment_67 : decode b_QueryReader_segment 67 = .ok (.if_icmp .ne 7, 3) := by sorry
theorem d_QueryReader_segment_70 : decode b_QueryReader_segment 70 = .ok (.iconst 1, 1) := by sorry
theorem d_QueryReader_segment_71 : decode b_QueryReader_segment 71 = .ok (.goto 4, 3) := by sorry
theorem d_QueryReader_segment_74 : decode b_QueryReader_segment 74 = .ok (.iconst 0, 1) := by sorry
theorem d_QueryReader_segment_75 : decode b_QueryReader_segment 75 = .ok (.istore 4, 2) := by sorry
theorem d_QueryReader_segment_77 : decode b_QueryReader_segment 77 = .ok (.aload_n 2, 1) := by sorry
theorem d_QueryReader_segment_78 : decode b_QueryReader_segment 78 = .ok (.iload 4, 2) := by sorry
theorem d_QueryReader_segment_80 : decode b_QueryReader_segment 80 = .ok (.ifCond .eq 11, 3) := by sorry
theorem d_QueryReader_segment_83 : decode b_QueryReader_segment 83 = .ok (.aload_n 0, 1) := by sorry
theorem d_QueryReader_segment_84 : decode b_QueryReader_segment 84 = .ok (.iload_n 1, 1) := by sorry
theorem d_QueryReader_segment_85 : decode b_QueryReader_segment 85 = .ok (.invokevirtual 66, 3) := by sorry
theorem d_QueryReader_segment_88 : decode b_QueryReader_segment 88 = .ok (.goto 8, 3) := by sorry
theorem d_QueryReader_segment_91 : decode b_QueryReader_segment 91 = .ok (.aload_n 0, 1) := by sorry
theorem d_QueryReader_segment_92 : decode b_QueryReader_segment 92 = .ok (.iload_n 1, 1) := by sorry
theorem d_QueryReader_segment_93 : decode b_QueryReader_segment 93 = .ok (.invokevirtual 70, 3) := by sorry
theorem d_QueryReader_segment_96 : decode b_QueryReader_segment 96 = .ok (.putfield 73, 3) := by sorry
theorem d_QueryReader_segment_99 : decode b_QueryReader_segment 99 = .ok (.aload_n 2, 1) := by sorry
theorem d_QueryReader_segment_100 : decode b_QueryReader_segment 100 = .ok (.areturn, 1) := by sorry
abbrev b_QueryReader_query : ByteArray := prog_7_method_3_code
def y_QueryReader_query : MethodName := ⟨"QueryBench$QueryReader", "query", "(Z)LQueryBench$Query;"⟩
abbrev k_QueryReader_query : Cond := .code y_QueryReader_query b_QueryReader_query 5 (some (.object "QueryBench$Query"))
theorem i_QueryReader_query : k_QueryReader_query ∈ gtbl := by sorry
theorem d_QueryReader_query_0 : decode b_QueryReader_query 0 = .ok (.new 42, 3) := by sorry
theorem d_QueryReader_query_3 : decode b_QueryReader_query 3 = .ok (.dup, 1) := by sorry
theorem d_QueryReader_query_4 : decode b_QueryReader_query 4 = .ok (.aload_n 0, 1) := by sorry
theorem d_QueryReader_query_5 : decode b_QueryReader_query 5 = .ok (.getfield 9, 3) := by sorry
theorem d_QueryReader_query_8 : decode b_QueryReader_query 8 = .ok (.invokevirtual 19, 3) := by sorry
theorem d_QueryReader_query_11 : decode b_QueryReader_query 11 = .ok (.bipush 36, 2) := by sorry
theorem d_QueryReader_query_13 : decode b_QueryReader_query 13 = .ok (.if_icmp .ne 7, 3) := by sorry
theorem d_QueryReader_query_16 : decode b_QueryReader_query 16 = .ok (.iconst 1, 1) := by sorry
theorem d_QueryReader_query_17 : decode b_QueryReader_query 17 = .ok (.goto 4, 3) := by sorry
theorem d_QueryReader_query_20 : decode b_QueryReader_query 20 = .ok (.iconst 0, 1) := by sorry
theorem d_QueryReader_query_21 : decode b_QueryReader_query 21 = .ok (.invokespecial 44, 3) := by sorry
theorem d_QueryReader_query_24 : decode b_QueryReader_query 24 = .ok (.astore_n 2, 1) := by sorry
theorem d_QueryReader_query_25 : decode b_QueryReader_query 25 = .ok (.aload_n 0, 1) := by sorry
theorem d_QueryReader_query_26 : decode b_QueryReader_query 26 = .ok (.getfield 9, 3) := by sorry
theorem d_QueryReader_query_29 : decode b_QueryReader_query 29 = .ok (.dup, 1) := by sorry
theorem d_QueryReader_query_30 : decode b_QueryReader_query 30 = .ok (.getfield 25, 3) := by sorry
theorem d_QueryReader_query_33 : decode b_QueryReader_query 33 = .ok (.iconst 1, 1) := by sorry
theorem d_QueryReader_query_34 : decode b_QueryReader_query 34 = .ok (.iadd, 1) := by sorry
theorem d_QueryReader_query_35 : decode b_QueryReader_query 35 = .ok (.putfield 25, 3) := by sorry
theorem d_QueryReader_query_38 : decode b_QueryReader_query 38 = .ok (.iconst 0, 1) := by sorry
theorem d_QueryReader_query_39 : decode b_QueryReader_query 39 = .ok (.istore_n 3, 1) := by sorry
theorem d_QueryReader_query_40 : decode b_QueryReader_query 40 = .ok (.iload_n 3, 1) := by sorry
theorem d_QueryReader_query_41 : decode b_QueryReader_query 41 = .ok (.sipush 4096, 3) := by sorry
theorem d_QueryReader_query_44 : decode b_QueryReader_query 44 = .ok (.if_icmp .ge 69, 3) := by sorry
theorem d_QueryReader_query_47 : decode b_QueryReader_query 47 = .ok (.aload_n 0, 1) := by sorry
theorem d_QueryReader_query_48 : decode b_QueryReader_query 48 = .ok (.getfield 9, 3) := by sorry
theorem d_QueryReader_query_51 : decode b_QueryReader_query 51 = .ok (.getfield 25, 3) := by sorry
theorem d_QueryReader_query_54 : decode b_QueryReader_query 54 = .ok (.istore 4, 2) := by sorry
theorem d_QueryReader_query_56 : decode b_QueryReader_query 56 = .ok (.aload_n 0, 1) := by sorry
theorem d_QueryReader_query_57 : decode b_QueryReader_query 57 = .ok (.getfield 9, 3) := by sorry
theorem d_QueryReader_query_60 : decode b_QueryReader_query 60 = .ok (.invokevirtual 39, 3) := by sorry
theorem d_QueryReader_query_63 : decode b_QueryReader_query 63 = .ok (.aload_n 0, 1) := by sorry
theorem d_QueryReader_query_64 : decode b_QueryReader_query 64 = .ok (.getfield 9, 3) := by sorry
theorem d_QueryReader_query_67 : decode b_QueryReader_query 67 = .ok (.invokevirtual 19, 3) := by sorry
theorem d_QueryReader_query_70 : decode b_QueryReader_query 70 = .ok (.bipush 46, 2) := by sorry
theorem d_QueryReader_query_72 : decode b_QueryReader_query 72 = .ok (.if_icmp .eq 26, 3) := by sorry
theorem d_QueryReader_query_75 : decode b_QueryReader_query 75 = .ok (.aload_n 0, 1) := by sorry
theorem d_QueryReader_query_76 : decode b_QueryReader_query 76 = .ok (.getfield 9, 3) := by sorry
theorem d_QueryReader_query_79 : decode b_QueryReader_query 79 = .ok (.invokevirtual 19, 3) := by sorry
theorem d_QueryReader_query_82 : decode b_QueryReader_query 82 = .ok (.bipush 91, 2) := by sorry
theorem d_QueryReader_query_84 : decode b_QueryReader_query 84 = .ok (.if_icmp .eq 14, 3) := by sorry
theorem d_QueryReader_query_87 : decode b_QueryReader_query 87 = .ok (.aload_n 0, 1) := by sorry
theorem d_QueryReader_query_88 : decode b_QueryReader_query 88 = .ok (.getfield 9, 3) := by sorry
theorem d_QueryReader_query_91 : decode b_QueryReader_query 91 = .ok (.iload 4, 2) := by sorry
theorem d_QueryReader_query_93 : decode b_QueryReader_query 93 = .ok (.putfield 25, 3) := by sorry
theorem d_QueryReader_query_96 : decode b_QueryReader_query 96 = .ok (.aload_n 2, 1) := by sorry
theorem d_QueryReader_query_97 : decode b_QueryReader_query 97 = .ok (.areturn, 1) := by sorry
theorem d_QueryReader_query_98 : decode b_QueryReader_query 98 = .ok (.aload_n 2, 1) := by sorry
theorem d_QueryReader_query_99 : decode b_QueryReader_query 99 = .ok (.aload_n 0, 1) := by sorry
theorem d_QueryReader_query_100 : decode b_QueryReader_query 100 = .ok (.iload_n 1, 1) := by sorry
theorem d_QueryReader_query_101 : decode b_QueryReader_query 101 = .ok (.invokevirtual 47, 3) := by sorry
theorem d_QueryReader_query_104 : decode b_QueryReader_query 104 = .ok (.invokevirtual 51, 3) := by sorry
theorem d_QueryReader_query_107 : decode b_QueryReader_query 107 = .ok (.iinc 3 1, 3) := by sorry
theorem d_QueryReader_query_110 : decode b_QueryReader_query 110 = .ok (.goto (-70), 3) := by sorry
abbrev b_QueryReader_anyQuery : ByteArray := prog_7_method_16_code
def y_QueryReader_anyQuery : MethodName := ⟨"QueryBench$QueryReader", "anyQuery", "()LQueryBench$Query;"⟩
abbrev k_QueryReader_anyQuery : Cond := .code y_QueryReader_anyQuery b_QueryReader_anyQuery 1 (some (.object "QueryBench$Query"))
theorem i_QueryReader_anyQuery : k_QueryReader_anyQuery ∈ gtbl := by sorry
theorem d_QueryReader_anyQuery_0 : decode b_QueryReader_anyQuery 0 = .ok (.aload_n 0, 1) := by sorry
theorem d_QueryReader_anyQuery_1 : decode b_QueryReader_anyQuery 1 = .ok (.getfield 9, 3) := by sorry
theorem d_QueryReader_anyQuery_4 : decode b_QueryReader_anyQuery 4 = .ok (.invokevirtual 19, 3) := by sorry
theorem d_QueryReader_anyQuery_7 : decode b_QueryReader_anyQuery 7 = .ok (.invokestatic 178, 3) := by sorry
theorem d_QueryReader_anyQuery_10 : decode b_QueryReader_anyQuery 10 = .ok (.ifCond .ne 17, 3) := by sorry
theorem d_QueryReader_anyQuery_13 : decode b_QueryReader_anyQuery 13 = .ok (.aload_n 0, 1) := by sorry
theorem d_QueryReader_anyQuery_14 : decode b_QueryReader_anyQuery 14 = .ok (.getfield 9, 3) := by sorry
theorem d_QueryReader_anyQuery_17 : decode b_QueryReader_anyQuery 17 = .ok (.aload_n 0, 1) := by sorry
theorem d_QueryReader_anyQuery_18 : decode b_QueryReader_anyQuery 18 = .ok (.getfield 9, 3) := by sorry
theorem d_QueryReader_anyQuery_21 : decode b_QueryReader_anyQuery 21 = .ok (.getfield 25, 3) := by sorry
theorem d_QueryReader_anyQuery_24 : decode b_QueryReader_anyQuery 24 = .ok (.invokevirtual 28, 3) := by sorry
theorem d_QueryReader_anyQuery_27 : decode b_QueryReader_anyQuery 27 = .ok (.aload_n 0, 1) := by sorry
theorem d_QueryReader_anyQuery_28 : decode b_QueryReader_anyQuery 28 = .ok (.iconst 0, 1) := by sorry
theorem d_QueryReader_anyQuery_29 : decode b_QueryReader_anyQuery 29 = .ok (.invokevirtual 32, 3) := by sorry
theorem d_QueryReader_anyQuery_32 : decode b_QueryReader_anyQuery 32 = .ok (.areturn, 1) := by sorry
abbrev b_QueryReader_written : ByteArray := prog_7_method_23_code
def y_QueryReader_written : MethodName := ⟨"QueryBench$QueryReader", "written", "()LQueryBench$Value;"⟩
abbrev k_QueryReader_written : Cond := .code y_QueryReader_written b_QueryReader_written 3 (some (.object "QueryBench$Value"))
theorem i_QueryReader_written : k_QueryReader_written ∈ gtbl := by sorry
theorem d_QueryReader_written_0 : decode b_QueryReader_written 0 = .ok (.aload_n 0, 1) := by sorry
theorem d_QueryReader_written_1 : decode b_QueryReader_written 1 = .ok (.getfield 9, 3) := by sorry
theorem d_QueryReader_written_4 : decode b_QueryReader_written 4 = .ok (.invokevirtual 19, 3) := by sorry
theorem d_QueryReader_written_7 : decode b_QueryReader_written 7 = .ok (.istore_n 1, 1) := by sorry
theorem d_QueryReader_written_8 : decode b_QueryReader_written 8 = .ok (.iload_n 1, 1) := by sorry
theorem d_QueryReader_written_9 : decode b_QueryReader_written 9 = .ok (.bipush 116, 2) := by sorry
theorem d_QueryReader_written_11 : decode b_QueryReader_written 11 = .ok (.if_icmp .ne 21, 3) := by sorry
theorem d_QueryReader_written_14 : decode b_QueryReader_written 14 = .ok (.aload_n 0, 1) := by sorry
theorem d_QueryReader_written_15 : decode b_QueryReader_written 15 = .ok (.getfield 9, 3) := by sorry
theorem d_QueryReader_written_18 : decode b_QueryReader_written 18 = .ok (.ldc 245, 2) := by sorry
theorem d_QueryReader_written_20 : decode b_QueryReader_written 20 = .ok (.invokevirtual 238, 3) := by sorry
theorem d_QueryReader_written_23 : decode b_QueryReader_written 23 = .ok (.new 223, 3) := by sorry
theorem d_QueryReader_written_26 : decode b_QueryReader_written 26 = .ok (.dup, 1) := by sorry
theorem d_QueryReader_written_27 : decode b_QueryReader_written 27 = .ok (.iconst 2, 1) := by sorry
theorem d_QueryReader_written_28 : decode b_QueryReader_written 28 = .ok (.invokespecial 225, 3) := by sorry
theorem d_QueryReader_written_31 : decode b_QueryReader_written 31 = .ok (.areturn, 1) := by sorry
theorem d_QueryReader_written_32 : decode b_QueryReader_written 32 = .ok (.iload_n 1, 1) := by sorry
theorem d_QueryReader_written_33 : decode b_QueryReader_written 33 = .ok (.bipush 102, 2) := by sorry
theorem d_QueryReader_written_35 : decode b_QueryReader_written 35 = .ok (.if_icmp .ne 21, 3) := by sorry
theorem d_QueryReader_written_38 : decode b_QueryReader_written 38 = .ok (.aload_n 0, 1) := by sorry
theorem d_QueryReader_written_39 : decode b_QueryReader_written 39 = .ok (.getfield 9, 3) := by sorry
theorem d_QueryReader_written_42 : decode b_QueryReader_written 42 = .ok (.ldc 247, 2) := by sorry
theorem d_QueryReader_written_44 : decode b_QueryReader_written 44 = .ok (.invokevirtual 238, 3) := by sorry
theorem d_QueryReader_written_47 : decode b_QueryReader_written 47 = .ok (.new 223, 3) := by sorry
theorem d_QueryReader_written_50 : decode b_QueryReader_written 50 = .ok (.dup, 1) := by sorry
theorem d_QueryReader_written_51 : decode b_QueryReader_written 51 = .ok (.iconst 1, 1) := by sorry
theorem d_QueryReader_written_52 : decode b_QueryReader_written 52 = .ok (.invokespecial 225, 3) := by sorry
theorem d_QueryReader_written_55 : decode b_QueryReader_written 55 = .ok (.areturn, 1) := by sorry
theorem d_QueryReader_written_56 : decode b_QueryReader_written 56 = .ok (.iload_n 1, 1) := by sorry
theorem d_QueryReader_written_57 : decode b_QueryReader_written 57 = .ok (.bipush 110, 2) := by sorry
theorem d_QueryReader_written_59 : decode b_QueryReader_written 59 = .ok (.if_icmp .ne 21, 3) := by sorry
theorem d_QueryReader_written_62 : decode b_QueryReader_written 62 = .ok (.aload_n 0, 1) := by sorry
theorem d_QueryReader_written_63 : decode b_QueryReader_written 63 = .ok (.getfield 9, 3) := by sorry
theorem d_QueryReader_written_66 : decode b_QueryReader_written 66 = .ok (.ldc 249, 2) := by sorry
theorem d_QueryReader_written_68 : decode b_QueryReader_written 68 = .ok (.invokevirtual 238, 3) := by sorry
theorem d_QueryReader_written_71 : decode b_QueryReader_written 71 = .ok (.new 223, 3) := by sorry
theorem d_QueryReader_written_74 : decode b_QueryReader_written 74 = .ok (.dup, 1) := by sorry
theorem d_QueryReader_written_75 : decode b_QueryReader_written 75 = .ok (.iconst 0, 1) := by sorry
theorem d_QueryReader_written_76 : decode b_QueryReader_written 76 = .ok (.invokespecial 225, 3) := by sorry
theorem d_QueryReader_written_79 : decode b_QueryReader_written 79 = .ok (.areturn, 1) := by sorry
theorem d_QueryReader_written_80 : decode b_QueryReader_written 80 = .ok (.iload_n 1, 1) := by sorry
theorem d_QueryReader_written_81 : decode b_QueryReader_written 81 = .ok (.invokestatic 107, 3) := by sorry
theorem d_QueryReader_written_84 : decode b_QueryReader_written 84 = .ok (.ifCond .eq 25, 3) := by sorry
theorem d_QueryReader_written_87 : decode b_QueryReader_written 87 = .ok (.new 223, 3) := by sorry
theorem d_QueryReader_written_90 : decode b_QueryReader_written 90 = .ok (.dup, 1) := by sorry
theorem d_QueryReader_written_91 : decode b_QueryReader_written 91 = .ok (.iconst 4, 1) := by sorry
theorem d_QueryReader_written_92 : decode b_QueryReader_written 92 = .ok (.invokespecial 225, 3) := by sorry
theorem d_QueryReader_written_95 : decode b_QueryReader_written 95 = .ok (.astore_n 2, 1) := by sorry
theorem d_QueryReader_written_96 : decode b_QueryReader_written 96 = .ok (.aload_n 2, 1) := by sorry
theorem d_QueryReader_written_97 : decode b_QueryReader_written 97 = .ok (.aload_n 0, 1) := by sorry
theorem d_QueryReader_written_98 : decode b_QueryReader_written 98 = .ok (.getfield 9, 3) := by sorry
theorem d_QueryReader_written_101 : decode b_QueryReader_written 101 = .ok (.invokevirtual 113, 3) := by sorry
theorem d_QueryReader_written_104 : decode b_QueryReader_written 104 = .ok (.putfield 251, 3) := by sorry
theorem d_QueryReader_written_107 : decode b_QueryReader_written 107 = .ok (.aload_n 2, 1) := by sorry
theorem d_QueryReader_written_108 : decode b_QueryReader_written 108 = .ok (.areturn, 1) := by sorry
theorem d_QueryReader_written_109 : decode b_QueryReader_written 109 = .ok (.new 223, 3) := by sorry
theorem d_QueryReader_written_112 : decode b_QueryReader_written 112 = .ok (.dup, 1) := by sorry
theorem d_QueryReader_written_113 : decode b_QueryReader_written 113 = .ok (.iconst 3, 1) := by sorry
theorem d_QueryReader_written_114 : decode b_QueryReader_written 114 = .ok (.invokespecial 225, 3) := by sorry
theorem d_QueryReader_written_117 : decode b_QueryReader_written 117 = .ok (.astore_n 2, 1) := by sorry
theorem d_QueryReader_written_118 : decode b_QueryReader_written 118 = .ok (.aload_n 2, 1) := by sorry
theorem d_QueryReader_written_119 : decode b_QueryReader_written 119 = .ok (.aload_n 0, 1) := by sorry
theorem d_QueryReader_written_120 : decode b_QueryReader_written 120 = .ok (.invokevirtual 129, 3) := by sorry
theorem d_QueryReader_written_123 : decode b_QueryReader_written 123 = .ok (.putfield 254, 3) := by sorry
theorem d_QueryReader_written_126 : decode b_QueryReader_written 126 = .ok (.aload_n 2, 1) := by sorry
theorem d_QueryReader_written_127 : decode b_QueryReader_written 127 = .ok (.areturn, 1) := by sorry
abbrev b_QueryReader_lengthOperand : ByteArray := prog_7_method_21_code
def y_QueryReader_lengthOperand : MethodName := ⟨"QueryBench$QueryReader", "lengthOperand", "()LQueryBench$Operand;"⟩
abbrev k_QueryReader_lengthOperand : Cond := .code y_QueryReader_lengthOperand b_QueryReader_lengthOperand 2 (some (.object "QueryBench$Operand"))
theorem i_QueryReader_lengthOperand : k_QueryReader_lengthOperand ∈ gtbl := by sorry
theorem d_QueryReader_lengthOperand_0 : decode b_QueryReader_lengthOperand 0 = .ok (.aload_n 0, 1) := by sorry
theorem d_QueryReader_lengthOperand_1 : decode b_QueryReader_lengthOperand 1 = .ok (.getfield 9, 3) := by sorry
theorem d_QueryReader_lengthOperand_4 : decode b_QueryReader_lengthOperand 4 = .ok (.ldc 236, 2) := by sorry
theorem d_QueryReader_lengthOperand_6 : decode b_QueryReader_lengthOperand 6 = .ok (.invokevirtual 238, 3) := by sorry
theorem d_QueryReader_lengthOperand_9 : decode b_QueryReader_lengthOperand 9 = .ok (.aload_n 0, 1) := by sorry
theorem d_QueryReader_lengthOperand_10 : decode b_QueryReader_lengthOperand 10 = .ok (.bipush 40, 2) := by sorry
theorem d_QueryReader_lengthOperand_12 : decode b_QueryReader_lengthOperand 12 = .ok (.invokevirtual 95, 3) := by sorry
theorem d_QueryReader_lengthOperand_15 : decode b_QueryReader_lengthOperand 15 = .ok (.aload_n 0, 1) := by sorry
theorem d_QueryReader_lengthOperand_16 : decode b_QueryReader_lengthOperand 16 = .ok (.getfield 9, 3) := by sorry
theorem d_QueryReader_lengthOperand_19 : decode b_QueryReader_lengthOperand 19 = .ok (.invokevirtual 39, 3) := by sorry
theorem d_QueryReader_lengthOperand_22 : decode b_QueryReader_lengthOperand 22 = .ok (.new 202, 3) := by sorry
theorem d_QueryReader_lengthOperand_25 : decode b_QueryReader_lengthOperand 25 = .ok (.dup, 1) := by sorry
theorem d_QueryReader_lengthOperand_26 : decode b_QueryReader_lengthOperand 26 = .ok (.iconst 3, 1) := by sorry
theorem d_QueryReader_lengthOperand_27 : decode b_QueryReader_lengthOperand 27 = .ok (.new 223, 3) := by sorry
theorem d_QueryReader_lengthOperand_30 : decode b_QueryReader_lengthOperand 30 = .ok (.dup, 1) := by sorry
theorem d_QueryReader_lengthOperand_31 : decode b_QueryReader_lengthOperand 31 = .ok (.iconst 3, 1) := by sorry
theorem d_QueryReader_lengthOperand_32 : decode b_QueryReader_lengthOperand 32 = .ok (.invokespecial 225, 3) := by sorry
theorem d_QueryReader_lengthOperand_35 : decode b_QueryReader_lengthOperand 35 = .ok (.invokespecial 204, 3) := by sorry
theorem d_QueryReader_lengthOperand_38 : decode b_QueryReader_lengthOperand 38 = .ok (.astore_n 1, 1) := by sorry
theorem d_QueryReader_lengthOperand_39 : decode b_QueryReader_lengthOperand 39 = .ok (.aload_n 1, 1) := by sorry
theorem d_QueryReader_lengthOperand_40 : decode b_QueryReader_lengthOperand 40 = .ok (.aload_n 0, 1) := by sorry
theorem d_QueryReader_lengthOperand_41 : decode b_QueryReader_lengthOperand 41 = .ok (.invokevirtual 184, 3) := by sorry
theorem d_QueryReader_lengthOperand_44 : decode b_QueryReader_lengthOperand 44 = .ok (.putfield 242, 3) := by sorry
theorem d_QueryReader_lengthOperand_47 : decode b_QueryReader_lengthOperand 47 = .ok (.aload_n 0, 1) := by sorry
theorem d_QueryReader_lengthOperand_48 : decode b_QueryReader_lengthOperand 48 = .ok (.getfield 9, 3) := by sorry
theorem d_QueryReader_lengthOperand_51 : decode b_QueryReader_lengthOperand 51 = .ok (.invokevirtual 39, 3) := by sorry
theorem d_QueryReader_lengthOperand_54 : decode b_QueryReader_lengthOperand 54 = .ok (.aload_n 0, 1) := by sorry
theorem d_QueryReader_lengthOperand_55 : decode b_QueryReader_lengthOperand 55 = .ok (.bipush 41, 2) := by sorry
theorem d_QueryReader_lengthOperand_57 : decode b_QueryReader_lengthOperand 57 = .ok (.invokevirtual 104, 3) := by sorry
theorem d_QueryReader_lengthOperand_60 : decode b_QueryReader_lengthOperand 60 = .ok (.aload_n 1, 1) := by sorry
theorem d_QueryReader_lengthOperand_61 : decode b_QueryReader_lengthOperand 61 = .ok (.areturn, 1) := by sorry
abbrev b_QueryReader_operand : ByteArray := prog_7_method_20_code
def y_QueryReader_operand : MethodName := ⟨"QueryBench$QueryReader", "operand", "()LQueryBench$Operand;"⟩
abbrev k_QueryReader_operand : Cond := .code y_QueryReader_operand b_QueryReader_operand 3 (some (.object "QueryBench$Operand"))
theorem i_QueryReader_operand : k_QueryReader_operand ∈ gtbl := by sorry
theorem d_QueryReader_operand_0 : decode b_QueryReader_operand 0 = .ok (.aload_n 0, 1) := by sorry
theorem d_QueryReader_operand_1 : decode b_QueryReader_operand 1 = .ok (.getfield 9, 3) := by sorry
theorem d_QueryReader_operand_4 : decode b_QueryReader_operand 4 = .ok (.invokevirtual 19, 3) := by sorry
theorem d_QueryReader_operand_7 : decode b_QueryReader_operand 7 = .ok (.istore_n 1, 1) := by sorry
theorem d_QueryReader_operand_8 : decode b_QueryReader_operand 8 = .ok (.iload_n 1, 1) := by sorry
theorem d_QueryReader_operand_9 : decode b_QueryReader_operand 9 = .ok (.invokestatic 178, 3) := by sorry
theorem d_QueryReader_operand_12 : decode b_QueryReader_operand 12 = .ok (.ifCond .eq 24, 3) := by sorry
theorem d_QueryReader_operand_15 : decode b_QueryReader_operand 15 = .ok (.new 202, 3) := by sorry
theorem d_QueryReader_operand_18 : decode b_QueryReader_operand 18 = .ok (.dup, 1) := by sorry
theorem d_QueryReader_operand_19 : decode b_QueryReader_operand 19 = .ok (.iconst 1, 1) := by sorry
theorem d_QueryReader_operand_20 : decode b_QueryReader_operand 20 = .ok (.aconst_null, 1) := by sorry
theorem d_QueryReader_operand_21 : decode b_QueryReader_operand 21 = .ok (.invokespecial 204, 3) := by sorry
theorem d_QueryReader_operand_24 : decode b_QueryReader_operand 24 = .ok (.astore_n 2, 1) := by sorry
theorem d_QueryReader_operand_25 : decode b_QueryReader_operand 25 = .ok (.aload_n 2, 1) := by sorry
theorem d_QueryReader_operand_26 : decode b_QueryReader_operand 26 = .ok (.aload_n 0, 1) := by sorry
theorem d_QueryReader_operand_27 : decode b_QueryReader_operand 27 = .ok (.iconst 1, 1) := by sorry
theorem d_QueryReader_operand_28 : decode b_QueryReader_operand 28 = .ok (.invokevirtual 32, 3) := by sorry
theorem d_QueryReader_operand_31 : decode b_QueryReader_operand 31 = .ok (.putfield 207, 3) := by sorry
theorem d_QueryReader_operand_34 : decode b_QueryReader_operand 34 = .ok (.aload_n 2, 1) := by sorry
theorem d_QueryReader_operand_35 : decode b_QueryReader_operand 35 = .ok (.areturn, 1) := by sorry
theorem d_QueryReader_operand_36 : decode b_QueryReader_operand 36 = .ok (.iload_n 1, 1) := by sorry
theorem d_QueryReader_operand_37 : decode b_QueryReader_operand 37 = .ok (.lookupswitch 79 #[(99, 40), (108, 35), (118, 63)], 35) := by sorry
theorem d_QueryReader_operand_72 : decode b_QueryReader_operand 72 = .ok (.aload_n 0, 1) := by sorry
theorem d_QueryReader_operand_73 : decode b_QueryReader_operand 73 = .ok (.invokevirtual 218, 3) := by sorry
theorem d_QueryReader_operand_76 : decode b_QueryReader_operand 76 = .ok (.areturn, 1) := by sorry
theorem d_QueryReader_operand_77 : decode b_QueryReader_operand 77 = .ok (.aload_n 0, 1) := by sorry
theorem d_QueryReader_operand_78 : decode b_QueryReader_operand 78 = .ok (.ldc 221, 2) := by sorry
theorem d_QueryReader_operand_80 : decode b_QueryReader_operand 80 = .ok (.new 202, 3) := by sorry
theorem d_QueryReader_operand_83 : decode b_QueryReader_operand 83 = .ok (.dup, 1) := by sorry
theorem d_QueryReader_operand_84 : decode b_QueryReader_operand 84 = .ok (.iconst 2, 1) := by sorry
theorem d_QueryReader_operand_85 : decode b_QueryReader_operand 85 = .ok (.new 223, 3) := by sorry
theorem d_QueryReader_operand_88 : decode b_QueryReader_operand 88 = .ok (.dup, 1) := by sorry
theorem d_QueryReader_operand_89 : decode b_QueryReader_operand 89 = .ok (.iconst 3, 1) := by sorry
theorem d_QueryReader_operand_90 : decode b_QueryReader_operand 90 = .ok (.invokespecial 225, 3) := by sorry
theorem d_QueryReader_operand_93 : decode b_QueryReader_operand 93 = .ok (.invokespecial 204, 3) := by sorry
theorem d_QueryReader_operand_96 : decode b_QueryReader_operand 96 = .ok (.invokevirtual 226, 3) := by sorry
theorem d_QueryReader_operand_99 : decode b_QueryReader_operand 99 = .ok (.areturn, 1) := by sorry
theorem d_QueryReader_operand_100 : decode b_QueryReader_operand 100 = .ok (.aload_n 0, 1) := by sorry
theorem d_QueryReader_operand_101 : decode b_QueryReader_operand 101 = .ok (.ldc 230, 2) := by sorry
theorem d_QueryReader_operand_103 : decode b_QueryReader_operand 103 = .ok (.new 202, 3) := by sorry
theorem d_QueryReader_operand_106 : decode b_QueryReader_operand 106 = .ok (.dup, 1) := by sorry
theorem d_QueryReader_operand_107 : decode b_QueryReader_operand 107 = .ok (.iconst 1, 1) := by sorry
theorem d_QueryReader_operand_108 : decode b_QueryReader_operand 108 = .ok (.aconst_null, 1) := by sorry
theorem d_QueryReader_operand_109 : decode b_QueryReader_operand 109 = .ok (.invokespecial 204, 3) := by sorry
theorem d_QueryReader_operand_112 : decode b_QueryReader_operand 112 = .ok (.invokevirtual 226, 3) := by sorry
theorem d_QueryReader_operand_115 : decode b_QueryReader_operand 115 = .ok (.areturn, 1) := by sorry
theorem d_QueryReader_operand_116 : decode b_QueryReader_operand 116 = .ok (.new 202, 3) := by sorry
theorem d_QueryReader_operand_119 : decode b_QueryReader_operand 119 = .ok (.dup, 1) := by sorry
theorem d_QueryReader_operand_120 : decode b_QueryReader_operand 120 = .ok (.iconst 0, 1) := by sorry
theorem d_QueryReader_operand_121 : decode b_QueryReader_operand 121 = .ok (.aload_n 0, 1) := by sorry
theorem d_QueryReader_operand_122 : decode b_QueryReader_operand 122 = .ok (.invokevirtual 232, 3) := by sorry
theorem d_QueryReader_operand_125 : decode b_QueryReader_operand 125 = .ok (.invokespecial 204, 3) := by sorry
theorem d_QueryReader_operand_128 : decode b_QueryReader_operand 128 = .ok (.areturn, 1) := by sorry
abbrev b_QueryReader_testOrComparison : ByteArray := prog_7_method_17_code
def y_QueryReader_testOrComparison : MethodName := ⟨"QueryBench$QueryReader", "testOrComparison", "()LQueryBench$Condition;"⟩
abbrev k_QueryReader_testOrComparison : Cond := .code y_QueryReader_testOrComparison b_QueryReader_testOrComparison 4 (some (.object "QueryBench$Condition"))
theorem i_QueryReader_testOrComparison : k_QueryReader_testOrComparison ∈ gtbl := by sorry
theorem d_QueryReader_testOrComparison_0 : decode b_QueryReader_testOrComparison 0 = .ok (.aload_n 0, 1) := by sorry
theorem d_QueryReader_testOrComparison_1 : decode b_QueryReader_testOrComparison 1 = .ok (.iconst 0, 1) := by sorry
theorem d_QueryReader_testOrComparison_2 : decode b_QueryReader_testOrComparison 2 = .ok (.invokevirtual 32, 3) := by sorry
theorem d_QueryReader_testOrComparison_5 : decode b_QueryReader_testOrComparison 5 = .ok (.astore_n 1, 1) := by sorry
theorem d_QueryReader_testOrComparison_6 : decode b_QueryReader_testOrComparison 6 = .ok (.aload_n 0, 1) := by sorry
theorem d_QueryReader_testOrComparison_7 : decode b_QueryReader_testOrComparison 7 = .ok (.getfield 9, 3) := by sorry
theorem d_QueryReader_testOrComparison_10 : decode b_QueryReader_testOrComparison 10 = .ok (.invokevirtual 39, 3) := by sorry
theorem d_QueryReader_testOrComparison_13 : decode b_QueryReader_testOrComparison 13 = .ok (.aload_n 0, 1) := by sorry
theorem d_QueryReader_testOrComparison_14 : decode b_QueryReader_testOrComparison 14 = .ok (.getfield 9, 3) := by sorry
theorem d_QueryReader_testOrComparison_17 : decode b_QueryReader_testOrComparison 17 = .ok (.invokevirtual 19, 3) := by sorry
theorem d_QueryReader_testOrComparison_20 : decode b_QueryReader_testOrComparison 20 = .ok (.istore_n 2, 1) := by sorry
theorem d_QueryReader_testOrComparison_21 : decode b_QueryReader_testOrComparison 21 = .ok (.iload_n 2, 1) := by sorry
theorem d_QueryReader_testOrComparison_22 : decode b_QueryReader_testOrComparison 22 = .ok (.bipush 61, 2) := by sorry
theorem d_QueryReader_testOrComparison_24 : decode b_QueryReader_testOrComparison 24 = .ok (.if_icmp .eq 37, 3) := by sorry
theorem d_QueryReader_testOrComparison_27 : decode b_QueryReader_testOrComparison 27 = .ok (.iload_n 2, 1) := by sorry
theorem d_QueryReader_testOrComparison_28 : decode b_QueryReader_testOrComparison 28 = .ok (.bipush 33, 2) := by sorry
theorem d_QueryReader_testOrComparison_30 : decode b_QueryReader_testOrComparison 30 = .ok (.if_icmp .eq 31, 3) := by sorry
theorem d_QueryReader_testOrComparison_33 : decode b_QueryReader_testOrComparison 33 = .ok (.iload_n 2, 1) := by sorry
theorem d_QueryReader_testOrComparison_34 : decode b_QueryReader_testOrComparison 34 = .ok (.bipush 60, 2) := by sorry
theorem d_QueryReader_testOrComparison_36 : decode b_QueryReader_testOrComparison 36 = .ok (.if_icmp .eq 25, 3) := by sorry
theorem d_QueryReader_testOrComparison_39 : decode b_QueryReader_testOrComparison 39 = .ok (.iload_n 2, 1) := by sorry
theorem d_QueryReader_testOrComparison_40 : decode b_QueryReader_testOrComparison 40 = .ok (.bipush 62, 2) := by sorry
theorem d_QueryReader_testOrComparison_42 : decode b_QueryReader_testOrComparison 42 = .ok (.if_icmp .eq 19, 3) := by sorry
theorem d_QueryReader_testOrComparison_45 : decode b_QueryReader_testOrComparison 45 = .ok (.new 159, 3) := by sorry
theorem d_QueryReader_testOrComparison_48 : decode b_QueryReader_testOrComparison 48 = .ok (.dup, 1) := by sorry
theorem d_QueryReader_testOrComparison_49 : decode b_QueryReader_testOrComparison 49 = .ok (.iconst 3, 1) := by sorry
theorem d_QueryReader_testOrComparison_50 : decode b_QueryReader_testOrComparison 50 = .ok (.invokespecial 161, 3) := by sorry
theorem d_QueryReader_testOrComparison_53 : decode b_QueryReader_testOrComparison 53 = .ok (.astore_n 3, 1) := by sorry
theorem d_QueryReader_testOrComparison_54 : decode b_QueryReader_testOrComparison 54 = .ok (.aload_n 3, 1) := by sorry
theorem d_QueryReader_testOrComparison_55 : decode b_QueryReader_testOrComparison 55 = .ok (.aload_n 1, 1) := by sorry
theorem d_QueryReader_testOrComparison_56 : decode b_QueryReader_testOrComparison 56 = .ok (.putfield 196, 3) := by sorry
theorem d_QueryReader_testOrComparison_59 : decode b_QueryReader_testOrComparison 59 = .ok (.aload_n 3, 1) := by sorry
theorem d_QueryReader_testOrComparison_60 : decode b_QueryReader_testOrComparison 60 = .ok (.areturn, 1) := by sorry
theorem d_QueryReader_testOrComparison_61 : decode b_QueryReader_testOrComparison 61 = .ok (.aload_n 1, 1) := by sorry
theorem d_QueryReader_testOrComparison_62 : decode b_QueryReader_testOrComparison 62 = .ok (.getfield 199, 3) := by sorry
theorem d_QueryReader_testOrComparison_65 : decode b_QueryReader_testOrComparison 65 = .ok (.ifCond .ne 17, 3) := by sorry
theorem d_QueryReader_testOrComparison_68 : decode b_QueryReader_testOrComparison 68 = .ok (.aload_n 0, 1) := by sorry
theorem d_QueryReader_testOrComparison_69 : decode b_QueryReader_testOrComparison 69 = .ok (.getfield 9, 3) := by sorry
theorem d_QueryReader_testOrComparison_72 : decode b_QueryReader_testOrComparison 72 = .ok (.aload_n 0, 1) := by sorry
theorem d_QueryReader_testOrComparison_73 : decode b_QueryReader_testOrComparison 73 = .ok (.getfield 9, 3) := by sorry
theorem d_QueryReader_testOrComparison_76 : decode b_QueryReader_testOrComparison 76 = .ok (.getfield 25, 3) := by sorry
theorem d_QueryReader_testOrComparison_79 : decode b_QueryReader_testOrComparison 79 = .ok (.invokevirtual 28, 3) := by sorry
theorem d_QueryReader_testOrComparison_82 : decode b_QueryReader_testOrComparison 82 = .ok (.new 202, 3) := by sorry
theorem d_QueryReader_testOrComparison_85 : decode b_QueryReader_testOrComparison 85 = .ok (.dup, 1) := by sorry
theorem d_QueryReader_testOrComparison_86 : decode b_QueryReader_testOrComparison 86 = .ok (.iconst 1, 1) := by sorry
theorem d_QueryReader_testOrComparison_87 : decode b_QueryReader_testOrComparison 87 = .ok (.aconst_null, 1) := by sorry
theorem d_QueryReader_testOrComparison_88 : decode b_QueryReader_testOrComparison 88 = .ok (.invokespecial 204, 3) := by sorry
theorem d_QueryReader_testOrComparison_91 : decode b_QueryReader_testOrComparison 91 = .ok (.astore_n 3, 1) := by sorry
theorem d_QueryReader_testOrComparison_92 : decode b_QueryReader_testOrComparison 92 = .ok (.aload_n 3, 1) := by sorry
theorem d_QueryReader_testOrComparison_93 : decode b_QueryReader_testOrComparison 93 = .ok (.aload_n 1, 1) := by sorry
theorem d_QueryReader_testOrComparison_94 : decode b_QueryReader_testOrComparison 94 = .ok (.putfield 207, 3) := by sorry
theorem d_QueryReader_testOrComparison_97 : decode b_QueryReader_testOrComparison 97 = .ok (.aload_n 0, 1) := by sorry
theorem d_QueryReader_testOrComparison_98 : decode b_QueryReader_testOrComparison 98 = .ok (.aload_n 3, 1) := by sorry
theorem d_QueryReader_testOrComparison_99 : decode b_QueryReader_testOrComparison 99 = .ok (.invokevirtual 188, 3) := by sorry
theorem d_QueryReader_testOrComparison_102 : decode b_QueryReader_testOrComparison 102 = .ok (.areturn, 1) := by sorry
abbrev b_QueryReader_group : ByteArray := prog_7_method_15_code
def y_QueryReader_group : MethodName := ⟨"QueryBench$QueryReader", "group", "()LQueryBench$Condition;"⟩
abbrev k_QueryReader_group : Cond := .code y_QueryReader_group b_QueryReader_group 2 (some (.object "QueryBench$Condition"))
theorem i_QueryReader_group : k_QueryReader_group ∈ gtbl := by sorry
theorem d_QueryReader_group_0 : decode b_QueryReader_group 0 = .ok (.aload_n 0, 1) := by sorry
theorem d_QueryReader_group_1 : decode b_QueryReader_group 1 = .ok (.bipush 40, 2) := by sorry
theorem d_QueryReader_group_3 : decode b_QueryReader_group 3 = .ok (.invokevirtual 95, 3) := by sorry
theorem d_QueryReader_group_6 : decode b_QueryReader_group 6 = .ok (.aload_n 0, 1) := by sorry
theorem d_QueryReader_group_7 : decode b_QueryReader_group 7 = .ok (.invokevirtual 117, 3) := by sorry
theorem d_QueryReader_group_10 : decode b_QueryReader_group 10 = .ok (.astore_n 1, 1) := by sorry
theorem d_QueryReader_group_11 : decode b_QueryReader_group 11 = .ok (.aload_n 0, 1) := by sorry
theorem d_QueryReader_group_12 : decode b_QueryReader_group 12 = .ok (.bipush 41, 2) := by sorry
theorem d_QueryReader_group_14 : decode b_QueryReader_group 14 = .ok (.invokevirtual 104, 3) := by sorry
theorem d_QueryReader_group_17 : decode b_QueryReader_group 17 = .ok (.aload_n 1, 1) := by sorry
theorem d_QueryReader_group_18 : decode b_QueryReader_group 18 = .ok (.areturn, 1) := by sorry
abbrev b_QueryReader_negation : ByteArray := prog_7_method_14_code
def y_QueryReader_negation : MethodName := ⟨"QueryBench$QueryReader", "negation", "()LQueryBench$Condition;"⟩
abbrev k_QueryReader_negation : Cond := .code y_QueryReader_negation b_QueryReader_negation 2 (some (.object "QueryBench$Condition"))
theorem i_QueryReader_negation : k_QueryReader_negation ∈ gtbl := by sorry
theorem d_QueryReader_negation_0 : decode b_QueryReader_negation 0 = .ok (.aload_n 0, 1) := by sorry
theorem d_QueryReader_negation_1 : decode b_QueryReader_negation 1 = .ok (.getfield 9, 3) := by sorry
theorem d_QueryReader_negation_4 : decode b_QueryReader_negation 4 = .ok (.dup, 1) := by sorry
theorem d_QueryReader_negation_5 : decode b_QueryReader_negation 5 = .ok (.getfield 25, 3) := by sorry
theorem d_QueryReader_negation_8 : decode b_QueryReader_negation 8 = .ok (.iconst 1, 1) := by sorry
theorem d_QueryReader_negation_9 : decode b_QueryReader_negation 9 = .ok (.iadd, 1) := by sorry
theorem d_QueryReader_negation_10 : decode b_QueryReader_negation 10 = .ok (.putfield 25, 3) := by sorry
theorem d_QueryReader_negation_13 : decode b_QueryReader_negation 13 = .ok (.aload_n 0, 1) := by sorry
theorem d_QueryReader_negation_14 : decode b_QueryReader_negation 14 = .ok (.getfield 9, 3) := by sorry
theorem d_QueryReader_negation_17 : decode b_QueryReader_negation 17 = .ok (.invokevirtual 39, 3) := by sorry
theorem d_QueryReader_negation_20 : decode b_QueryReader_negation 20 = .ok (.new 159, 3) := by sorry
theorem d_QueryReader_negation_23 : decode b_QueryReader_negation 23 = .ok (.dup, 1) := by sorry
theorem d_QueryReader_negation_24 : decode b_QueryReader_negation 24 = .ok (.iconst 2, 1) := by sorry
theorem d_QueryReader_negation_25 : decode b_QueryReader_negation 25 = .ok (.invokespecial 161, 3) := by sorry
theorem d_QueryReader_negation_28 : decode b_QueryReader_negation 28 = .ok (.astore_n 1, 1) := by sorry
theorem d_QueryReader_negation_29 : decode b_QueryReader_negation 29 = .ok (.aload_n 0, 1) := by sorry
theorem d_QueryReader_negation_30 : decode b_QueryReader_negation 30 = .ok (.getfield 9, 3) := by sorry
theorem d_QueryReader_negation_33 : decode b_QueryReader_negation 33 = .ok (.invokevirtual 19, 3) := by sorry
theorem d_QueryReader_negation_36 : decode b_QueryReader_negation 36 = .ok (.bipush 40, 2) := by sorry
theorem d_QueryReader_negation_38 : decode b_QueryReader_negation 38 = .ok (.if_icmp .ne 14, 3) := by sorry
theorem d_QueryReader_negation_41 : decode b_QueryReader_negation 41 = .ok (.aload_n 1, 1) := by sorry
theorem d_QueryReader_negation_42 : decode b_QueryReader_negation 42 = .ok (.aload_n 0, 1) := by sorry
theorem d_QueryReader_negation_43 : decode b_QueryReader_negation 43 = .ok (.invokevirtual 175, 3) := by sorry
theorem d_QueryReader_negation_46 : decode b_QueryReader_negation 46 = .ok (.putfield 162, 3) := by sorry
theorem d_QueryReader_negation_49 : decode b_QueryReader_negation 49 = .ok (.goto 26, 3) := by sorry
theorem d_QueryReader_negation_52 : decode b_QueryReader_negation 52 = .ok (.aload_n 1, 1) := by sorry
theorem d_QueryReader_negation_53 : decode b_QueryReader_negation 53 = .ok (.new 159, 3) := by sorry
theorem d_QueryReader_negation_56 : decode b_QueryReader_negation 56 = .ok (.dup, 1) := by sorry
theorem d_QueryReader_negation_57 : decode b_QueryReader_negation 57 = .ok (.iconst 3, 1) := by sorry
theorem d_QueryReader_negation_58 : decode b_QueryReader_negation 58 = .ok (.invokespecial 161, 3) := by sorry
theorem d_QueryReader_negation_61 : decode b_QueryReader_negation 61 = .ok (.putfield 162, 3) := by sorry
theorem d_QueryReader_negation_64 : decode b_QueryReader_negation 64 = .ok (.aload_n 1, 1) := by sorry
theorem d_QueryReader_negation_65 : decode b_QueryReader_negation 65 = .ok (.getfield 162, 3) := by sorry
theorem d_QueryReader_negation_68 : decode b_QueryReader_negation 68 = .ok (.aload_n 0, 1) := by sorry
theorem d_QueryReader_negation_69 : decode b_QueryReader_negation 69 = .ok (.invokevirtual 192, 3) := by sorry
theorem d_QueryReader_negation_72 : decode b_QueryReader_negation 72 = .ok (.putfield 196, 3) := by sorry
theorem d_QueryReader_negation_75 : decode b_QueryReader_negation 75 = .ok (.aload_n 1, 1) := by sorry
theorem d_QueryReader_negation_76 : decode b_QueryReader_negation 76 = .ok (.areturn, 1) := by sorry
abbrev b_QueryReader_basic : ByteArray := prog_7_method_13_code
def y_QueryReader_basic : MethodName := ⟨"QueryBench$QueryReader", "basic", "()LQueryBench$Condition;"⟩
abbrev k_QueryReader_basic : Cond := .code y_QueryReader_basic b_QueryReader_basic 3 (some (.object "QueryBench$Condition"))
theorem i_QueryReader_basic : k_QueryReader_basic ∈ gtbl := by sorry
theorem d_QueryReader_basic_0 : decode b_QueryReader_basic 0 = .ok (.aload_n 0, 1) := by sorry
theorem d_QueryReader_basic_1 : decode b_QueryReader_basic 1 = .ok (.getfield 9, 3) := by sorry
theorem d_QueryReader_basic_4 : decode b_QueryReader_basic 4 = .ok (.invokevirtual 39, 3) := by sorry
theorem d_QueryReader_basic_7 : decode b_QueryReader_basic 7 = .ok (.aload_n 0, 1) := by sorry
theorem d_QueryReader_basic_8 : decode b_QueryReader_basic 8 = .ok (.getfield 9, 3) := by sorry
theorem d_QueryReader_basic_11 : decode b_QueryReader_basic 11 = .ok (.invokevirtual 19, 3) := by sorry
theorem d_QueryReader_basic_14 : decode b_QueryReader_basic 14 = .ok (.bipush 33, 2) := by sorry
theorem d_QueryReader_basic_16 : decode b_QueryReader_basic 16 = .ok (.if_icmp .ne 11, 3) := by sorry
theorem d_QueryReader_basic_19 : decode b_QueryReader_basic 19 = .ok (.aload_n 0, 1) := by sorry
theorem d_QueryReader_basic_20 : decode b_QueryReader_basic 20 = .ok (.invokevirtual 172, 3) := by sorry
theorem d_QueryReader_basic_23 : decode b_QueryReader_basic 23 = .ok (.astore_n 1, 1) := by sorry
theorem d_QueryReader_basic_24 : decode b_QueryReader_basic 24 = .ok (.goto 62, 3) := by sorry
theorem d_QueryReader_basic_27 : decode b_QueryReader_basic 27 = .ok (.aload_n 0, 1) := by sorry
theorem d_QueryReader_basic_28 : decode b_QueryReader_basic 28 = .ok (.getfield 9, 3) := by sorry
theorem d_QueryReader_basic_31 : decode b_QueryReader_basic 31 = .ok (.invokevirtual 19, 3) := by sorry
theorem d_QueryReader_basic_34 : decode b_QueryReader_basic 34 = .ok (.bipush 40, 2) := by sorry
theorem d_QueryReader_basic_36 : decode b_QueryReader_basic 36 = .ok (.if_icmp .ne 11, 3) := by sorry
theorem d_QueryReader_basic_39 : decode b_QueryReader_basic 39 = .ok (.aload_n 0, 1) := by sorry
theorem d_QueryReader_basic_40 : decode b_QueryReader_basic 40 = .ok (.invokevirtual 175, 3) := by sorry
theorem d_QueryReader_basic_43 : decode b_QueryReader_basic 43 = .ok (.astore_n 1, 1) := by sorry
theorem d_QueryReader_basic_44 : decode b_QueryReader_basic 44 = .ok (.goto 42, 3) := by sorry
theorem d_QueryReader_basic_47 : decode b_QueryReader_basic 47 = .ok (.aload_n 0, 1) := by sorry
theorem d_QueryReader_basic_48 : decode b_QueryReader_basic 48 = .ok (.getfield 9, 3) := by sorry
theorem d_QueryReader_basic_51 : decode b_QueryReader_basic 51 = .ok (.invokevirtual 19, 3) := by sorry
theorem d_QueryReader_basic_54 : decode b_QueryReader_basic 54 = .ok (.invokestatic 178, 3) := by sorry
theorem d_QueryReader_basic_57 : decode b_QueryReader_basic 57 = .ok (.ifCond .eq 11, 3) := by sorry
theorem d_QueryReader_basic_60 : decode b_QueryReader_basic 60 = .ok (.aload_n 0, 1) := by sorry
theorem d_QueryReader_basic_61 : decode b_QueryReader_basic 61 = .ok (.invokevirtual 181, 3) := by sorry
theorem d_QueryReader_basic_64 : decode b_QueryReader_basic 64 = .ok (.astore_n 1, 1) := by sorry
theorem d_QueryReader_basic_65 : decode b_QueryReader_basic 65 = .ok (.goto 21, 3) := by sorry
theorem d_QueryReader_basic_68 : decode b_QueryReader_basic 68 = .ok (.aload_n 0, 1) := by sorry
theorem d_QueryReader_basic_69 : decode b_QueryReader_basic 69 = .ok (.invokevirtual 184, 3) := by sorry
theorem d_QueryReader_basic_72 : decode b_QueryReader_basic 72 = .ok (.astore_n 2, 1) := by sorry
theorem d_QueryReader_basic_73 : decode b_QueryReader_basic 73 = .ok (.aload_n 0, 1) := by sorry
theorem d_QueryReader_basic_74 : decode b_QueryReader_basic 74 = .ok (.getfield 9, 3) := by sorry
theorem d_QueryReader_basic_77 : decode b_QueryReader_basic 77 = .ok (.invokevirtual 39, 3) := by sorry
theorem d_QueryReader_basic_80 : decode b_QueryReader_basic 80 = .ok (.aload_n 0, 1) := by sorry
theorem d_QueryReader_basic_81 : decode b_QueryReader_basic 81 = .ok (.aload_n 2, 1) := by sorry
theorem d_QueryReader_basic_82 : decode b_QueryReader_basic 82 = .ok (.invokevirtual 188, 3) := by sorry
theorem d_QueryReader_basic_85 : decode b_QueryReader_basic 85 = .ok (.astore_n 1, 1) := by sorry
theorem d_QueryReader_basic_86 : decode b_QueryReader_basic 86 = .ok (.aload_n 0, 1) := by sorry
theorem d_QueryReader_basic_87 : decode b_QueryReader_basic 87 = .ok (.getfield 9, 3) := by sorry
theorem d_QueryReader_basic_90 : decode b_QueryReader_basic 90 = .ok (.invokevirtual 39, 3) := by sorry
theorem d_QueryReader_basic_93 : decode b_QueryReader_basic 93 = .ok (.aload_n 1, 1) := by sorry
theorem d_QueryReader_basic_94 : decode b_QueryReader_basic 94 = .ok (.areturn, 1) := by sorry
abbrev b_QueryReader_and : ByteArray := prog_7_method_12_code
def y_QueryReader_and : MethodName := ⟨"QueryBench$QueryReader", "and", "()LQueryBench$Condition;"⟩
abbrev k_QueryReader_and : Cond := .code y_QueryReader_and b_QueryReader_and 5 (some (.object "QueryBench$Condition"))
theorem i_QueryReader_and : k_QueryReader_and ∈ gtbl := by sorry
theorem d_QueryReader_and_0 : decode b_QueryReader_and 0 = .ok (.aload_n 0, 1) := by sorry
theorem d_QueryReader_and_1 : decode b_QueryReader_and 1 = .ok (.invokevirtual 169, 3) := by sorry
theorem d_QueryReader_and_4 : decode b_QueryReader_and 4 = .ok (.astore_n 1, 1) := by sorry
theorem d_QueryReader_and_5 : decode b_QueryReader_and 5 = .ok (.aload_n 0, 1) := by sorry
theorem d_QueryReader_and_6 : decode b_QueryReader_and 6 = .ok (.getfield 9, 3) := by sorry
theorem d_QueryReader_and_9 : decode b_QueryReader_and 9 = .ok (.invokevirtual 19, 3) := by sorry
theorem d_QueryReader_and_12 : decode b_QueryReader_and 12 = .ok (.bipush 38, 2) := by sorry
theorem d_QueryReader_and_14 : decode b_QueryReader_and 14 = .ok (.if_icmp .eq 5, 3) := by sorry
theorem d_QueryReader_and_17 : decode b_QueryReader_and 17 = .ok (.aload_n 1, 1) := by sorry
theorem d_QueryReader_and_18 : decode b_QueryReader_and 18 = .ok (.areturn, 1) := by sorry
theorem d_QueryReader_and_19 : decode b_QueryReader_and 19 = .ok (.new 159, 3) := by sorry
theorem d_QueryReader_and_22 : decode b_QueryReader_and 22 = .ok (.dup, 1) := by sorry
theorem d_QueryReader_and_23 : decode b_QueryReader_and 23 = .ok (.iconst 1, 1) := by sorry
theorem d_QueryReader_and_24 : decode b_QueryReader_and 24 = .ok (.invokespecial 161, 3) := by sorry
theorem d_QueryReader_and_27 : decode b_QueryReader_and 27 = .ok (.astore_n 2, 1) := by sorry
theorem d_QueryReader_and_28 : decode b_QueryReader_and 28 = .ok (.aload_n 2, 1) := by sorry
theorem d_QueryReader_and_29 : decode b_QueryReader_and 29 = .ok (.aload_n 1, 1) := by sorry
theorem d_QueryReader_and_30 : decode b_QueryReader_and 30 = .ok (.putfield 162, 3) := by sorry
theorem d_QueryReader_and_33 : decode b_QueryReader_and 33 = .ok (.aload_n 1, 1) := by sorry
theorem d_QueryReader_and_34 : decode b_QueryReader_and 34 = .ok (.astore_n 3, 1) := by sorry
theorem d_QueryReader_and_35 : decode b_QueryReader_and 35 = .ok (.iconst 0, 1) := by sorry
theorem d_QueryReader_and_36 : decode b_QueryReader_and 36 = .ok (.istore 4, 2) := by sorry
theorem d_QueryReader_and_38 : decode b_QueryReader_and 38 = .ok (.iload 4, 2) := by sorry
theorem d_QueryReader_and_40 : decode b_QueryReader_and 40 = .ok (.sipush 4096, 3) := by sorry
theorem d_QueryReader_and_43 : decode b_QueryReader_and 43 = .ok (.if_icmp .ge 43, 3) := by sorry
theorem d_QueryReader_and_46 : decode b_QueryReader_and 46 = .ok (.aload_n 0, 1) := by sorry
theorem d_QueryReader_and_47 : decode b_QueryReader_and 47 = .ok (.getfield 9, 3) := by sorry
theorem d_QueryReader_and_50 : decode b_QueryReader_and 50 = .ok (.bipush 38, 2) := by sorry
theorem d_QueryReader_and_52 : decode b_QueryReader_and 52 = .ok (.invokevirtual 58, 3) := by sorry
theorem d_QueryReader_and_55 : decode b_QueryReader_and 55 = .ok (.ifCond .eq 31, 3) := by sorry
theorem d_QueryReader_and_58 : decode b_QueryReader_and 58 = .ok (.aload_n 0, 1) := by sorry
theorem d_QueryReader_and_59 : decode b_QueryReader_and 59 = .ok (.getfield 9, 3) := by sorry
theorem d_QueryReader_and_62 : decode b_QueryReader_and 62 = .ok (.bipush 38, 2) := by sorry
theorem d_QueryReader_and_64 : decode b_QueryReader_and 64 = .ok (.invokevirtual 164, 3) := by sorry
theorem d_QueryReader_and_67 : decode b_QueryReader_and 67 = .ok (.aload_n 3, 1) := by sorry
theorem d_QueryReader_and_68 : decode b_QueryReader_and 68 = .ok (.aload_n 0, 1) := by sorry
theorem d_QueryReader_and_69 : decode b_QueryReader_and 69 = .ok (.invokevirtual 169, 3) := by sorry
theorem d_QueryReader_and_72 : decode b_QueryReader_and 72 = .ok (.putfield 167, 3) := by sorry
theorem d_QueryReader_and_75 : decode b_QueryReader_and 75 = .ok (.aload_n 3, 1) := by sorry
theorem d_QueryReader_and_76 : decode b_QueryReader_and 76 = .ok (.getfield 167, 3) := by sorry
theorem d_QueryReader_and_79 : decode b_QueryReader_and 79 = .ok (.astore_n 3, 1) := by sorry
theorem d_QueryReader_and_80 : decode b_QueryReader_and 80 = .ok (.iinc 4 1, 3) := by sorry
theorem d_QueryReader_and_83 : decode b_QueryReader_and 83 = .ok (.goto (-45), 3) := by sorry
theorem d_QueryReader_and_86 : decode b_QueryReader_and 86 = .ok (.aload_n 2, 1) := by sorry
theorem d_QueryReader_and_87 : decode b_QueryReader_and 87 = .ok (.areturn, 1) := by sorry
abbrev b_QueryReader_or : ByteArray := prog_7_method_11_code
def y_QueryReader_or : MethodName := ⟨"QueryBench$QueryReader", "or", "()LQueryBench$Condition;"⟩
abbrev k_QueryReader_or : Cond := .code y_QueryReader_or b_QueryReader_or 5 (some (.object "QueryBench$Condition"))
theorem i_QueryReader_or : k_QueryReader_or ∈ gtbl := by sorry
theorem d_QueryReader_or_0 : decode b_QueryReader_or 0 = .ok (.aload_n 0, 1) := by sorry
theorem d_QueryReader_or_1 : decode b_QueryReader_or 1 = .ok (.invokevirtual 156, 3) := by sorry
theorem d_QueryReader_or_4 : decode b_QueryReader_or 4 = .ok (.astore_n 1, 1) := by sorry
theorem d_QueryReader_or_5 : decode b_QueryReader_or 5 = .ok (.aload_n 0, 1) := by sorry
theorem d_QueryReader_or_6 : decode b_QueryReader_or 6 = .ok (.getfield 9, 3) := by sorry
theorem d_QueryReader_or_9 : decode b_QueryReader_or 9 = .ok (.invokevirtual 19, 3) := by sorry
theorem d_QueryReader_or_12 : decode b_QueryReader_or 12 = .ok (.bipush 124, 2) := by sorry
theorem d_QueryReader_or_14 : decode b_QueryReader_or 14 = .ok (.if_icmp .eq 5, 3) := by sorry
theorem d_QueryReader_or_17 : decode b_QueryReader_or 17 = .ok (.aload_n 1, 1) := by sorry
theorem d_QueryReader_or_18 : decode b_QueryReader_or 18 = .ok (.areturn, 1) := by sorry
theorem d_QueryReader_or_19 : decode b_QueryReader_or 19 = .ok (.new 159, 3) := by sorry
theorem d_QueryReader_or_22 : decode b_QueryReader_or 22 = .ok (.dup, 1) := by sorry
theorem d_QueryReader_or_23 : decode b_QueryReader_or 23 = .ok (.iconst 0, 1) := by sorry
theorem d_QueryReader_or_24 : decode b_QueryReader_or 24 = .ok (.invokespecial 161, 3) := by sorry
theorem d_QueryReader_or_27 : decode b_QueryReader_or 27 = .ok (.astore_n 2, 1) := by sorry
theorem d_QueryReader_or_28 : decode b_QueryReader_or 28 = .ok (.aload_n 2, 1) := by sorry
theorem d_QueryReader_or_29 : decode b_QueryReader_or 29 = .ok (.aload_n 1, 1) := by sorry
theorem d_QueryReader_or_30 : decode b_QueryReader_or 30 = .ok (.putfield 162, 3) := by sorry
theorem d_QueryReader_or_33 : decode b_QueryReader_or 33 = .ok (.aload_n 1, 1) := by sorry
theorem d_QueryReader_or_34 : decode b_QueryReader_or 34 = .ok (.astore_n 3, 1) := by sorry
theorem d_QueryReader_or_35 : decode b_QueryReader_or 35 = .ok (.iconst 0, 1) := by sorry
theorem d_QueryReader_or_36 : decode b_QueryReader_or 36 = .ok (.istore 4, 2) := by sorry
theorem d_QueryReader_or_38 : decode b_QueryReader_or 38 = .ok (.iload 4, 2) := by sorry
theorem d_QueryReader_or_40 : decode b_QueryReader_or 40 = .ok (.sipush 4096, 3) := by sorry
theorem d_QueryReader_or_43 : decode b_QueryReader_or 43 = .ok (.if_icmp .ge 43, 3) := by sorry
theorem d_QueryReader_or_46 : decode b_QueryReader_or 46 = .ok (.aload_n 0, 1) := by sorry
theorem d_QueryReader_or_47 : decode b_QueryReader_or 47 = .ok (.getfield 9, 3) := by sorry
theorem d_QueryReader_or_50 : decode b_QueryReader_or 50 = .ok (.bipush 124, 2) := by sorry
theorem d_QueryReader_or_52 : decode b_QueryReader_or 52 = .ok (.invokevirtual 58, 3) := by sorry
theorem d_QueryReader_or_55 : decode b_QueryReader_or 55 = .ok (.ifCond .eq 31, 3) := by sorry
theorem d_QueryReader_or_58 : decode b_QueryReader_or 58 = .ok (.aload_n 0, 1) := by sorry
theorem d_QueryReader_or_59 : decode b_QueryReader_or 59 = .ok (.getfield 9, 3) := by sorry
theorem d_QueryReader_or_62 : decode b_QueryReader_or 62 = .ok (.bipush 124, 2) := by sorry
theorem d_QueryReader_or_64 : decode b_QueryReader_or 64 = .ok (.invokevirtual 164, 3) := by sorry
theorem d_QueryReader_or_67 : decode b_QueryReader_or 67 = .ok (.aload_n 3, 1) := by sorry
theorem d_QueryReader_or_68 : decode b_QueryReader_or 68 = .ok (.aload_n 0, 1) := by sorry
theorem d_QueryReader_or_69 : decode b_QueryReader_or 69 = .ok (.invokevirtual 156, 3) := by sorry
theorem d_QueryReader_or_72 : decode b_QueryReader_or 72 = .ok (.putfield 167, 3) := by sorry
theorem d_QueryReader_or_75 : decode b_QueryReader_or 75 = .ok (.aload_n 3, 1) := by sorry
theorem d_QueryReader_or_76 : decode b_QueryReader_or 76 = .ok (.getfield 167, 3) := by sorry
theorem d_QueryReader_or_79 : decode b_QueryReader_or 79 = .ok (.astore_n 3, 1) := by sorry
theorem d_QueryReader_or_80 : decode b_QueryReader_or 80 = .ok (.iinc 4 1, 3) := by sorry
theorem d_QueryReader_or_83 : decode b_QueryReader_or 83 = .ok (.goto (-45), 3) := by sorry
theorem d_QueryReader_or_86 : decode b_QueryReader_or 86 = .ok (.aload_n 2, 1) := by sorry
theorem d_QueryReader_or_87 : decode b_QueryReader_or 87 = .ok (.areturn, 1) := by sorry
abbrev b_QueryReader_queryOperand : ByteArray := prog_7_method_22_code
def y_QueryReader_queryOperand : MethodName := ⟨"QueryBench$QueryReader", "queryOperand", "(Ljava/lang/String;LQueryBench$Operand;)LQueryBench$Operand;"⟩
abbrev k_QueryReader_queryOperand : Cond := .code y_QueryReader_queryOperand b_QueryReader_queryOperand 3 (some (.object "QueryBench$Operand"))
theorem i_QueryReader_queryOperand : k_QueryReader_queryOperand ∈ gtbl := by sorry
theorem d_QueryReader_queryOperand_0 : decode b_QueryReader_queryOperand 0 = .ok (.aload_n 0, 1) := by sorry
theorem d_QueryReader_queryOperand_1 : decode b_QueryReader_queryOperand 1 = .ok (.getfield 9, 3) := by sorry
theorem d_QueryReader_queryOperand_4 : decode b_QueryReader_queryOperand 4 = .ok (.aload_n 1, 1) := by sorry
theorem d_QueryReader_queryOperand_5 : decode b_QueryReader_queryOperand 5 = .ok (.invokevirtual 238, 3) := by sorry
theorem d_QueryReader_queryOperand_8 : decode b_QueryReader_queryOperand 8 = .ok (.aload_n 0, 1) := by sorry
theorem d_QueryReader_queryOperand_9 : decode b_QueryReader_queryOperand 9 = .ok (.bipush 40, 2) := by sorry
theorem d_QueryReader_queryOperand_11 : decode b_QueryReader_queryOperand 11 = .ok (.invokevirtual 95, 3) := by sorry
theorem d_QueryReader_queryOperand_14 : decode b_QueryReader_queryOperand 14 = .ok (.aload_n 0, 1) := by sorry
theorem d_QueryReader_queryOperand_15 : decode b_QueryReader_queryOperand 15 = .ok (.getfield 9, 3) := by sorry
theorem d_QueryReader_queryOperand_18 : decode b_QueryReader_queryOperand 18 = .ok (.invokevirtual 39, 3) := by sorry
theorem d_QueryReader_queryOperand_21 : decode b_QueryReader_queryOperand 21 = .ok (.aload_n 2, 1) := by sorry
theorem d_QueryReader_queryOperand_22 : decode b_QueryReader_queryOperand 22 = .ok (.aload_n 0, 1) := by sorry
theorem d_QueryReader_queryOperand_23 : decode b_QueryReader_queryOperand 23 = .ok (.invokevirtual 192, 3) := by sorry
theorem d_QueryReader_queryOperand_26 : decode b_QueryReader_queryOperand 26 = .ok (.putfield 207, 3) := by sorry
theorem d_QueryReader_queryOperand_29 : decode b_QueryReader_queryOperand 29 = .ok (.aload_n 0, 1) := by sorry
theorem d_QueryReader_queryOperand_30 : decode b_QueryReader_queryOperand 30 = .ok (.getfield 9, 3) := by sorry
theorem d_QueryReader_queryOperand_33 : decode b_QueryReader_queryOperand 33 = .ok (.invokevirtual 39, 3) := by sorry
theorem d_QueryReader_queryOperand_36 : decode b_QueryReader_queryOperand 36 = .ok (.aload_n 0, 1) := by sorry
theorem d_QueryReader_queryOperand_37 : decode b_QueryReader_queryOperand 37 = .ok (.bipush 41, 2) := by sorry
theorem d_QueryReader_queryOperand_39 : decode b_QueryReader_queryOperand 39 = .ok (.invokevirtual 104, 3) := by sorry
theorem d_QueryReader_queryOperand_42 : decode b_QueryReader_queryOperand 42 = .ok (.aload_n 2, 1) := by sorry
theorem d_QueryReader_queryOperand_43 : decode b_QueryReader_queryOperand 43 = .ok (.areturn, 1) := by sorry
abbrev b_QueryReader_comparison : ByteArray := prog_7_method_18_code
def y_QueryReader_comparison : MethodName := ⟨"QueryBench$QueryReader", "comparison", "(LQueryBench$Operand;)LQueryBench$Condition;"⟩
abbrev k_QueryReader_comparison : Cond := .code y_QueryReader_comparison b_QueryReader_comparison 3 (some (.object "QueryBench$Condition"))
theorem i_QueryReader_comparison : k_QueryReader_comparison ∈ gtbl := by sorry
theorem d_QueryReader_comparison_0 : decode b_QueryReader_comparison 0 = .ok (.new 159, 3) := by sorry
theorem d_QueryReader_comparison_3 : decode b_QueryReader_comparison 3 = .ok (.dup, 1) := by sorry
theorem d_QueryReader_comparison_4 : decode b_QueryReader_comparison 4 = .ok (.aload_n 0, 1) := by sorry
theorem d_QueryReader_comparison_5 : decode b_QueryReader_comparison 5 = .ok (.invokevirtual 208, 3) := by sorry
theorem d_QueryReader_comparison_8 : decode b_QueryReader_comparison 8 = .ok (.invokespecial 161, 3) := by sorry
theorem d_QueryReader_comparison_11 : decode b_QueryReader_comparison 11 = .ok (.astore_n 2, 1) := by sorry
theorem d_QueryReader_comparison_12 : decode b_QueryReader_comparison 12 = .ok (.aload_n 0, 1) := by sorry
theorem d_QueryReader_comparison_13 : decode b_QueryReader_comparison 13 = .ok (.getfield 9, 3) := by sorry
theorem d_QueryReader_comparison_16 : decode b_QueryReader_comparison 16 = .ok (.invokevirtual 39, 3) := by sorry
theorem d_QueryReader_comparison_19 : decode b_QueryReader_comparison 19 = .ok (.aload_n 2, 1) := by sorry
theorem d_QueryReader_comparison_20 : decode b_QueryReader_comparison 20 = .ok (.aload_n 1, 1) := by sorry
theorem d_QueryReader_comparison_21 : decode b_QueryReader_comparison 21 = .ok (.putfield 211, 3) := by sorry
theorem d_QueryReader_comparison_24 : decode b_QueryReader_comparison 24 = .ok (.aload_n 2, 1) := by sorry
theorem d_QueryReader_comparison_25 : decode b_QueryReader_comparison 25 = .ok (.aload_n 0, 1) := by sorry
theorem d_QueryReader_comparison_26 : decode b_QueryReader_comparison 26 = .ok (.invokevirtual 184, 3) := by sorry
theorem d_QueryReader_comparison_29 : decode b_QueryReader_comparison 29 = .ok (.putfield 215, 3) := by sorry
theorem d_QueryReader_comparison_32 : decode b_QueryReader_comparison 32 = .ok (.aload_n 2, 1) := by sorry
theorem d_QueryReader_comparison_33 : decode b_QueryReader_comparison 33 = .ok (.areturn, 1) := by sorry
abbrev b_QueryReader_whole : ByteArray := prog_7_method_2_code
def y_QueryReader_whole : MethodName := ⟨"QueryBench$QueryReader", "whole", "()LQueryBench$Query;"⟩
abbrev k_QueryReader_whole : Cond := .code y_QueryReader_whole b_QueryReader_whole 2 (some (.object "QueryBench$Query"))
theorem i_QueryReader_whole : k_QueryReader_whole ∈ gtbl := by sorry
theorem d_QueryReader_whole_0 : decode b_QueryReader_whole 0 = .ok (.aload_n 0, 1) := by sorry
theorem d_QueryReader_whole_1 : decode b_QueryReader_whole 1 = .ok (.iconst 0, 1) := by sorry
theorem d_QueryReader_whole_2 : decode b_QueryReader_whole 2 = .ok (.putfield 15, 3) := by sorry
theorem d_QueryReader_whole_5 : decode b_QueryReader_whole 5 = .ok (.aload_n 0, 1) := by sorry
theorem d_QueryReader_whole_6 : decode b_QueryReader_whole 6 = .ok (.getfield 9, 3) := by sorry
theorem d_QueryReader_whole_9 : decode b_QueryReader_whole 9 = .ok (.invokevirtual 19, 3) := by sorry
theorem d_QueryReader_whole_12 : decode b_QueryReader_whole 12 = .ok (.bipush 36, 2) := by sorry
theorem d_QueryReader_whole_14 : decode b_QueryReader_whole 14 = .ok (.if_icmp .eq 17, 3) := by sorry
theorem d_QueryReader_whole_17 : decode b_QueryReader_whole 17 = .ok (.aload_n 0, 1) := by sorry
theorem d_QueryReader_whole_18 : decode b_QueryReader_whole 18 = .ok (.getfield 9, 3) := by sorry
theorem d_QueryReader_whole_21 : decode b_QueryReader_whole 21 = .ok (.aload_n 0, 1) := by sorry
theorem d_QueryReader_whole_22 : decode b_QueryReader_whole 22 = .ok (.getfield 9, 3) := by sorry
theorem d_QueryReader_whole_25 : decode b_QueryReader_whole 25 = .ok (.getfield 25, 3) := by sorry
theorem d_QueryReader_whole_28 : decode b_QueryReader_whole 28 = .ok (.invokevirtual 28, 3) := by sorry
theorem d_QueryReader_whole_31 : decode b_QueryReader_whole 31 = .ok (.aload_n 0, 1) := by sorry
theorem d_QueryReader_whole_32 : decode b_QueryReader_whole 32 = .ok (.iconst 0, 1) := by sorry
theorem d_QueryReader_whole_33 : decode b_QueryReader_whole 33 = .ok (.invokevirtual 32, 3) := by sorry
theorem d_QueryReader_whole_36 : decode b_QueryReader_whole 36 = .ok (.astore_n 1, 1) := by sorry
theorem d_QueryReader_whole_37 : decode b_QueryReader_whole 37 = .ok (.aload_n 0, 1) := by sorry
theorem d_QueryReader_whole_38 : decode b_QueryReader_whole 38 = .ok (.getfield 9, 3) := by sorry
theorem d_QueryReader_whole_41 : decode b_QueryReader_whole 41 = .ok (.getfield 25, 3) := by sorry
theorem d_QueryReader_whole_44 : decode b_QueryReader_whole 44 = .ok (.aload_n 0, 1) := by sorry
theorem d_QueryReader_whole_45 : decode b_QueryReader_whole 45 = .ok (.getfield 9, 3) := by sorry
theorem d_QueryReader_whole_48 : decode b_QueryReader_whole 48 = .ok (.getfield 36, 3) := by sorry
theorem d_QueryReader_whole_51 : decode b_QueryReader_whole 51 = .ok (.if_icmp .ge 24, 3) := by sorry
theorem d_QueryReader_whole_54 : decode b_QueryReader_whole 54 = .ok (.aload_n 0, 1) := by sorry
theorem d_QueryReader_whole_55 : decode b_QueryReader_whole 55 = .ok (.getfield 9, 3) := by sorry
theorem d_QueryReader_whole_58 : decode b_QueryReader_whole 58 = .ok (.invokevirtual 39, 3) := by sorry
theorem d_QueryReader_whole_61 : decode b_QueryReader_whole 61 = .ok (.aload_n 0, 1) := by sorry
theorem d_QueryReader_whole_62 : decode b_QueryReader_whole 62 = .ok (.getfield 9, 3) := by sorry
theorem d_QueryReader_whole_65 : decode b_QueryReader_whole 65 = .ok (.aload_n 0, 1) := by sorry
theorem d_QueryReader_whole_66 : decode b_QueryReader_whole 66 = .ok (.getfield 9, 3) := by sorry
theorem d_QueryReader_whole_69 : decode b_QueryReader_whole 69 = .ok (.getfield 25, 3) := by sorry
theorem d_QueryReader_whole_72 : decode b_QueryReader_whole 72 = .ok (.invokevirtual 28, 3) := by sorry
theorem d_QueryReader_whole_75 : decode b_QueryReader_whole 75 = .ok (.aload_n 1, 1) := by sorry
theorem d_QueryReader_whole_76 : decode b_QueryReader_whole 76 = .ok (.areturn, 1) := by sorry
set_option maxHeartbeats 4000000 in
set_option maxRecDepth 100000 in
/-- QueryReader.selectors -/
theorem c_QR_selectors (l : Launch) (hl9 : l.stackTraces = false) (K : Nat → Nat × Nat) (dC : Nat → ClassId) (dI : Nat → Nat → Nat) (cI cV : ClassId) (cB : ClassId) (h0 qb qu : Nat) (ln : Int32) (bf : Nat → Int32) (n qr : Nat) (hn0 : n ≤ 4096) (hbf : byR bf) (o : Nat) (ho : o ≤ 16) (ok : Bool) (orL : Nat → Option (Nat × CT)) (cmL : Nat → Option (Nat × OT)) (qyL : Nat → Option (Nat × Bool × QT)) (hok : ok = true ↔ o < 16) (HS : o < 16 → ∀ nw : Int32, QCT l K dC dI cI cV cB h0 qb qu ln bf n qr y_QueryReader_selector (k_QueryReader_selector :: gtbl) [.ref qr, .int nw] ((o + 1)) (12 * (16 - (o + 1)) + 22) (360 * (16 - (o + 1)) + 660) 13 150 2 0 10 0 9 (5 * (16 - (o + 1)) + 5) 0 0 (OKe LD 8 (selD bf n orL (nwB nw)) sgLs) (NOd (selD bf n orL (nwB nw)))) (nw : Int32) : QCT l K dC dI cI cV cB h0 qb qu ln bf n qr y_QueryReader_selectors (k_QueryReader_selectors :: gtbl) [.ref qr, .int nw] o (12 * (16 - o) + 12) (360 * (16 - o) + 360) 6 90 0 6 0 54 9 (5 * (16 - o)) 2 0 (OKc LD 8 (slsD bf n ok orL (nwB nw)) sgLs) (NOd (slsD bf n ok orL (nwB nw))) := by sorry
end
section
theorem z_568 : (.classLink "QueryBench$QueryReader" 55 "QueryBench$Segment" : Cond) ∈ gtbl := by sorry
theorem z_569 : (.instantiable "QueryBench$Segment" 3 : Cond) ∈ gtbl := by sorry
theorem z_571 : (.instanceMethod ⟨"QueryBench$Segment", "<init>", "()V"⟩ : Cond) ∈ gtbl := by sorry
theorem z_575 : (.fieldLink "QueryBench$QueryReader" 62 "QueryBench$Segment" "descends" "Z" : Cond) ∈ gtbl := by sorry
theorem z_578 : (.fieldLink "QueryBench$QueryReader" 73 "QueryBench$Segment" "first" "LQueryBench$Selector;" : Cond) ∈ gtbl := by sorry
theorem z_590 : (.methodLink "QueryBench$QueryReader" 66 ⟨"QueryBench$QueryReader", "selectors", "(Z)LQueryBench$Selector;"⟩ : Cond) ∈ gtbl := by sorry
theorem z_592 : (.instanceMethod ⟨"QueryBench$QueryReader", "selectors", "(Z)LQueryBench$Selector;"⟩ : Cond) ∈ gtbl := by sorry
theorem z_789 : (.methodLink "QueryBench$QueryReader" 70 ⟨"QueryBench$QueryReader", "shortSelector", "(Z)LQueryBench$Selector;"⟩ : Cond) ∈ gtbl := by sorry
theorem z_791 : (.instanceMethod ⟨"QueryBench$QueryReader", "shortSelector", "(Z)LQueryBench$Selector;"⟩ : Cond) ∈ gtbl := by sorry
theorem nz_570 : (.methodLinkNest "QueryBench$QueryReader" 57 ⟨"QueryBench$Segment", "<init>", "()V"⟩ "QueryBench" : Cond) ∈ nwl := by sorry
set_option maxHeartbeats 4000000 in
set_option maxRecDepth 100000 in
/-- QueryReader.segment -/
theorem c_QR_segment (l : Launch) (hl9 : l.stackTraces = false) (K : Nat → Nat × Nat) (dC : Nat → ClassId) (dI : Nat → Nat → Nat) (cI cV : ClassId) (cB : ClassId) (h0 qb qu : Nat) (ln : Int32) (bf : Nat → Int32) (n qr : Nat) (hn0 : n ≤ 4096) (hbf : byR bf) (o : Nat) (ho : o ≤ 16) (ok : Bool) (orL : Nat → Option (Nat × CT)) (cmL : Nat → Option (Nat × OT)) (qyL : Nat → Option (Nat × Bool × QT)) (hok : ok = true ↔ o < 16) (HL : ∀ nw : Int32, QCT l K dC dI cI cV cB h0 qb qu ln bf n qr y_QueryReader_selectors (k_QueryReader_selectors :: gtbl) [.ref qr, .int nw] o (12 * (16 - o) + 12) (360 * (16 - o) + 360) 6 90 0 6 0 54 9 (5 * (16 - o)) 2 0 (OKc LD 8 (slsD bf n ok orL (nwB nw)) sgLs) (NOd (slsD bf n ok orL (nwB nw)))) (nw : Int32) : QCT l K dC dI cI cV cB h0 qb qu ln bf n qr y_QueryReader_segment (k_QueryReader_segment :: gtbl) [.ref qr, .int nw] o (12 * (16 - o) + 13) (360 * (16 - o) + 390) 7 100 0 5 0 51 8 (5 * (16 - o)) 1 0 (OKe GD 2 (segD bf n ok orL (nwB nw)) sgG) (NOd (segD bf n ok orL (nwB nw))) := by sorry
end
section
theorem z_23 : (.initialized "QueryBench$Query" : Cond) ∈ gtbl := by sorry
theorem z_536 : (.methodLink "QueryBench$QueryReader" 32 ⟨"QueryBench$QueryReader", "query", "(Z)LQueryBench$Query;"⟩ : Cond) ∈ gtbl := by sorry
theorem z_538 : (.instanceMethod ⟨"QueryBench$QueryReader", "query", "(Z)LQueryBench$Query;"⟩ : Cond) ∈ gtbl := by sorry
theorem z_540 : (.classLink "QueryBench$QueryReader" 42 "QueryBench$Query" : Cond) ∈ gtbl := by sorry
theorem z_541 : (.instantiable "QueryBench$Query" 4 : Cond) ∈ gtbl := by sorry
theorem z_542 : (.methodLink "QueryBench$QueryReader" 44 ⟨"QueryBench$Query", "<init>", "(Z)V"⟩ : Cond) ∈ gtbl := by sorry
theorem z_543 : (.instanceMethod ⟨"QueryBench$Query", "<init>", "(Z)V"⟩ : Cond) ∈ gtbl := by sorry
theorem z_564 : (.methodLink "QueryBench$QueryReader" 47 ⟨"QueryBench$QueryReader", "segment", "(Z)LQueryBench$Segment;"⟩ : Cond) ∈ gtbl := by sorry
theorem z_566 : (.instanceMethod ⟨"QueryBench$QueryReader", "segment", "(Z)LQueryBench$Segment;"⟩ : Cond) ∈ gtbl := by sorry
theorem z_713 : (.methodLink "QueryBench$QueryReader" 178 ⟨"QueryBench$QueryReader", "beginsQuery", "(I)Z"⟩ : Cond) ∈ gtbl := by sorry
theorem z_714 : (.static ⟨"QueryBench$QueryReader", "beginsQuery", "(I)Z"⟩ : Cond) ∈ gtbl := by sorry
theorem z_796 : (.methodLink "QueryBench$QueryReader" 51 ⟨"QueryBench$Query", "add", "(LQueryBench$Segment;)V"⟩ : Cond) ∈ gtbl := by sorry
theorem z_797 : (.instanceMethod ⟨"QueryBench$Query", "add", "(LQueryBench$Segment;)V"⟩ : Cond) ∈ gtbl := by sorry
theorem z_798 : (.selects "QueryBench$Query" ⟨"QueryBench$Query", "add", "(LQueryBench$Segment;)V"⟩ ⟨"QueryBench$Query", "add", "(LQueryBench$Segment;)V"⟩ : Cond) ∈ gtbl := by sorry
set_option maxHeartbeats 4000000 in
set_option maxRecDepth 100000 in
/-- QueryReader.query -/
theorem c_QR_query (l : Launch) (hl9 : l.stackTraces = false) (K : Nat → Nat × Nat) (dC : Nat → ClassId) (dI : Nat → Nat → Nat) (cI cV : ClassId) (cB : ClassId) (h0 qb qu : Nat) (ln : Int32) (bf : Nat → Int32) (n qr : Nat) (hn0 : n ≤ 4096) (hbf : byR bf) (o : Nat) (ho : o ≤ 16) (ok : Bool) (orL : Nat → Option (Nat × CT)) (cmL : Nat → Option (Nat × OT)) (qyL : Nat → Option (Nat × Bool × QT)) (hok : ok = true ↔ o < 16) (HG : ∀ nw : Int32, QCT l K dC dI cI cV cB h0 qb qu ln bf n qr y_QueryReader_segment (k_QueryReader_segment :: gtbl) [.ref qr, .int nw] o (12 * (16 - o) + 13) (360 * (16 - o) + 390) 7 100 0 5 0 51 8 (5 * (16 - o)) 1 0 (OKe GD 2 (segD bf n ok orL (nwB nw)) sgG) (NOd (segD bf n ok orL (nwB nw)))) (nw : Int32) : QCT l K dC dI cI cV cB h0 qb qu ln bf n qr y_QueryReader_query (k_QueryReader_query :: gtbl) [.ref qr, .int nw] o (12 * (16 - o) + 14) (360 * (16 - o) + 420) 4 50 0 7 0 60 7 (5 * (16 - o)) 1 1 (OKe QD 0 (qrD bf n ok orL (nwB nw)) sgQs) (NOd (qrD bf n ok orL (nwB nw))) := by sorry
set_option maxHeartbeats 4000000 in
set_option maxRecDepth 100000 in
/-- QueryReader.anyQuery -/
theorem c_QR_anyQuery (l : Launch) (hl9 : l.stackTraces = false) (K : Nat → Nat × Nat) (dC : Nat → ClassId) (dI : Nat → Nat → Nat) (cI cV : ClassId) (cB : ClassId) (h0 qb qu : Nat) (ln : Int32) (bf : Nat → Int32) (n qr : Nat) (hn0 : n ≤ 4096) (hbf : byR bf) (o : Nat) (ho : o ≤ 16) (ok : Bool) (orL : Nat → Option (Nat × CT)) (cmL : Nat → Option (Nat × OT)) (qyL : Nat → Option (Nat × Bool × QT)) (hok : ok = true ↔ o < 16) (HQ : ∀ nw : Int32, QCT l K dC dI cI cV cB h0 qb qu ln bf n qr y_QueryReader_query (k_QueryReader_query :: gtbl) [.ref qr, .int nw] o (12 * (16 - o) + 14) (360 * (16 - o) + 420) 4 50 0 7 0 60 7 (5 * (16 - o)) 1 1 (OKe QD 0 (qrD bf n ok orL (nwB nw)) sgQs) (NOd (qrD bf n ok orL (nwB nw)))) : QCT l K dC dI cI cV cB h0 qb qu ln bf n qr y_QueryReader_anyQuery (k_QueryReader_anyQuery :: gtbl) [.ref qr] o (12 * (16 - o) + 15) (360 * (16 - o) + 450) 4 50 0 7 0 60 7 (5 * (16 - o)) 1 0 (OKd QD 0 (anyD bf n (qrD bf n ok orL false))) (NOd (anyD bf n (qrD bf n ok orL false))) := by sorry
end
section
theorem z_320 : (.fieldLink "QueryBench$QueryReader" 254 "QueryBench$Value" "number" "J" : Cond) ∈ gtbl := by sorry
theorem z_324 : (.fieldLink "QueryBench$QueryReader" 251 "QueryBench$Value" "text" "[I" : Cond) ∈ gtbl := by sorry
theorem z_650 : (.methodLink "QueryBench$QueryReader" 107 ⟨"QueryBench$QueryReader", "isQuote", "(I)Z"⟩ : Cond) ∈ gtbl := by sorry
theorem z_651 : (.static ⟨"QueryBench$QueryReader", "isQuote", "(I)Z"⟩ : Cond) ∈ gtbl := by sorry
theorem z_653 : (.methodLink "QueryBench$QueryReader" 113 ⟨"QueryBench$Tape", "quoted", "()[I"⟩ : Cond) ∈ gtbl := by sorry
theorem z_760 : (.methodLink "QueryBench$QueryReader" 238 ⟨"QueryBench$Tape", "takeLetters", "(Ljava/lang/String;)V"⟩ : Cond) ∈ gtbl := by sorry
theorem z_761 : (.classLink "QueryBench$QueryReader" 223 "QueryBench$Value" : Cond) ∈ gtbl := by sorry
theorem z_762 : (.methodLink "QueryBench$QueryReader" 225 ⟨"QueryBench$Value", "<init>", "(I)V"⟩ : Cond) ∈ gtbl := by sorry
set_option maxHeartbeats 4000000 in
set_option maxRecDepth 100000 in
/-- QueryReader.written -/
theorem c_QR_written (l : Launch) (hl9 : l.stackTraces = false) (K : Nat → Nat × Nat) (dC : Nat → ClassId) (dI : Nat → Nat → Nat) (cI cV : ClassId) (cB : ClassId) (h0 qb qu : Nat) (ln : Int32) (bf : Nat → Int32) (n qr : Nat) (hn0 : n ≤ 4096) (hbf : byR bf) (o : Nat) (ho : o ≤ 16) (ok : Bool) (orL : Nat → Option (Nat × CT)) (cmL : Nat → Option (Nat × OT)) (qyL : Nat → Option (Nat × Bool × QT)) (hok : ok = true ↔ o < 16)  : QCT l K dC dI cI cV cB h0 qb qu ln bf n qr y_QueryReader_written (k_QueryReader_written :: gtbl) [.ref qr] o (12 * (16 - o) + 12) (360 * (16 - o) + 360) 4 40 2 0 10 0 2 (5 * (16 - o)) 0 0 (OKd LTv 0 (wrD bf n)) (NOd (wrD bf n)) := by sorry
end
section
theorem z_27 : (.initialized "QueryBench$Operand" : Cond) ∈ gtbl := by sorry
theorem z_709 : (.methodLink "QueryBench$QueryReader" 192 ⟨"QueryBench$QueryReader", "anyQuery", "()LQueryBench$Query;"⟩ : Cond) ∈ gtbl := by sorry
theorem z_711 : (.instanceMethod ⟨"QueryBench$QueryReader", "anyQuery", "()LQueryBench$Query;"⟩ : Cond) ∈ gtbl := by sorry
theorem z_720 : (.classLink "QueryBench$QueryReader" 202 "QueryBench$Operand" : Cond) ∈ gtbl := by sorry
theorem z_721 : (.instantiable "QueryBench$Operand" 4 : Cond) ∈ gtbl := by sorry
theorem z_722 : (.methodLink "QueryBench$QueryReader" 204 ⟨"QueryBench$Operand", "<init>", "(ILQueryBench$Value;)V"⟩ : Cond) ∈ gtbl := by sorry
theorem z_723 : (.instanceMethod ⟨"QueryBench$Operand", "<init>", "(ILQueryBench$Value;)V"⟩ : Cond) ∈ gtbl := by sorry
theorem z_730 : (.fieldLink "QueryBench$QueryReader" 207 "QueryBench$Operand" "query" "LQueryBench$Query;" : Cond) ∈ gtbl := by sorry
theorem z_733 : (.fieldLink "QueryBench$QueryReader" 242 "QueryBench$Operand" "inner" "LQueryBench$Operand;" : Cond) ∈ gtbl := by sorry
theorem z_751 : (.methodLink "QueryBench$QueryReader" 184 ⟨"QueryBench$QueryReader", "operand", "()LQueryBench$Operand;"⟩ : Cond) ∈ gtbl := by sorry
theorem z_753 : (.instanceMethod ⟨"QueryBench$QueryReader", "operand", "()LQueryBench$Operand;"⟩ : Cond) ∈ gtbl := by sorry
set_option maxHeartbeats 4000000 in
set_option maxRecDepth 100000 in
/-- QueryReader.lengthOperand -/
theorem c_QR_lengthOperand (l : Launch) (hl9 : l.stackTraces = false) (K : Nat → Nat × Nat) (dC : Nat → ClassId) (dI : Nat → Nat → Nat) (cI cV : ClassId) (cB : ClassId) (h0 qb qu : Nat) (ln : Int32) (bf : Nat → Int32) (n qr : Nat) (hn0 : n ≤ 4096) (hbf : byR bf) (o : Nat) (ho : o ≤ 16) (ok : Bool) (orL : Nat → Option (Nat × CT)) (cmL : Nat → Option (Nat × OT)) (qyL : Nat → Option (Nat × Bool × QT)) (hok : ok = true ↔ o < 16) (HP : o < 16 → QCT l K dC dI cI cV cB h0 qb qu ln bf n qr y_QueryReader_operand (k_QueryReader_operand :: gtbl) [.ref qr] ((o + 1)) (12 * (16 - (o + 1)) + 16) (360 * (16 - (o + 1)) + 480) 8 80 3 0 14 0 11 (5 * (16 - (o + 1)) + 1) 0 0 (OKd OD 0 cmL) (NOd cmL)) : QCT l K dC dI cI cV cB h0 qb qu ln bf n qr y_QueryReader_lengthOperand (k_QueryReader_lengthOperand :: gtbl) [.ref qr] o (12 * (16 - o) + 13) (360 * (16 - o) + 390) 4 60 0 0 0 0 11 (5 * (16 - o) + 1) 0 0 (OKd OD 0 (fun i9 => (fnD bf n 10 6 ok cmL i9).map (fun p9 => (p9.1, lenO p9.2)))) (NOd (fun i9 => (fnD bf n 10 6 ok cmL i9).map (fun p9 => (p9.1, lenO p9.2)))) := by sorry
set_option maxHeartbeats 4000000 in
set_option maxRecDepth 100000 in
/-- QueryReader.queryOperand -/
theorem c_QR_queryOperand8 (l : Launch) (hl9 : l.stackTraces = false) (K : Nat → Nat × Nat) (dC : Nat → ClassId) (dI : Nat → Nat → Nat) (cI cV : ClassId) (cB : ClassId) (h0 qb qu : Nat) (ln : Int32) (bf : Nat → Int32) (n qr : Nat) (hn0 : n ≤ 4096) (hbf : byR bf) (o : Nat) (ho : o ≤ 16) (ok : Bool) (orL : Nat → Option (Nat × CT)) (cmL : Nat → Option (Nat × OT)) (qyL : Nat → Option (Nat × Bool × QT)) (hok : ok = true ↔ o < 16) (HA : o < 16 → QCT l K dC dI cI cV cB h0 qb qu ln bf n qr y_QueryReader_anyQuery (k_QueryReader_anyQuery :: gtbl) [.ref qr] ((o + 1)) (12 * (16 - (o + 1)) + 15) (360 * (16 - (o + 1)) + 450) 4 50 0 7 0 60 7 (5 * (16 - (o + 1))) 1 0 (OKd QD 0 (anyD bf n qyL)) (NOd (anyD bf n qyL))) (sz : Heap) (E lv : Nat → Nat) (L : List Nat) (f : Nat → va_E) (i : Nat) (uc pl : Int32) (ug : Nat → Int32) (hO : PO cI cV E lv L f) (hin : i ≤ n) (ov : Nat) (kd : Int32) (va : Option Nat) : vx_Met l y_QueryReader_queryOperand (k_QueryReader_queryOperand :: gtbl) ({ frames := 12 * (16 - o) + 13, cells := 8 * (n - i) + 4, slots := 64 * (n - i) + 60, locals := 360 * (16 - o) + 390 }) (va_Pc [.ref qr, .ref (K 8).1, .ref ov] (ml K dC dI ([(qr, .inr (5, [.ref h0, .int (nI o)])), (h0, .inr (8, [.ref qb, .ref qu, .int uc, .int ln, .int (nI n), .int (nI i), .int pl])), (qb, .inl (cB, 4096, .inl bf)), (qu, .inl (cI, 4096, .inl ug)), (ov, .inr (2, [.int kd, va_rf va, .null, .null]))] ++ va_pl L f) [(cB, .byte), (cI, .int), (cV, .object "QueryBench$Value")] sz)) (va_Qr (fun (u : Nat × Nat × List Nat × (Nat → Nat) × (Nat → va_E) × Int32 × (Nat → Int32)) => QPn cI cV E L f i n sz.size 7 (5 * (16 - o)) 0 u.1 u.2.1 u.2.2.1 u.2.2.2.1 u.2.2.2.2.1 ∧ ∃ m : QT, (fnD bf n 8 5 ok (anyD bf n qyL)) i = some (u.2.1, m) ∧ DNx QD 0 E u.2.2.2.1 u.2.2.2.2.1 u.1 m) (fun u a9 t9 => mz dC dI ([(qr, .inr (5, [.ref h0, .int (nI o)])), (h0, .inr (8, [.ref qb, .ref qu, .int u.2.2.2.2.2.1, .int ln, .int (nI n), .int (nI u.2.1), .int pl])), (qb, .inl (cB, 4096, .inl bf)), (qu, .inl (cI, 4096, .inl u.2.2.2.2.2.2)), (ov, .inr (2, [.int kd, va_rf va, .ref u.1, .null]))] ++ va_pl ((L ++ u.2.2.1)) u.2.2.2.2.1) [(cB, .byte), (cI, .int), (cV, .object "QueryBench$Value")] (va_A ([(qr, .inr (5, [.ref h0, .int (nI o)])), (h0, .inr (8, [.ref qb, .ref qu, .int uc, .int ln, .int (nI n), .int (nI i), .int pl])), (qb, .inl (cB, 4096, .inl bf)), (qu, .inl (cI, 4096, .inl ug)), (ov, .inr (2, [.int kd, va_rf va, .null, .null]))] ++ va_pl L f) sz.size) t9 ∧ szk sz t9.heap (8 * (u.2.1 - i)) (64 * (u.2.1 - i)) ∧ a9 = ov) (va_A ([(qr, .inr (5, [.ref h0, .int (nI o)])), (h0, .inr (8, [.ref qb, .ref qu, .int uc, .int ln, .int (nI n), .int (nI i), .int pl])), (qb, .inl (cB, 4096, .inl bf)), (qu, .inl (cI, 4096, .inl ug)), (ov, .inr (2, [.int kd, va_rf va, .null, .null]))] ++ va_pl L f) sz.size)) (vx_X (fun (u : Int32 × Int32 × Int32 × (Nat → Int32) × Int32) => (fnD bf n 8 5 ok (anyD bf n qyL)) i = none) (fun En u t9 => En = UOX ∧ mz dC dI ([(qr, .inr (5, [.ref h0, .int u.2.2.2.2])), (h0, .inr (8, [.ref qb, .ref qu, .int u.2.1, .int ln, .int (nI n), .int u.1, .int u.2.2.1])), (qb, .inl (cB, 4096, .inl bf)), (qu, .inl (cI, 4096, .inl u.2.2.2.1))] ++ va_pl L f) [(cB, .byte), (cI, .int), (cV, .object "QueryBench$Value")] (va_A ([(qr, .inr (5, [.ref h0, .int (nI o)])), (h0, .inr (8, [.ref qb, .ref qu, .int uc, .int ln, .int (nI n), .int (nI i), .int pl])), (qb, .inl (cB, 4096, .inl bf)), (qu, .inl (cI, 4096, .inl ug)), (ov, .inr (2, [.int kd, va_rf va, .null, .null]))] ++ va_pl L f) sz.size) t9) (va_A ([(qr, .inr (5, [.ref h0, .int (nI o)])), (h0, .inr (8, [.ref qb, .ref qu, .int uc, .int ln, .int (nI n), .int (nI i), .int pl])), (qb, .inl (cB, 4096, .inl bf)), (qu, .inl (cI, 4096, .inl ug)), (ov, .inr (2, [.int kd, va_rf va, .null, .null]))] ++ va_pl L f) sz.size)) (8 * (n - i) + 4) (64 * (n - i) + 60) (va_A ([(qr, .inr (5, [.ref h0, .int (nI o)])), (h0, .inr (8, [.ref qb, .ref qu, .int uc, .int ln, .int (nI n), .int (nI i), .int pl])), (qb, .inl (cB, 4096, .inl bf)), (qu, .inl (cI, 4096, .inl ug)), (ov, .inr (2, [.int kd, va_rf va, .null, .null]))] ++ va_pl L f) sz.size) := by sorry
set_option maxHeartbeats 4000000 in
set_option maxRecDepth 100000 in
/-- QueryReader.queryOperand -/
theorem c_QR_queryOperand9 (l : Launch) (hl9 : l.stackTraces = false) (K : Nat → Nat × Nat) (dC : Nat → ClassId) (dI : Nat → Nat → Nat) (cI cV : ClassId) (cB : ClassId) (h0 qb qu : Nat) (ln : Int32) (bf : Nat → Int32) (n qr : Nat) (hn0 : n ≤ 4096) (hbf : byR bf) (o : Nat) (ho : o ≤ 16) (ok : Bool) (orL : Nat → Option (Nat × CT)) (cmL : Nat → Option (Nat × OT)) (qyL : Nat → Option (Nat × Bool × QT)) (hok : ok = true ↔ o < 16) (HA : o < 16 → QCT l K dC dI cI cV cB h0 qb qu ln bf n qr y_QueryReader_anyQuery (k_QueryReader_anyQuery :: gtbl) [.ref qr] ((o + 1)) (12 * (16 - (o + 1)) + 15) (360 * (16 - (o + 1)) + 450) 4 50 0 7 0 60 7 (5 * (16 - (o + 1))) 1 0 (OKd QD 0 (anyD bf n qyL)) (NOd (anyD bf n qyL))) (sz : Heap) (E lv : Nat → Nat) (L : List Nat) (f : Nat → va_E) (i : Nat) (uc pl : Int32) (ug : Nat → Int32) (hO : PO cI cV E lv L f) (hin : i ≤ n) (ov : Nat) (kd : Int32) (va : Option Nat) : vx_Met l y_QueryReader_queryOperand (k_QueryReader_queryOperand :: gtbl) ({ frames := 12 * (16 - o) + 13, cells := 8 * (n - i) + 4, slots := 64 * (n - i) + 60, locals := 360 * (16 - o) + 390 }) (va_Pc [.ref qr, .ref (K 9).1, .ref ov] (ml K dC dI ([(qr, .inr (5, [.ref h0, .int (nI o)])), (h0, .inr (8, [.ref qb, .ref qu, .int uc, .int ln, .int (nI n), .int (nI i), .int pl])), (qb, .inl (cB, 4096, .inl bf)), (qu, .inl (cI, 4096, .inl ug)), (ov, .inr (2, [.int kd, va_rf va, .null, .null]))] ++ va_pl L f) [(cB, .byte), (cI, .int), (cV, .object "QueryBench$Value")] sz)) (va_Qr (fun (u : Nat × Nat × List Nat × (Nat → Nat) × (Nat → va_E) × Int32 × (Nat → Int32)) => QPn cI cV E L f i n sz.size 7 (5 * (16 - o)) 0 u.1 u.2.1 u.2.2.1 u.2.2.2.1 u.2.2.2.2.1 ∧ ∃ m : QT, (fnD bf n 9 5 ok (anyD bf n qyL)) i = some (u.2.1, m) ∧ DNx QD 0 E u.2.2.2.1 u.2.2.2.2.1 u.1 m) (fun u a9 t9 => mz dC dI ([(qr, .inr (5, [.ref h0, .int (nI o)])), (h0, .inr (8, [.ref qb, .ref qu, .int u.2.2.2.2.2.1, .int ln, .int (nI n), .int (nI u.2.1), .int pl])), (qb, .inl (cB, 4096, .inl bf)), (qu, .inl (cI, 4096, .inl u.2.2.2.2.2.2)), (ov, .inr (2, [.int kd, va_rf va, .ref u.1, .null]))] ++ va_pl ((L ++ u.2.2.1)) u.2.2.2.2.1) [(cB, .byte), (cI, .int), (cV, .object "QueryBench$Value")] (va_A ([(qr, .inr (5, [.ref h0, .int (nI o)])), (h0, .inr (8, [.ref qb, .ref qu, .int uc, .int ln, .int (nI n), .int (nI i), .int pl])), (qb, .inl (cB, 4096, .inl bf)), (qu, .inl (cI, 4096, .inl ug)), (ov, .inr (2, [.int kd, va_rf va, .null, .null]))] ++ va_pl L f) sz.size) t9 ∧ szk sz t9.heap (8 * (u.2.1 - i)) (64 * (u.2.1 - i)) ∧ a9 = ov) (va_A ([(qr, .inr (5, [.ref h0, .int (nI o)])), (h0, .inr (8, [.ref qb, .ref qu, .int uc, .int ln, .int (nI n), .int (nI i), .int pl])), (qb, .inl (cB, 4096, .inl bf)), (qu, .inl (cI, 4096, .inl ug)), (ov, .inr (2, [.int kd, va_rf va, .null, .null]))] ++ va_pl L f) sz.size)) (vx_X (fun (u : Int32 × Int32 × Int32 × (Nat → Int32) × Int32) => (fnD bf n 9 5 ok (anyD bf n qyL)) i = none) (fun En u t9 => En = UOX ∧ mz dC dI ([(qr, .inr (5, [.ref h0, .int u.2.2.2.2])), (h0, .inr (8, [.ref qb, .ref qu, .int u.2.1, .int ln, .int (nI n), .int u.1, .int u.2.2.1])), (qb, .inl (cB, 4096, .inl bf)), (qu, .inl (cI, 4096, .inl u.2.2.2.1))] ++ va_pl L f) [(cB, .byte), (cI, .int), (cV, .object "QueryBench$Value")] (va_A ([(qr, .inr (5, [.ref h0, .int (nI o)])), (h0, .inr (8, [.ref qb, .ref qu, .int uc, .int ln, .int (nI n), .int (nI i), .int pl])), (qb, .inl (cB, 4096, .inl bf)), (qu, .inl (cI, 4096, .inl ug)), (ov, .inr (2, [.int kd, va_rf va, .null, .null]))] ++ va_pl L f) sz.size) t9) (va_A ([(qr, .inr (5, [.ref h0, .int (nI o)])), (h0, .inr (8, [.ref qb, .ref qu, .int uc, .int ln, .int (nI n), .int (nI i), .int pl])), (qb, .inl (cB, 4096, .inl bf)), (qu, .inl (cI, 4096, .inl ug)), (ov, .inr (2, [.int kd, va_rf va, .null, .null]))] ++ va_pl L f) sz.size)) (8 * (n - i) + 4) (64 * (n - i) + 60) (va_A ([(qr, .inr (5, [.ref h0, .int (nI o)])), (h0, .inr (8, [.ref qb, .ref qu, .int uc, .int ln, .int (nI n), .int (nI i), .int pl])), (qb, .inl (cB, 4096, .inl bf)), (qu, .inl (cI, 4096, .inl ug)), (ov, .inr (2, [.int kd, va_rf va, .null, .null]))] ++ va_pl L f) sz.size) := by sorry
end
section
theorem z_755 : (.methodLink "QueryBench$QueryReader" 218 ⟨"QueryBench$QueryReader", "lengthOperand", "()LQueryBench$Operand;"⟩ : Cond) ∈ gtbl := by sorry
theorem z_757 : (.instanceMethod ⟨"QueryBench$QueryReader", "lengthOperand", "()LQueryBench$Operand;"⟩ : Cond) ∈ gtbl := by sorry
theorem z_764 : (.methodLink "QueryBench$QueryReader" 226 ⟨"QueryBench$QueryReader", "queryOperand", "(Ljava/lang/String;LQueryBench$Operand;)LQueryBench$Operand;"⟩ : Cond) ∈ gtbl := by sorry
theorem z_766 : (.instanceMethod ⟨"QueryBench$QueryReader", "queryOperand", "(Ljava/lang/String;LQueryBench$Operand;)LQueryBench$Operand;"⟩ : Cond) ∈ gtbl := by sorry
theorem z_769 : (.methodLink "QueryBench$QueryReader" 232 ⟨"QueryBench$QueryReader", "written", "()LQueryBench$Value;"⟩ : Cond) ∈ gtbl := by sorry
theorem z_771 : (.instanceMethod ⟨"QueryBench$QueryReader", "written", "()LQueryBench$Value;"⟩ : Cond) ∈ gtbl := by sorry
set_option maxHeartbeats 4000000 in
set_option maxRecDepth 100000 in
/-- QueryReader.operand -/
theorem c_QR_operand (l : Launch) (hl9 : l.stackTraces = false) (K : Nat → Nat × Nat) (dC : Nat → ClassId) (dI : Nat → Nat → Nat) (cI cV : ClassId) (cB : ClassId) (h0 qb qu : Nat) (ln : Int32) (bf : Nat → Int32) (n qr : Nat) (hn0 : n ≤ 4096) (hbf : byR bf) (o : Nat) (ho : o ≤ 16) (ok : Bool) (orL : Nat → Option (Nat × CT)) (cmL : Nat → Option (Nat × OT)) (qyL : Nat → Option (Nat × Bool × QT)) (hok : ok = true ↔ o < 16) (HQ : ∀ nw : Int32, QCT l K dC dI cI cV cB h0 qb qu ln bf n qr y_QueryReader_query (k_QueryReader_query :: gtbl) [.ref qr, .int nw] o (12 * (16 - o) + 14) (360 * (16 - o) + 420) 4 50 0 7 0 60 7 (5 * (16 - o)) 1 1 (OKe QD 0 (qrD bf n ok orL (nwB nw)) sgQs) (NOd (qrD bf n ok orL (nwB nw)))) (HLn : QCT l K dC dI cI cV cB h0 qb qu ln bf n qr y_QueryReader_lengthOperand (k_QueryReader_lengthOperand :: gtbl) [.ref qr] o (12 * (16 - o) + 13) (360 * (16 - o) + 390) 4 60 0 0 0 0 11 (5 * (16 - o) + 1) 0 0 (OKd OD 0 (fun i9 => (fnD bf n 10 6 ok cmL i9).map (fun p9 => (p9.1, lenO p9.2)))) (NOd (fun i9 => (fnD bf n 10 6 ok cmL i9).map (fun p9 => (p9.1, lenO p9.2))))) (HA : o < 16 → QCT l K dC dI cI cV cB h0 qb qu ln bf n qr y_QueryReader_anyQuery (k_QueryReader_anyQuery :: gtbl) [.ref qr] ((o + 1)) (12 * (16 - (o + 1)) + 15) (360 * (16 - (o + 1)) + 450) 4 50 0 7 0 60 7 (5 * (16 - (o + 1))) 1 0 (OKd QD 0 (anyD bf n qyL)) (NOd (anyD bf n qyL))) (HWr : QCT l K dC dI cI cV cB h0 qb qu ln bf n qr y_QueryReader_written (k_QueryReader_written :: gtbl) [.ref qr] o (12 * (16 - o) + 12) (360 * (16 - o) + 360) 4 40 2 0 10 0 2 (5 * (16 - o)) 0 0 (OKd LTv 0 (wrD bf n)) (NOd (wrD bf n))) : QCT l K dC dI cI cV cB h0 qb qu ln bf n qr y_QueryReader_operand (k_QueryReader_operand :: gtbl) [.ref qr] o (12 * (16 - o) + 16) (360 * (16 - o) + 480) 8 80 3 0 14 0 11 (5 * (16 - o) + 1) 0 0 (OKd OD 0 (opD bf n ok orL cmL qyL)) (NOd (opD bf n ok orL cmL qyL)) := by sorry
end
section
theorem z_26 : (.initialized "QueryBench$Condition" : Cond) ∈ gtbl := by sorry
theorem z_670 : (.classLink "QueryBench$QueryReader" 159 "QueryBench$Condition" : Cond) ∈ gtbl := by sorry
theorem z_671 : (.instantiable "QueryBench$Condition" 6 : Cond) ∈ gtbl := by sorry
theorem z_672 : (.methodLink "QueryBench$QueryReader" 161 ⟨"QueryBench$Condition", "<init>", "(I)V"⟩ : Cond) ∈ gtbl := by sorry
theorem z_673 : (.instanceMethod ⟨"QueryBench$Condition", "<init>", "(I)V"⟩ : Cond) ∈ gtbl := by sorry
theorem z_685 : (.fieldLink "QueryBench$QueryReader" 211 "QueryBench$Condition" "left" "LQueryBench$Operand;" : Cond) ∈ gtbl := by sorry
theorem z_687 : (.fieldLink "QueryBench$QueryReader" 215 "QueryBench$Condition" "right" "LQueryBench$Operand;" : Cond) ∈ gtbl := by sorry
theorem z_747 : (.methodLink "QueryBench$QueryReader" 208 ⟨"QueryBench$QueryReader", "operator", "()I"⟩ : Cond) ∈ gtbl := by sorry
theorem z_749 : (.instanceMethod ⟨"QueryBench$QueryReader", "operator", "()I"⟩ : Cond) ∈ gtbl := by sorry
/-- r is a new condition, above the operand a -/
def QK (cI cV : ClassId) (E : Nat → Nat) (L : List Nat) (f : Nat → va_E) (i n z a bd r p : Nat) (N : List Nat) (E' : Nat → Nat) (f' : Nat → va_E) : Prop := E r = 0 ∧ E' r = 10 ∧ i + 1 ≤ p ∧ p ≤ n ∧ ∀ lv : Nat → Nat, PO cI cV E lv L f → ∀ b : Nat, bd ≤ b → lv a < b → ∃ lv' : Nat → Nat, QG cI cV E lv L f i n p z N E' lv' f' ∧ lv' r = b
set_option maxHeartbeats 4000000 in
set_option maxRecDepth 100000 in
/-- QueryReader.comparison -/
theorem c_QR_comparison (l : Launch) (hl9 : l.stackTraces = false) (K : Nat → Nat × Nat) (dC : Nat → ClassId) (dI : Nat → Nat → Nat) (cI cV : ClassId) (cB : ClassId) (h0 qb qu : Nat) (ln : Int32) (bf : Nat → Int32) (n qr : Nat) (hn0 : n ≤ 4096) (hbf : byR bf) (o : Nat) (ho : o ≤ 16) (ok : Bool) (orL : Nat → Option (Nat × CT)) (cmL : Nat → Option (Nat × OT)) (qyL : Nat → Option (Nat × Bool × QT)) (hok : ok = true ↔ o < 16) (HP : QCT l K dC dI cI cV cB h0 qb qu ln bf n qr y_QueryReader_operand (k_QueryReader_operand :: gtbl) [.ref qr] o (12 * (16 - o) + 16) (360 * (16 - o) + 480) 8 80 3 0 14 0 11 (5 * (16 - o) + 1) 0 0 (OKd OD 0 (opD bf n ok orL cmL qyL)) (NOd (opD bf n ok orL cmL qyL))) (sz : Heap) (E lv : Nat → Nat) (L : List Nat) (f : Nat → va_E) (i : Nat) (uc pl : Int32) (ug : Nat → Int32) (hO : PO cI cV E lv L f) (hin : i ≤ n) (a : Nat) (hEa : E a = 11) (Eb : Nat → Nat) (x0 : OT) (hEb : EX Eb E) (hEb0 : Eb a = 0) (hda : DNx OD 0 Eb E f a x0) : vx_Met l y_QueryReader_comparison (k_QueryReader_comparison :: gtbl) ({ frames := 12 * (16 - o) + 17, cells := 8 * (n - i) + 4, slots := 64 * (n - i) + 60, locals := 360 * (16 - o) + 510 }) (va_Pc [.ref qr, .ref a] (ml K dC dI ([(qr, .inr (5, [.ref h0, .int (nI o)])), (h0, .inr (8, [.ref qb, .ref qu, .int uc, .int ln, .int (nI n), .int (nI i), .int pl])), (qb, .inl (cB, 4096, .inl bf)), (qu, .inl (cI, 4096, .inl ug))] ++ va_pl L f) [(cB, .byte), (cI, .int), (cV, .object "QueryBench$Value")] sz)) (va_Qr (fun (u : Nat × Nat × List Nat × (Nat → Nat) × (Nat → va_E) × Int32 × (Nat → Int32)) => QK cI cV E L f i n sz.size a (5 * (16 - o) + 2) u.1 u.2.1 u.2.2.1 u.2.2.2.1 u.2.2.2.2.1 ∧ ∃ m : CT, (cpD bf n (opD bf n ok orL cmL qyL) x0) i = some (u.2.1, m) ∧ DNx KD 2 Eb u.2.2.2.1 u.2.2.2.2.1 u.1 m) (fun u a9 t9 => mz dC dI ([(qr, .inr (5, [.ref h0, .int (nI o)])), (h0, .inr (8, [.ref qb, .ref qu, .int u.2.2.2.2.2.1, .int ln, .int (nI n), .int (nI u.2.1), .int pl])), (qb, .inl (cB, 4096, .inl bf)), (qu, .inl (cI, 4096, .inl u.2.2.2.2.2.2))] ++ va_pl ((L ++ u.2.2.1)) u.2.2.2.2.1) [(cB, .byte), (cI, .int), (cV, .object "QueryBench$Value")] (va_A ([(qr, .inr (5, [.ref h0, .int (nI o)])), (h0, .inr (8, [.ref qb, .ref qu, .int uc, .int ln, .int (nI n), .int (nI i), .int pl])), (qb, .inl (cB, 4096, .inl bf)), (qu, .inl (cI, 4096, .inl ug))] ++ va_pl L f) sz.size) t9 ∧ szk sz t9.heap (8 * (u.2.1 - i) - 4) (64 * (u.2.1 - i) - 44) ∧ a9 = u.1) (va_A ([(qr, .inr (5, [.ref h0, .int (nI o)])), (h0, .inr (8, [.ref qb, .ref qu, .int uc, .int ln, .int (nI n), .int (nI i), .int pl])), (qb, .inl (cB, 4096, .inl bf)), (qu, .inl (cI, 4096, .inl ug))] ++ va_pl L f) sz.size)) (vx_X (fun (u : Int32 × Int32 × Int32 × (Nat → Int32) × Int32) => (cpD bf n (opD bf n ok orL cmL qyL) x0) i = none) (fun En u t9 => En = UOX ∧ mz dC dI ([(qr, .inr (5, [.ref h0, .int u.2.2.2.2])), (h0, .inr (8, [.ref qb, .ref qu, .int u.2.1, .int ln, .int (nI n), .int u.1, .int u.2.2.1])), (qb, .inl (cB, 4096, .inl bf)), (qu, .inl (cI, 4096, .inl u.2.2.2.1))] ++ va_pl L f) [(cB, .byte), (cI, .int), (cV, .object "QueryBench$Value")] (va_A ([(qr, .inr (5, [.ref h0, .int (nI o)])), (h0, .inr (8, [.ref qb, .ref qu, .int uc, .int ln, .int (nI n), .int (nI i), .int pl])), (qb, .inl (cB, 4096, .inl bf)), (qu, .inl (cI, 4096, .inl ug))] ++ va_pl L f) sz.size) t9) (va_A ([(qr, .inr (5, [.ref h0, .int (nI o)])), (h0, .inr (8, [.ref qb, .ref qu, .int uc, .int ln, .int (nI n), .int (nI i), .int pl])), (qb, .inl (cB, 4096, .inl bf)), (qu, .inl (cI, 4096, .inl ug))] ++ va_pl L f) sz.size)) (8 * (n - i) + 4) (64 * (n - i) + 60) (va_A ([(qr, .inr (5, [.ref h0, .int (nI o)])), (h0, .inr (8, [.ref qb, .ref qu, .int uc, .int ln, .int (nI n), .int (nI i), .int pl])), (qb, .inl (cB, 4096, .inl bf)), (qu, .inl (cI, 4096, .inl ug))] ++ va_pl L f) sz.size) := by sorry
end
section
theorem z_550 : (.fieldLink "QueryBench$QueryReader" 199 "QueryBench$Query" "singular" "Z" : Cond) ∈ gtbl := by sorry
theorem z_682 : (.fieldLink "QueryBench$QueryReader" 196 "QueryBench$Condition" "query" "LQueryBench$Query;" : Cond) ∈ gtbl := by sorry
theorem z_743 : (.methodLink "QueryBench$QueryReader" 188 ⟨"QueryBench$QueryReader", "comparison", "(LQueryBench$Operand;)LQueryBench$Condition;"⟩ : Cond) ∈ gtbl := by sorry
theorem z_745 : (.instanceMethod ⟨"QueryBench$QueryReader", "comparison", "(LQueryBench$Operand;)LQueryBench$Condition;"⟩ : Cond) ∈ gtbl := by sorry
set_option maxHeartbeats 4000000 in
set_option maxRecDepth 100000 in
/-- QueryReader.testOrComparison -/
theorem c_QR_testOrComparison (l : Launch) (hl9 : l.stackTraces = false) (K : Nat → Nat × Nat) (dC : Nat → ClassId) (dI : Nat → Nat → Nat) (cI cV : ClassId) (cB : ClassId) (h0 qb qu : Nat) (ln : Int32) (bf : Nat → Int32) (n qr : Nat) (hn0 : n ≤ 4096) (hbf : byR bf) (o : Nat) (ho : o ≤ 16) (ok : Bool) (orL : Nat → Option (Nat × CT)) (cmL : Nat → Option (Nat × OT)) (qyL : Nat → Option (Nat × Bool × QT)) (hok : ok = true ↔ o < 16) (HQ : ∀ nw : Int32, QCT l K dC dI cI cV cB h0 qb qu ln bf n qr y_QueryReader_query (k_QueryReader_query :: gtbl) [.ref qr, .int nw] o (12 * (16 - o) + 14) (360 * (16 - o) + 420) 4 50 0 7 0 60 7 (5 * (16 - o)) 1 1 (OKe QD 0 (qrD bf n ok orL (nwB nw)) sgQs) (NOd (qrD bf n ok orL (nwB nw)))) (HP : QCT l K dC dI cI cV cB h0 qb qu ln bf n qr y_QueryReader_operand (k_QueryReader_operand :: gtbl) [.ref qr] o (12 * (16 - o) + 16) (360 * (16 - o) + 480) 8 80 3 0 14 0 11 (5 * (16 - o) + 1) 0 0 (OKd OD 0 (opD bf n ok orL cmL qyL)) (NOd (opD bf n ok orL cmL qyL))) : QCT l K dC dI cI cV cB h0 qb qu ln bf n qr y_QueryReader_testOrComparison (k_QueryReader_testOrComparison :: gtbl) [.ref qr] o (12 * (16 - o) + 18) (360 * (16 - o) + 540) 6 60 0 6 0 54 10 (5 * (16 - o) + 2) 1 1 (OKd KD 2 (tcD bf n ok orL (opD bf n ok orL cmL qyL))) (NOd (tcD bf n ok orL (opD bf n ok orL cmL qyL))) := by sorry
end
section
theorem z_654 : (.methodLink "QueryBench$QueryReader" 117 ⟨"QueryBench$QueryReader", "or", "()LQueryBench$Condition;"⟩ : Cond) ∈ gtbl := by sorry
theorem z_656 : (.instanceMethod ⟨"QueryBench$QueryReader", "or", "()LQueryBench$Condition;"⟩ : Cond) ∈ gtbl := by sorry
theorem z_678 : (.fieldLink "QueryBench$QueryReader" 162 "QueryBench$Condition" "first" "LQueryBench$Condition;" : Cond) ∈ gtbl := by sorry
theorem z_701 : (.methodLink "QueryBench$QueryReader" 175 ⟨"QueryBench$QueryReader", "group", "()LQueryBench$Condition;"⟩ : Cond) ∈ gtbl := by sorry
theorem z_703 : (.instanceMethod ⟨"QueryBench$QueryReader", "group", "()LQueryBench$Condition;"⟩ : Cond) ∈ gtbl := by sorry
theorem QPn.wk {cI cV : ClassId} {E E1 : Nat → Nat} {L N : List Nat} {f f1 : Nat → va_E} {i n z s bd dm dm2 r p : Nat} (h : QPn cI cV E L f i n z s bd dm r p N E1 f1) (hd : i + dm2 ≤ p) : QPn cI cV E L f i n z s bd dm2 r p N E1 f1 := by sorry
set_option maxHeartbeats 4000000 in
set_option maxRecDepth 100000 in
/-- QueryReader.group -/
theorem c_QR_group (l : Launch) (hl9 : l.stackTraces = false) (K : Nat → Nat × Nat) (dC : Nat → ClassId) (dI : Nat → Nat → Nat) (cI cV : ClassId) (cB : ClassId) (h0 qb qu : Nat) (ln : Int32) (bf : Nat → Int32) (n qr : Nat) (hn0 : n ≤ 4096) (hbf : byR bf) (o : Nat) (ho : o ≤ 16) (ok : Bool) (orL : Nat → Option (Nat × CT)) (cmL : Nat → Option (Nat × OT)) (qyL : Nat → Option (Nat × Bool × QT)) (hok : ok = true ↔ o < 16) (HOr : o < 16 → QCT l K dC dI cI cV cB h0 qb qu ln bf n qr y_QueryReader_or (k_QueryReader_or :: gtbl) [.ref qr] ((o + 1)) (12 * (16 - (o + 1)) + 21) (360 * (16 - (o + 1)) + 630) 20 200 1 0 0 18 10 (5 * (16 - (o + 1)) + 4) 1 0 (OKd KD 2 orL) (NOd orL)) : QCT l K dC dI cI cV cB h0 qb qu ln bf n qr y_QueryReader_group (k_QueryReader_group :: gtbl) [.ref qr] o (12 * (16 - o) + 17) (360 * (16 - o) + 510) 12 150 0 7 0 60 10 (5 * (16 - o)) 2 0 (OKd KD 2 (gpD bf n ok orL)) (NOd (gpD bf n ok orL)) := by sorry
set_option maxHeartbeats 4000000 in
set_option maxRecDepth 100000 in
/-- QueryReader.negation -/
theorem c_QR_negation (l : Launch) (hl9 : l.stackTraces = false) (K : Nat → Nat × Nat) (dC : Nat → ClassId) (dI : Nat → Nat → Nat) (cI cV : ClassId) (cB : ClassId) (h0 qb qu : Nat) (ln : Int32) (bf : Nat → Int32) (n qr : Nat) (hn0 : n ≤ 4096) (hbf : byR bf) (o : Nat) (ho : o ≤ 16) (ok : Bool) (orL : Nat → Option (Nat × CT)) (cmL : Nat → Option (Nat × OT)) (qyL : Nat → Option (Nat × Bool × QT)) (hok : ok = true ↔ o < 16) (HGr : QCT l K dC dI cI cV cB h0 qb qu ln bf n qr y_QueryReader_group (k_QueryReader_group :: gtbl) [.ref qr] o (12 * (16 - o) + 17) (360 * (16 - o) + 510) 12 150 0 7 0 60 10 (5 * (16 - o)) 2 0 (OKd KD 2 (gpD bf n ok orL)) (NOd (gpD bf n ok orL))) (HAn : QCT l K dC dI cI cV cB h0 qb qu ln bf n qr y_QueryReader_anyQuery (k_QueryReader_anyQuery :: gtbl) [.ref qr] o (12 * (16 - o) + 15) (360 * (16 - o) + 450) 4 50 0 7 0 60 7 (5 * (16 - o)) 1 0 (OKd QD 0 (anyD bf n (qrD bf n ok orL false))) (NOd (anyD bf n (qrD bf n ok orL false)))) : QCT l K dC dI cI cV cB h0 qb qu ln bf n qr y_QueryReader_negation (k_QueryReader_negation :: gtbl) [.ref qr] o (12 * (16 - o) + 18) (360 * (16 - o) + 540) 16 160 0 6 0 50 10 (5 * (16 - o) + 2) 1 1 (OKd KD 2 (ngD bf n ok orL)) (NOd (ngD bf n ok orL)) := by sorry
end
section
theorem z_666 : (.methodLink "QueryBench$QueryReader" 172 ⟨"QueryBench$QueryReader", "negation", "()LQueryBench$Condition;"⟩ : Cond) ∈ gtbl := by sorry
theorem z_668 : (.instanceMethod ⟨"QueryBench$QueryReader", "negation", "()LQueryBench$Condition;"⟩ : Cond) ∈ gtbl := by sorry
theorem z_716 : (.methodLink "QueryBench$QueryReader" 181 ⟨"QueryBench$QueryReader", "testOrComparison", "()LQueryBench$Condition;"⟩ : Cond) ∈ gtbl := by sorry
theorem z_718 : (.instanceMethod ⟨"QueryBench$QueryReader", "testOrComparison", "()LQueryBench$Condition;"⟩ : Cond) ∈ gtbl := by sorry
theorem QPn.g2 {cI cV : ClassId} {E lv E1 : Nat → Nat} {L N : List Nat} {f f1 : Nat → va_E} {i n z s bd dm r p : Nat} (h : QPn cI cV E L f i n z s bd dm r p N E1 f1) (hO : PO cI cV E lv L f) : EX E E1 := by sorry
set_option maxHeartbeats 4000000 in
set_option maxRecDepth 100000 in
/-- QueryReader.basic -/
theorem c_QR_basic (l : Launch) (hl9 : l.stackTraces = false) (K : Nat → Nat × Nat) (dC : Nat → ClassId) (dI : Nat → Nat → Nat) (cI cV : ClassId) (cB : ClassId) (h0 qb qu : Nat) (ln : Int32) (bf : Nat → Int32) (n qr : Nat) (hn0 : n ≤ 4096) (hbf : byR bf) (o : Nat) (ho : o ≤ 16) (ok : Bool) (orL : Nat → Option (Nat × CT)) (cmL : Nat → Option (Nat × OT)) (qyL : Nat → Option (Nat × Bool × QT)) (hok : ok = true ↔ o < 16) (HNg : QCT l K dC dI cI cV cB h0 qb qu ln bf n qr y_QueryReader_negation (k_QueryReader_negation :: gtbl) [.ref qr] o (12 * (16 - o) + 18) (360 * (16 - o) + 540) 16 160 0 6 0 50 10 (5 * (16 - o) + 2) 1 1 (OKd KD 2 (ngD bf n ok orL)) (NOd (ngD bf n ok orL))) (HGr : QCT l K dC dI cI cV cB h0 qb qu ln bf n qr y_QueryReader_group (k_QueryReader_group :: gtbl) [.ref qr] o (12 * (16 - o) + 17) (360 * (16 - o) + 510) 12 150 0 7 0 60 10 (5 * (16 - o)) 2 0 (OKd KD 2 (gpD bf n ok orL)) (NOd (gpD bf n ok orL))) (HT : QCT l K dC dI cI cV cB h0 qb qu ln bf n qr y_QueryReader_testOrComparison (k_QueryReader_testOrComparison :: gtbl) [.ref qr] o (12 * (16 - o) + 18) (360 * (16 - o) + 540) 6 60 0 6 0 54 10 (5 * (16 - o) + 2) 1 1 (OKd KD 2 (tcD bf n ok orL (opD bf n ok orL cmL qyL))) (NOd (tcD bf n ok orL (opD bf n ok orL cmL qyL)))) (HP : QCT l K dC dI cI cV cB h0 qb qu ln bf n qr y_QueryReader_operand (k_QueryReader_operand :: gtbl) [.ref qr] o (12 * (16 - o) + 16) (360 * (16 - o) + 480) 8 80 3 0 14 0 11 (5 * (16 - o) + 1) 0 0 (OKd OD 0 (opD bf n ok orL cmL qyL)) (NOd (opD bf n ok orL cmL qyL))) : QCT l K dC dI cI cV cB h0 qb qu ln bf n qr y_QueryReader_basic (k_QueryReader_basic :: gtbl) [.ref qr] o (12 * (16 - o) + 19) (360 * (16 - o) + 570) 20 200 0 1 0 30 10 (5 * (16 - o) + 2) 1 0 (OKd KD 2 (baD bf n ok orL cmL qyL)) (NOd (baD bf n ok orL cmL qyL)) := by sorry
end
section
theorem z_658 : (.methodLink "QueryBench$QueryReader" 156 ⟨"QueryBench$QueryReader", "and", "()LQueryBench$Condition;"⟩ : Cond) ∈ gtbl := by sorry
theorem z_660 : (.instanceMethod ⟨"QueryBench$QueryReader", "and", "()LQueryBench$Condition;"⟩ : Cond) ∈ gtbl := by sorry
theorem z_662 : (.methodLink "QueryBench$QueryReader" 169 ⟨"QueryBench$QueryReader", "basic", "()LQueryBench$Condition;"⟩ : Cond) ∈ gtbl := by sorry
theorem z_664 : (.instanceMethod ⟨"QueryBench$QueryReader", "basic", "()LQueryBench$Condition;"⟩ : Cond) ∈ gtbl := by sorry
theorem z_680 : (.fieldLink "QueryBench$QueryReader" 167 "QueryBench$Condition" "next" "LQueryBench$Condition;" : Cond) ∈ gtbl := by sorry
set_option maxHeartbeats 4000000 in
set_option maxRecDepth 100000 in
/-- QueryReader.and -/
theorem c_QR_and (l : Launch) (hl9 : l.stackTraces = false) (K : Nat → Nat × Nat) (dC : Nat → ClassId) (dI : Nat → Nat → Nat) (cI cV : ClassId) (cB : ClassId) (h0 qb qu : Nat) (ln : Int32) (bf : Nat → Int32) (n qr : Nat) (hn0 : n ≤ 4096) (hbf : byR bf) (o : Nat) (ho : o ≤ 16) (ok : Bool) (orL : Nat → Option (Nat × CT)) (cmL : Nat → Option (Nat × OT)) (qyL : Nat → Option (Nat × Bool × QT)) (hok : ok = true ↔ o < 16) (HB : QCT l K dC dI cI cV cB h0 qb qu ln bf n qr y_QueryReader_basic (k_QueryReader_basic :: gtbl) [.ref qr] o (12 * (16 - o) + 19) (360 * (16 - o) + 570) 20 200 0 1 0 30 10 (5 * (16 - o) + 2) 1 0 (OKd KD 2 (baD bf n ok orL cmL qyL)) (NOd (baD bf n ok orL cmL qyL))) : QCT l K dC dI cI cV cB h0 qb qu ln bf n qr y_QueryReader_and (k_QueryReader_and :: gtbl) [.ref qr] o (12 * (16 - o) + 20) (360 * (16 - o) + 600) 20 200 0 0 0 24 10 (5 * (16 - o) + 3) 1 0 (OKd KD 2 (anD bf n ok orL cmL qyL)) (NOd (anD bf n ok orL cmL qyL)) := by sorry
set_option maxHeartbeats 4000000 in
set_option maxRecDepth 100000 in
/-- QueryReader.or -/
theorem c_QR_or (l : Launch) (hl9 : l.stackTraces = false) (K : Nat → Nat × Nat) (dC : Nat → ClassId) (dI : Nat → Nat → Nat) (cI cV : ClassId) (cB : ClassId) (h0 qb qu : Nat) (ln : Int32) (bf : Nat → Int32) (n qr : Nat) (hn0 : n ≤ 4096) (hbf : byR bf) (o : Nat) (ho : o ≤ 16) (ok : Bool) (orL : Nat → Option (Nat × CT)) (cmL : Nat → Option (Nat × OT)) (qyL : Nat → Option (Nat × Bool × QT)) (hok : ok = true ↔ o < 16) (HN : QCT l K dC dI cI cV cB h0 qb qu ln bf n qr y_QueryReader_and (k_QueryReader_and :: gtbl) [.ref qr] o (12 * (16 - o) + 20) (360 * (16 - o) + 600) 20 200 0 0 0 24 10 (5 * (16 - o) + 3) 1 0 (OKd KD 2 (anD bf n ok orL cmL qyL)) (NOd (anD bf n ok orL cmL qyL))) : QCT l K dC dI cI cV cB h0 qb qu ln bf n qr y_QueryReader_or (k_QueryReader_or :: gtbl) [.ref qr] o (12 * (16 - o) + 21) (360 * (16 - o) + 630) 20 200 1 0 0 18 10 (5 * (16 - o) + 4) 1 0 (OKd KD 2 (orD bf n ok orL cmL qyL)) (NOd (orD bf n ok orL cmL qyL)) := by sorry
end
section
theorem z_615 : (.fieldLink "QueryBench$QueryReader" 137 "QueryBench$Selector" "hasStart" "Z" : Cond) ∈ gtbl := by sorry
theorem z_620 : (.fieldLink "QueryBench$QueryReader" 133 "QueryBench$Selector" "start" "J" : Cond) ∈ gtbl := by sorry
theorem z_627 : (.fieldLink "QueryBench$QueryReader" 121 "QueryBench$Selector" "filter" "LQueryBench$Condition;" : Cond) ∈ gtbl := by sorry
theorem z_782 : (.methodLink "QueryBench$QueryReader" 125 ⟨"QueryBench$QueryReader", "slice", "(LQueryBench$Selector;)V"⟩ : Cond) ∈ gtbl := by sorry
theorem z_784 : (.instanceMethod ⟨"QueryBench$QueryReader", "slice", "(LQueryBench$Selector;)V"⟩ : Cond) ∈ gtbl := by sorry
set_option maxHeartbeats 4000000 in
set_option maxRecDepth 100000 in
/-- QueryReader.selector -/
theorem c_QR_selector (l : Launch) (hl9 : l.stackTraces = false) (K : Nat → Nat × Nat) (dC : Nat → ClassId) (dI : Nat → Nat → Nat) (cI cV : ClassId) (cB : ClassId) (h0 qb qu : Nat) (ln : Int32) (bf : Nat → Int32) (n qr : Nat) (hn0 : n ≤ 4096) (hbf : byR bf) (o : Nat) (ho : o ≤ 16) (ok : Bool) (orL : Nat → Option (Nat × CT)) (cmL : Nat → Option (Nat × OT)) (qyL : Nat → Option (Nat × Bool × QT)) (hok : ok = true ↔ o < 16) (HOr : QCT l K dC dI cI cV cB h0 qb qu ln bf n qr y_QueryReader_or (k_QueryReader_or :: gtbl) [.ref qr] o (12 * (16 - o) + 21) (360 * (16 - o) + 630) 20 200 1 0 0 18 10 (5 * (16 - o) + 4) 1 0 (OKd KD 2 (orD bf n ok orL cmL qyL)) (NOd (orD bf n ok orL cmL qyL))) (nw : Int32) : QCT l K dC dI cI cV cB h0 qb qu ln bf n qr y_QueryReader_selector (k_QueryReader_selector :: gtbl) [.ref qr, .int nw] o (12 * (16 - o) + 22) (360 * (16 - o) + 660) 13 150 2 0 10 0 9 (5 * (16 - o) + 5) 0 0 (OKe LD 8 (selD bf n (orD bf n ok orL cmL qyL) (nwB nw)) sgLs) (NOd (selD bf n (orD bf n ok orL cmL qyL) (nwB nw))) := by sorry
end
section
def QLV (l : Launch) (K : Nat → Nat × Nat) (dC : Nat → ClassId) (dI : Nat → Nat → Nat) (cI cV : ClassId) (cB : ClassId) (h0 qb qu : Nat) (ln : Int32) (bf : Nat → Int32) (n qr : Nat) (o : Nat) (orF : Nat → Option (Nat × CT)) (cmF : Nat → Option (Nat × OT)) (qyF : Nat → Option (Nat × Bool × QT)) : Prop := (∀ nw : Int32, QCT l K dC dI cI cV cB h0 qb qu ln bf n qr y_QueryReader_selector (k_QueryReader_selector :: gtbl) [.ref qr, .int nw] o (12 * (16 - o) + 22) (360 * (16 - o) + 660) 13 150 2 0 10 0 9 (5 * (16 - o) + 5) 0 0 (OKe LD 8 (selD bf n orF (nwB nw)) sgLs) (NOd (selD bf n orF (nwB nw)))) ∧ QCT l K dC dI cI cV cB h0 qb qu ln bf n qr y_QueryReader_query (k_QueryReader_query :: gtbl) [.ref qr, .int 0] o (12 * (16 - o) + 14) (360 * (16 - o) + 420) 4 50 0 7 0 60 7 (5 * (16 - o)) 1 1 (OKe QD 0 qyF sgQs) (NOd qyF) ∧ QCT l K dC dI cI cV cB h0 qb qu ln bf n qr y_QueryReader_operand (k_QueryReader_operand :: gtbl) [.ref qr] o (12 * (16 - o) + 16) (360 * (16 - o) + 480) 8 80 3 0 14 0 11 (5 * (16 - o) + 1) 0 0 (OKd OD 0 cmF) (NOd cmF) ∧ QCT l K dC dI cI cV cB h0 qb qu ln bf n qr y_QueryReader_anyQuery (k_QueryReader_anyQuery :: gtbl) [.ref qr] o (12 * (16 - o) + 15) (360 * (16 - o) + 450) 4 50 0 7 0 60 7 (5 * (16 - o)) 1 0 (OKd QD 0 (anyD bf n qyF)) (NOd (anyD bf n qyF)) ∧ QCT l K dC dI cI cV cB h0 qb qu ln bf n qr y_QueryReader_or (k_QueryReader_or :: gtbl) [.ref qr] o (12 * (16 - o) + 21) (360 * (16 - o) + 630) 20 200 1 0 0 18 10 (5 * (16 - o) + 4) 1 0 (OKd KD 2 orF) (NOd orF)
theorem c_QLs (l : Launch) (hl9 : l.stackTraces = false) (K : Nat → Nat × Nat) (dC : Nat → ClassId) (dI : Nat → Nat → Nat) (cI cV : ClassId) (cB : ClassId) (h0 qb qu : Nat) (ln : Int32) (bf : Nat → Int32) (n qr : Nat) (hn0 : n ≤ 4096) (hbf : byR bf) (o : Nat) (ho : o ≤ 16) (ok : Bool) (orL : Nat → Option (Nat × CT)) (cmL : Nat → Option (Nat × OT)) (qyL : Nat → Option (Nat × Bool × QT)) (hok : ok = true ↔ o < 16) (h : o < 16 → QLV l K dC dI cI cV cB h0 qb qu ln bf n qr (o + 1) orL cmL qyL) : QLV l K dC dI cI cV cB h0 qb qu ln bf n qr o (orD bf n ok orL cmL qyL) (opD bf n ok orL cmL qyL) (qrD bf n ok orL false) := by sorry
theorem c_QLall (l : Launch) (hl9 : l.stackTraces = false) (K : Nat → Nat × Nat) (dC : Nat → ClassId) (dI : Nat → Nat → Nat) (cI cV : ClassId) (cB : ClassId) (h0 qb qu : Nat) (ln : Int32) (bf : Nat → Int32) (n qr : Nat) (hn0 : n ≤ 4096) (hbf : byR bf) : ∀ k o : Nat, o + k = 16 → QLV l K dC dI cI cV cB h0 qb qu ln bf n qr o (DDd bf n k).1 (DDd bf n k).2.1 (DDd bf n k).2.2 := by sorry
end
section
section QEqD
variable {f : Nat → Int32} {n : Nat}
theorem skipH_nb (i : Nat) : ∀ k, n - i = k → ¬ blkH (hereV f n (skipH f n i)) := by sorry
theorem skipHH (i : Nat) : skipH f n (skipH f n i) = skipH f n i := by sorry
theorem skipH_ge (i : Nat) : i ≤ skipH f n i := by sorry
/-- with the blanks behind it -/
abbrev skm (f : Nat → Int32) (n : Nat) {α : Type} (p : Nat × α) : Nat × α := (skipH f n p.1, p.2)
theorem map_map' {α β γ : Type} (o : Option α) (g : α → β) (h : β → γ) : (o.map g).map h = o.map (fun x => h (g x)) := by sorry
theorem whB_ib (hbf : byR f) (i : Nat) {mi : Bool} (h : mi = true ∨ ¬ hereV f n i = 48) : (whB f n i mi).map (fun p => (p.2, p.1)) = iBv f n mi i := by sorry
theorem ic_eq (hbf : byR f) (i : Nat) : (whM f n i).map (fun p => (p.2, p.1)) = iCv f n i := by sorry
theorem ic_none {i : Nat} (h1 : ¬ hereV f n i = 45) (h2 : ¬ digH (hereV f n i)) : iCv f n i = none := by sorry
/-- the reference's slices, and the class's, but for blanks behind them -/
theorem slc_eq (hbf : byR f) (i : Nat) : (slP f n i).map (skm f n) = (slV f n i).map (skm f n) := by sorry
theorem sel_eq (hbf : byR f) (hn4 : n ≤ 4096) {orL orR : Nat → Option (Nat × CT)} (hor : ∀ i, orL i = (orR (skipH f n i)).map (skm f n)) (sg : Bool) (i : Nat) : (selP f n orR sg i).map (skm f n) = (selD1 f n orL sg i).map (skm f n) := by sorry
theorem selC_eq (hbf : byR f) (hn4 : n ≤ 4096) {orL orR : Nat → Option (Nat × CT)} (hor : ∀ i, orL i = (orR (skipH f n i)).map (skm f n)) (sg : Bool) (i : Nat) : selD f n orL sg i = (selP f n orR sg (skipH f n i)).map (skm f n) := by sorry
/-- a reader of the text goes on -/
abbrev Mon {α : Type} (o : Nat → Option (Nat × α)) : Prop := ∀ i p, o i = some p → i ≤ p.1
theorem whM_ge {i j : Nat} {v : Int64} (h : whM f n i = some (v, j)) : i < j := by sorry
theorem slT_ge {b : Option Int64} {j2 : Nat} {p : Nat × Option Int64 × Int64} (h : slT f n b j2 = some p) : j2 ≤ p.1 := by sorry
theorem slP_ge {i : Nat} {p : Nat × Option Int64 × Int64} (h : slP f n i = some p) : i ≤ p.1 := by sorry
theorem qtQ_ge {q : Int32} {i j : Nat} {us : List Int32} (h : qtQ f n q i = some (us, j)) : i < j := by sorry
theorem selP_ge {orR : Nat → Option (Nat × CT)} (hM : Mon orR) {sg : Bool} {i : Nat} {p : Nat × Bool × QT} (h : selP f n orR sg i = some p) : i ≤ p.1 := by sorry
/-- further selectors -/
theorem slsL_eq (hbf : byR f) (hn4 : n ≤ 4096) {orL orR : Nat → Option (Nat × CT)} (hor : ∀ i, orL i = (orR (skipH f n i)).map (skm f n)) (hM : Mon orR) (sg : Bool) : ∀ (s k m j : Nat) (fl : Bool) (ac : List QT), n - j ≤ s → s < k → s < m → slsL f n orR sg k j false fl ac = (selD f n orL sg j).bind (fun q => (slsLD f n orL sg m q.1).bind (fun e => if hereV f n e.1 = 93 then some (e.1 + 1, false, ac ++ q.2.2 :: e.2) else none)) := by sorry
theorem sls_eq (hbf : byR f) (hn4 : n ≤ 4096) {orL orR : Nat → Option (Nat × CT)} (hor : ∀ i, orL i = (orR (skipH f n i)).map (skm f n)) (hM : Mon orR) (ok sg : Bool) (i : Nat) : slsP f n ok orR sg i = slsD f n ok orL sg i := by sorry
theorem slsL_ge {orR : Nat → Option (Nat × CT)} (hM : Mon orR) {sg : Bool} : ∀ (k j : Nat) (fst fl : Bool) (ac : List QT) (e : Nat × Bool × List QT), slsL f n orR sg k j fst fl ac = some e → j ≤ e.1 := by sorry
theorem slsP_ge {orR : Nat → Option (Nat × CT)} (hM : Mon orR) {ok sg : Bool} : Mon (slsP f n ok orR sg) := by sorry
theorem nmE_ge : ∀ (k j : Nat), j ≤ nmE f n k j := by sorry
theorem sgN_ge {sg fl ds : Bool} {j : Nat} {p : Nat × Bool × QT} (h : sgN f n sg j fl ds = some p) : j ≤ p.1 := by sorry
theorem sgP_ge {orR : Nat → Option (Nat × CT)} (hM : Mon orR) {ok sg : Bool} : Mon (sgP f n ok orR sg) := by sorry
theorem qrL_ge {orR : Nat → Option (Nat × CT)} (hM : Mon orR) {ok sg : Bool} : ∀ (k i : Nat) (fl : Bool) (ac : List QT) (p : Nat × Bool × List QT), qrL f n ok orR sg k i fl ac = some p → i ≤ p.1 := by sorry
theorem qrP_ge {orR : Nat → Option (Nat × CT)} (hM : Mon orR) {ok sg rt : Bool} : Mon (qrP f n ok orR sg rt) := by sorry
/-- names -/
theorem nm_eq2 : ∀ (s k m j : Nat), n - j ≤ s → s ≤ k → s ≤ m → n - j ≤ s → nmC f n k j = nmE f n m j := by sorry
theorem sh_eq (sg : Bool) (j : Nat) (fl ds : Bool) : sgN f n sg j fl ds = (shD f n sg j).map (fun p => (p.1, fl && p.2.1, segS ds p.2.2)) := by sorry
theorem seg_eq (hbf : byR f) (hn4 : n ≤ 4096) {orL orR : Nat → Option (Nat × CT)} (hor : ∀ i, orL i = (orR (skipH f n i)).map (skm f n)) (hM : Mon orR) (ok sg : Bool) (i : Nat) : sgP f n ok orR sg i = segD f n ok orL sg i := by sorry
theorem qrL_eq (hbf : byR f) (hn4 : n ≤ 4096) {orL orR : Nat → Option (Nat × CT)} (hor : ∀ i, orL i = (orR (skipH f n i)).map (skm f n)) (hM : Mon orR) (ok sg : Bool) : ∀ (s k m i : Nat) (fl : Bool) (ac : List QT), n - i ≤ s → s < k → s < m → qrL f n ok orR sg k i fl ac = (qrLD f n ok orL sg m i fl).map (fun q => (q.1, q.2.1, ac ++ q.2.2)) := by sorry
theorem qr_eq (hbf : byR f) (hn4 : n ≤ 4096) {orL orR : Nat → Option (Nat × CT)} (hor : ∀ i, orL i = (orR (skipH f n i)).map (skm f n)) (hM : Mon orR) (ok sg : Bool) (i : Nat) : qrD f n ok orL sg i = qrP f n ok orR sg (decide (hereV f n i = 36)) (i + 1) := by sorry
theorem mt2 {b : Nat → Int32} {c d : Int32} (hc : b 0 &&& 255 = c) (hd : b 1 &&& 255 = d) (j : Nat) : mtB f n j b 2 = true ↔ hereV f n j = c ∧ hereV f n (j + 1) = d := by sorry
theorem br_eq (hbf : byR f) {α : Type} {ok : Bool} {inn : Nat → Option (Nat × α)} {g : α → OT} {cmR : Nat → Option (Nat × OT)} {qyR : Bool → Nat → Option (Nat × Bool × QT)} {i j : Nat} (h : (inn (skipH f n (j + 1))).map (fun p => (p.1, g p.2)) = fnA f n cmR qyR i (skipH f n (j + 1))) : (brD f n ok inn j).map (fun p => (p.1, g p.2)) = fnT f n ok cmR qyR i j := by sorry
theorem op_eq (hbf : byR f) (hn4 : n ≤ 4096) {orL orR : Nat → Option (Nat × CT)} {cmC cmR : Nat → Option (Nat × OT)} {qyC : Nat → Option (Nat × Bool × QT)} {qyR : Bool → Nat → Option (Nat × Bool × QT)} (hor : ∀ i, orL i = (orR (skipH f n i)).map (skm f n)) (hM : Mon orR) (hcm : ∀ i, cmC i = cmR i) (hqy : ∀ i, qyC i = qyR (decide (hereV f n i = 36)) (i + 1)) (ok : Bool) (i : Nat) : opD f n ok orL cmC qyC i = cmP f n ok orR cmR qyR i := by sorry
theorem opr_eq (j : Nat) : oprD f n j = opP f n j := by sorry
theorem cp_eq (hbf : byR f) {op cm : Nat → Option (Nat × OT)} (h : ∀ i, op i = cm i) (x : OT) (j : Nat) : cpD f n op x j = cpP f n cm x j := by sorry
theorem gr_eq (hbf : byR f) {orL orR : Nat → Option (Nat × CT)} (hor : ∀ i, orL i = (orR (skipH f n i)).map (skm f n)) (ok : Bool) {i : Nat} (h : hereV f n i = 40) : gpD f n ok orL i = (if ok = false then none else match orR (skipH f n (i + 1)) with
      | none => none
      | some j => if hereV f n (skipH f n j.1) = 41 then some (skipH f n j.1 + 1, j.2) else none) := by sorry
theorem ba_eq (hbf : byR f) (hn4 : n ≤ 4096) {orL orR : Nat → Option (Nat × CT)} {cmC cmR : Nat → Option (Nat × OT)} {qyC : Nat → Option (Nat × Bool × QT)} {qyR : Bool → Nat → Option (Nat × Bool × QT)} (hor : ∀ i, orL i = (orR (skipH f n i)).map (skm f n)) (hM : Mon orR) (hcm : ∀ i, cmC i = cmR i) (hqy : ∀ i, qyC i = qyR (decide (hereV f n i = 36)) (i + 1)) (ok : Bool) (i : Nat) : baD f n ok orL cmC qyC i = (baP f n ok orR cmR qyR (skipH f n i)).map (skm f n) := by sorry
theorem li_eq (hbf : byR f) {oneC one : Nat → Option (Nat × CT)} (h1 : ∀ i, oneC i = (one (skipH f n i)).map (skm f n)) (hM : Mon one) {c : Int32} {tx : Nat} (hc : c ≠ -1) (ht0 : mtx tx 0 &&& 255 = c) (ht1 : mtx tx 1 &&& 255 = c) : ∀ (s m k i : Nat) (ac : List CT), n - i ≤ s → s < m → s < k → (oneC i).bind (fun p => (liD f n oneC c m p.1).map (fun r => (r.1, ac ++ p.2 :: r.2))) = (liP f n one c tx k (skipH f n i) ac).map (skm f n) := by sorry
theorem cmP_ge {ok : Bool} {orR : Nat → Option (Nat × CT)} {cmR : Nat → Option (Nat × OT)} {qyR : Bool → Nat → Option (Nat × Bool × QT)} (hM : Mon orR) (hMc : Mon cmR) (hMq : ∀ b, Mon (qyR b)) : Mon (cmP f n ok orR cmR qyR) := by sorry
theorem cpP_ge {cm : Nat → Option (Nat × OT)} (hM : Mon cm) {x : OT} : Mon (cpP f n cm x) := by sorry
theorem baP_ge {ok : Bool} {orR : Nat → Option (Nat × CT)} {cmR : Nat → Option (Nat × OT)} {qyR : Bool → Nat → Option (Nat × Bool × QT)} (hM : Mon orR) (hMc : Mon cmR) (hMq : ∀ b, Mon (qyR b)) : Mon (baP f n ok orR cmR qyR) := by sorry
theorem liP_ge {one : Nat → Option (Nat × CT)} (hM : Mon one) {c : Int32} {tx : Nat} : ∀ (k i : Nat) (ac : List CT) (p : Nat × List CT), liP f n one c tx k i ac = some p → i ≤ p.1 := by sorry
theorem anP_ge {ok : Bool} {orR : Nat → Option (Nat × CT)} {cmR : Nat → Option (Nat × OT)} {qyR : Bool → Nat → Option (Nat × Bool × QT)} (hb : Mon (baP f n ok orR cmR qyR)) : Mon (anP f n ok orR cmR qyR) := by sorry
theorem orP_ge {ok : Bool} {orR : Nat → Option (Nat × CT)} {cmR : Nat → Option (Nat × OT)} {qyR : Bool → Nat → Option (Nat × Bool × QT)} (hb : Mon (anP f n ok orR cmR qyR)) : Mon (orP f n ok orR cmR qyR) := by sorry
/-- a list of the class, and one of the reference -/
theorem lst_eq {oneC : Nat → Option (Nat × CT)} {c : Int32} {m i : Nat} {R : Option (Nat × List CT)} (fn : List CT → CT) (h : (oneC i).bind (fun p => (liD f n oneC c m p.1).map (fun r => (r.1, [] ++ p.2 :: r.2))) = R.map (skm f n)) : (oneC i).bind (fun p => (liD f n oneC c m p.1).map (fun r => (r.1, fn (p.2 :: r.2)))) = (R.map (fun p => (p.1, fn p.2))).map (skm f n) := by sorry
theorem lvl_eq (hbf : byR f) (hn4 : n ≤ 4096) {orL orR : Nat → Option (Nat × CT)} {cmC cmR : Nat → Option (Nat × OT)} {qyC : Nat → Option (Nat × Bool × QT)} {qyR : Bool → Nat → Option (Nat × Bool × QT)} (hor : ∀ i, orL i = (orR (skipH f n i)).map (skm f n)) (hM : Mon orR) (hcm : ∀ i, cmC i = cmR i) (hMc : Mon cmR) (hqy : ∀ i, qyC i = qyR (decide (hereV f n i = 36)) (i + 1)) (hMq : ∀ b, Mon (qyR b)) (ok : Bool) :
    (∀ i, orD f n ok orL cmC qyC i = (orP f n ok orR cmR qyR (skipH f n i)).map (skm f n)) ∧ Mon (orP f n ok orR cmR qyR) ∧ (∀ i, opD f n ok orL cmC qyC i = cmP f n ok orR cmR qyR i) ∧ Mon (cmP f n ok orR cmR qyR) ∧ (∀ i, qrD f n ok orL false i = qrP f n ok orR false (decide (hereV f n i = 36)) (i + 1)) ∧ (∀ b, Mon (qrP f n ok orR false b)) := by sorry
theorem DDd_0 : DDd f n 0 = (orD f n false (fun _ => none) (fun _ => none) (fun _ => none), opD f n false (fun _ => none) (fun _ => none) (fun _ => none), qrD f n false (fun _ => none) false) := by sorry
theorem DDd_s {d : Nat} : DDd f n (d + 1) = (orD f n true (DDd f n d).1 (DDd f n d).2.1 (DDd f n d).2.2, opD f n true (DDd f n d).1 (DDd f n d).2.1 (DDd f n d).2.2, qrD f n true (DDd f n d).1 false) := by sorry
theorem DDf_0 : DDf f n 0 = (orP f n false (fun _ => none) (fun _ => none) (fun _ _ => none), cmP f n false (fun _ => none) (fun _ => none) (fun _ _ => none), qrP f n false (fun _ => none) false) := by sorry
theorem DDf_s {d : Nat} : DDf f n (d + 1) = (orP f n true (DDf f n d).1 (DDf f n d).2.1 (DDf f n d).2.2, cmP f n true (DDf f n d).1 (DDf f n d).2.1 (DDf f n d).2.2, qrP f n true (DDf f n d).1 false) := by sorry
theorem dd_eq (hbf : byR f) (hn4 : n ≤ 4096) : ∀ d, (∀ i, (DDd f n d).1 i = ((DDf f n d).1 (skipH f n i)).map (skm f n)) ∧ Mon (DDf f n d).1 ∧ (∀ i, (DDd f n d).2.1 i = (DDf f n d).2.1 i) ∧ Mon (DDf f n d).2.1 ∧ (∀ i, (DDd f n d).2.2 i = (DDf f n d).2.2 (decide (hereV f n i = 36)) (i + 1)) ∧ (∀ b, Mon ((DDf f n d).2.2 b)) := by sorry
/-- class and reference read the same queries, and they mean the same -/
theorem jQD_pQ (hbf : byR f) (hn4 : n ≤ 4096) : jQD f n = pQ f n := by sorry
end QEqD
end
section
theorem z_530 : (.methodLink "QueryBench" 82 ⟨"QueryBench$QueryReader", "whole", "()LQueryBench$Query;"⟩ : Cond) ∈ gtbl := by sorry
theorem z_531 : (.instanceMethod ⟨"QueryBench$QueryReader", "whole", "()LQueryBench$Query;"⟩ : Cond) ∈ gtbl := by sorry
theorem z_532 : (.selects "QueryBench$QueryReader" ⟨"QueryBench$QueryReader", "whole", "()LQueryBench$Query;"⟩ ⟨"QueryBench$QueryReader", "whole", "()LQueryBench$Query;"⟩ : Cond) ∈ gtbl := by sorry
theorem z_549 : (.fieldLink "QueryBench" 90 "QueryBench$Query" "singular" "Z" : Cond) ∈ gtbl := by sorry
set_option maxHeartbeats 4000000 in
set_option maxRecDepth 100000 in
/-- QueryReader.whole -/
theorem c_QR_whole (l : Launch) (hl9 : l.stackTraces = false) (K : Nat → Nat × Nat) (dC : Nat → ClassId) (dI : Nat → Nat → Nat) (cI cV : ClassId) (cB : ClassId) (h0 qb qu : Nat) (ln : Int32) (bf : Nat → Int32) (n qr : Nat) (hn0 : n ≤ 4096) (hbf : byR bf) (sz : Heap) (E lv : Nat → Nat) (L : List Nat) (f : Nat → va_E) (i : Nat) (uc pl : Int32) (ug : Nat → Int32) (hO : PO cI cV E lv L f) (hin : i ≤ n) (hi0 : i = 0) (o0 : Int32) : vx_Met l y_QueryReader_whole (k_QueryReader_whole :: gtbl) ({ frames := 220, cells := 8 * (n - i) + 6, slots := 64 * (n - i) + 60, locals := 6600 }) (va_Pc [.ref qr] (ml K dC dI ([(qr, .inr (5, [.ref h0, .int o0])), (h0, .inr (8, [.ref qb, .ref qu, .int uc, .int ln, .int (nI n), .int (nI i), .int pl])), (qb, .inl (cB, 4096, .inl bf)), (qu, .inl (cI, 4096, .inl ug))] ++ va_pl L f) [(cB, .byte), (cI, .int), (cV, .object "QueryBench$Value")] sz)) (va_Qr (fun (u : Nat × Nat × List Nat × (Nat → Nat) × (Nat → va_E) × Int32 × (Nat → Int32)) => QPn cI cV E L f i n sz.size 7 80 1 u.1 u.2.1 u.2.2.1 u.2.2.2.1 u.2.2.2.2.1 ∧ ∃ m : QT, jQD bf n = some (sgQ (u.2.2.2.2.1 u.1), m) ∧ DNx QD 0 E u.2.2.2.1 u.2.2.2.2.1 u.1 m) (fun u a9 t9 => mz dC dI ([(qr, .inr (5, [.ref h0, .int (nI 0)])), (h0, .inr (8, [.ref qb, .ref qu, .int u.2.2.2.2.2.1, .int ln, .int (nI n), .int (nI u.2.1), .int pl])), (qb, .inl (cB, 4096, .inl bf)), (qu, .inl (cI, 4096, .inl u.2.2.2.2.2.2))] ++ va_pl ((L ++ u.2.2.1)) u.2.2.2.2.1) [(cB, .byte), (cI, .int), (cV, .object "QueryBench$Value")] (va_A ([(qr, .inr (5, [.ref h0, .int o0])), (h0, .inr (8, [.ref qb, .ref qu, .int uc, .int ln, .int (nI n), .int (nI i), .int pl])), (qb, .inl (cB, 4096, .inl bf)), (qu, .inl (cI, 4096, .inl ug))] ++ va_pl L f) sz.size) t9 ∧ szk sz t9.heap (8 * (u.2.1 - i)) (64 * (u.2.1 - i)) ∧ a9 = u.1) (va_A ([(qr, .inr (5, [.ref h0, .int o0])), (h0, .inr (8, [.ref qb, .ref qu, .int uc, .int ln, .int (nI n), .int (nI i), .int pl])), (qb, .inl (cB, 4096, .inl bf)), (qu, .inl (cI, 4096, .inl ug))] ++ va_pl L f) sz.size)) (vx_X (fun (u : Int32 × Int32 × Int32 × (Nat → Int32) × Int32) => jQD bf n = none) (fun En u t9 => En = UOX ∧ mz dC dI ([(qr, .inr (5, [.ref h0, .int u.2.2.2.2])), (h0, .inr (8, [.ref qb, .ref qu, .int u.2.1, .int ln, .int (nI n), .int u.1, .int u.2.2.1])), (qb, .inl (cB, 4096, .inl bf)), (qu, .inl (cI, 4096, .inl u.2.2.2.1))] ++ va_pl L f) [(cB, .byte), (cI, .int), (cV, .object "QueryBench$Value")] (va_A ([(qr, .inr (5, [.ref h0, .int o0])), (h0, .inr (8, [.ref qb, .ref qu, .int uc, .int ln, .int (nI n), .int (nI i), .int pl])), (qb, .inl (cB, 4096, .inl bf)), (qu, .inl (cI, 4096, .inl ug))] ++ va_pl L f) sz.size) t9) (va_A ([(qr, .inr (5, [.ref h0, .int o0])), (h0, .inr (8, [.ref qb, .ref qu, .int uc, .int ln, .int (nI n), .int (nI i), .int pl])), (qb, .inl (cB, 4096, .inl bf)), (qu, .inl (cI, 4096, .inl ug))] ++ va_pl L f) sz.size)) (8 * (n - i) + 6) (64 * (n - i) + 60) (va_A ([(qr, .inr (5, [.ref h0, .int o0])), (h0, .inr (8, [.ref qb, .ref qu, .int uc, .int ln, .int (nI n), .int (nI i), .int pl])), (qb, .inl (cB, 4096, .inl bf)), (qu, .inl (cI, 4096, .inl ug))] ++ va_pl L f) sz.size) := by sorry
abbrev b_QB_read : ByteArray := prog_1_method_5_code
def y_QB_read : MethodName := ⟨"QueryBench", "read", "()I"⟩
abbrev k_QB_read : Cond := .code y_QB_read b_QB_read 1 (some .int)
theorem i_QB_read : k_QB_read ∈ gtbl := by sorry
theorem d_QB_read_0 : decode b_QB_read 0 = .ok (.aload_n 0, 1) := by sorry
theorem d_QB_read_1 : decode b_QB_read 1 = .ok (.getfield 10, 3) := by sorry
theorem d_QB_read_4 : decode b_QB_read 4 = .ok (.invokevirtual 72, 3) := by sorry
theorem d_QB_read_7 : decode b_QB_read 7 = .ok (.aload_n 0, 1) := by sorry
theorem d_QB_read_8 : decode b_QB_read 8 = .ok (.aload_n 0, 1) := by sorry
theorem d_QB_read_9 : decode b_QB_read 9 = .ok (.getfield 28, 3) := by sorry
theorem d_QB_read_12 : decode b_QB_read 12 = .ok (.invokevirtual 82, 3) := by sorry
theorem d_QB_read_15 : decode b_QB_read 15 = .ok (.putfield 86, 3) := by sorry
theorem d_QB_read_18 : decode b_QB_read 18 = .ok (.aload_n 0, 1) := by sorry
theorem d_QB_read_19 : decode b_QB_read 19 = .ok (.getfield 86, 3) := by sorry
theorem d_QB_read_22 : decode b_QB_read 22 = .ok (.getfield 90, 3) := by sorry
theorem d_QB_read_25 : decode b_QB_read 25 = .ok (.ifCond .eq 7, 3) := by sorry
theorem d_QB_read_28 : decode b_QB_read 28 = .ok (.iconst 1, 1) := by sorry
theorem d_QB_read_29 : decode b_QB_read 29 = .ok (.goto 4, 3) := by sorry
theorem d_QB_read_32 : decode b_QB_read 32 = .ok (.iconst 0, 1) := by sorry
theorem d_QB_read_33 : decode b_QB_read 33 = .ok (.ireturn, 1) := by sorry
theorem QG.zle {cI cV : ClassId} {E lv E1 lv1 : Nat → Nat} {L N : List Nat} {f f1 : Nat → va_E} {i n p z z2 : Nat} (h : QG cI cV E lv L f i n p z2 N E1 lv1 f1) (hz : z ≤ z2) : QG cI cV E lv L f i n p z N E1 lv1 f1 := by sorry
set_option maxHeartbeats 4000000 in
set_option maxRecDepth 100000 in
/-- QueryBench.read -/
theorem c_QB_read (l : Launch) (hl9 : l.stackTraces = false) (K : Nat → Nat × Nat) (dC : Nat → ClassId) (dI : Nat → Nat → Nat) (cI cV : ClassId) (cB : ClassId) (h0 qb qu : Nat) (bf : Nat → Int32) (n qr : Nat) (hn0 : n ≤ 4096) (hbf : byR bf) (sz : Heap) (E lv : Nat → Nat) (L : List Nat) (f : Nat → va_E) (hO : PO cI cV E lv L f) (q0 : Nat) (r1 r3 r4 r5 r6 r7 : Value) (o0 en at0 uc pl : Int32) (ug : Nat → Int32) : vx_Met l y_QB_read (k_QB_read :: gtbl) ({ frames := 230, cells := 8 * n + 6, slots := 64 * n + 60, locals := 6700 }) (va_Pc [.ref q0] (ml K dC dI ([(q0, .inr (11, [.ref h0, r1, .ref qr, r3, r4, r5, r6, r7])), (qr, .inr (5, [.ref h0, .int o0])), (h0, .inr (8, [.ref qb, .ref qu, .int uc, .int (nI n), .int en, .int at0, .int pl])), (qb, .inl (cB, 4096, .inl bf)), (qu, .inl (cI, 4096, .inl ug))] ++ va_pl L f) [(cB, .byte), (cI, .int), (cV, .object "QueryBench$Value")] sz)) (va_Qi (fun (r : Int32) (u : Nat × Nat × List Nat × (Nat → Nat) × (Nat → va_E) × Int32 × (Nat → Int32)) => QPn cI cV E L f 0 n sz.size 7 80 1 u.1 u.2.1 u.2.2.1 u.2.2.2.1 u.2.2.2.2.1 ∧ ∃ (b : Bool) (m : QT), jQD bf n = some (b, m) ∧ r = bI b ∧ DNx QD 0 E u.2.2.2.1 u.2.2.2.2.1 u.1 m) (fun u t9 => mz dC dI ([(q0, .inr (11, [.ref h0, r1, .ref qr, r3, r4, .ref u.1, r6, r7])), (qr, .inr (5, [.ref h0, .int (nI 0)])), (h0, .inr (8, [.ref qb, .ref qu, .int u.2.2.2.2.2.1, .int 0, .int (nI n), .int (nI u.2.1), .int (-1)])), (qb, .inl (cB, 4096, .inl bf)), (qu, .inl (cI, 4096, .inl u.2.2.2.2.2.2))] ++ va_pl ((L ++ u.2.2.1)) u.2.2.2.2.1) [(cB, .byte), (cI, .int), (cV, .object "QueryBench$Value")] (va_A ([(q0, .inr (11, [.ref h0, r1, .ref qr, r3, r4, r5, r6, r7])), (qr, .inr (5, [.ref h0, .int o0])), (h0, .inr (8, [.ref qb, .ref qu, .int uc, .int (nI n), .int en, .int at0, .int pl])), (qb, .inl (cB, 4096, .inl bf)), (qu, .inl (cI, 4096, .inl ug))] ++ va_pl L f) sz.size) t9 ∧ szk sz t9.heap (8 * n) (64 * n)) (va_A ([(q0, .inr (11, [.ref h0, r1, .ref qr, r3, r4, r5, r6, r7])), (qr, .inr (5, [.ref h0, .int o0])), (h0, .inr (8, [.ref qb, .ref qu, .int uc, .int (nI n), .int en, .int at0, .int pl])), (qb, .inl (cB, 4096, .inl bf)), (qu, .inl (cI, 4096, .inl ug))] ++ va_pl L f) sz.size)) (vx_X (fun (u : Int32 × Int32 × Int32 × (Nat → Int32) × Int32) => jQD bf n = none) (fun En u t9 => En = UOX ∧ mz dC dI ([(q0, .inr (11, [.ref h0, r1, .ref qr, r3, r4, r5, r6, r7])), (qr, .inr (5, [.ref h0, .int u.2.2.2.2])), (h0, .inr (8, [.ref qb, .ref qu, .int u.2.1, .int 0, .int (nI n), .int u.1, .int u.2.2.1])), (qb, .inl (cB, 4096, .inl bf)), (qu, .inl (cI, 4096, .inl u.2.2.2.1))] ++ va_pl L f) [(cB, .byte), (cI, .int), (cV, .object "QueryBench$Value")] (va_A ([(q0, .inr (11, [.ref h0, r1, .ref qr, r3, r4, r5, r6, r7])), (qr, .inr (5, [.ref h0, .int o0])), (h0, .inr (8, [.ref qb, .ref qu, .int uc, .int (nI n), .int en, .int at0, .int pl])), (qb, .inl (cB, 4096, .inl bf)), (qu, .inl (cI, 4096, .inl ug))] ++ va_pl L f) sz.size) t9) (va_A ([(q0, .inr (11, [.ref h0, r1, .ref qr, r3, r4, r5, r6, r7])), (qr, .inr (5, [.ref h0, .int o0])), (h0, .inr (8, [.ref qb, .ref qu, .int uc, .int (nI n), .int en, .int at0, .int pl])), (qb, .inl (cB, 4096, .inl bf)), (qu, .inl (cI, 4096, .inl ug))] ++ va_pl L f) sz.size)) (8 * n + 6) (64 * n + 60) (va_A ([(q0, .inr (11, [.ref h0, r1, .ref qr, r3, r4, r5, r6, r7])), (qr, .inr (5, [.ref h0, .int o0])), (h0, .inr (8, [.ref qb, .ref qu, .int uc, .int (nI n), .int en, .int at0, .int pl])), (qb, .inl (cB, 4096, .inl bf)), (qu, .inl (cI, 4096, .inl ug))] ++ va_pl L f) sz.size) := by sorry
end
section
theorem z_278 : (.classLink "QueryBenchLaw" 24 "java/lang/UnsupportedOperationException" : Cond) ∈ gtbl := by sorry
theorem z_279 : (.methodLink "QueryBenchLaw" 21 ⟨"QueryBench", "load", "(I)I"⟩ : Cond) ∈ gtbl := by sorry
theorem z_280 : (.instanceMethod ⟨"QueryBench", "load", "(I)I"⟩ : Cond) ∈ gtbl := by sorry
theorem z_281 : (.selects "QueryBench" ⟨"QueryBench", "load", "(I)I"⟩ ⟨"QueryBench", "load", "(I)I"⟩ : Cond) ∈ gtbl := by sorry
theorem nz_376 : (.castable "java/lang/UnsupportedOperationException" "java/lang/UnsupportedOperationException" : Cond) ∈ nwl := by sorry
/-- what the law's own methods need beside: which thrown is none of which class -/
abbrev NCx (U : State) : Prop := va_Nc "java/lang/UnsupportedOperationException" "java/lang/IllegalArgumentException" U ∧ va_Nc "java/lang/IllegalStateException" "java/lang/IllegalArgumentException" U ∧ va_Nc "java/lang/IndexOutOfBoundsException" "java/lang/IllegalArgumentException" U ∧ va_Nc "java/lang/IndexOutOfBoundsException" "java/lang/IllegalStateException" U
abbrev mw (K : Nat → Nat × Nat) (dC : Nat → ClassId) (dI : Nat → Nat → Nat) (ws : va_W) (tys : List (ClassId × FieldType)) (sz : Heap) (U : State) : Prop := ml K dC dI ws tys sz U ∧ NCx U
theorem mw_blind {K : Nat → Nat × Nat} {dC : Nat → ClassId} {dI : Nat → Nat → Nat} {ws : va_W} {tys : List (ClassId × FieldType)} {sz : Heap} {vs : List Value} : FrameBlind (va_Pc vs (mw K dC dI ws tys sz)) := by sorry
/-- the numbers of the values as they stand -/
def nuF (f : Nat → va_E) (a : Nat) : Int64 := match f a with
  | .inr (_, _ :: .long x :: _) => x
  | _ => 0
theorem pf_self (f : Nat → va_E) : pf f (nuF f) = f := by sorry
/-- the class between two calls: its pool, its documents, its query -/
def CIn (cI cV : ClassId) (E lv : Nat → Nat) (L : List Nat) (f : Nat → va_E) (dg : Nat → Option Nat) (qy : Option Nat) : Prop := PO cI cV E lv L f ∧ (∀ a, E a ≠ 1) ∧ (∀ j, j < 4 → oR (isF E) (dg j)) ∧ oR (fun q => E q = 7 ∧ lv q ≤ 80) qy
section CIns
variable {cI cV : ClassId} {E lv : Nat → Nat} {L : List Nat} {f : Nat → va_E} {dg : Nat → Option Nat} {qy : Option Nat}
theorem CIn.po (h : CIn cI cV E lv L f dg qy) : PO cI cV E lv L f := by sorry
theorem CIn.same (h : CIn cI cV E lv L f dg qy) {f2 : Nat → va_E} (hf : ∀ a, E a ≠ 0 → f2 a = f a) : CIn cI cV E lv L f2 dg qy := by sorry
theorem CIn.num (h : CIn cI cV E lv L f dg qy) (ν : Nat → Int64) : CIn cI cV E lv L (pf f ν) dg qy := by sorry
theorem CIn.load (h : CIn cI cV E lv L f dg qy) {n v p : Nat} {N : List Nat} {E' : Nat → Nat} {f' : Nat → va_E} {lb : Nat} (hJ : JP cI cV E lv L f none 0 n v p N E' f' lb) (j : Nat) : CIn cI cV E' lv (L ++ N) f' (va_up dg j (some v)) qy := by sorry
theorem CIn.read (h : CIn cI cV E lv L f dg qy) {n v p z dm : Nat} {N : List Nat} {E' : Nat → Nat} {f' : Nat → va_E} (hQ : QPn cI cV E L f 0 n z 7 80 dm v p N E' f') : ∃ lv', CIn cI cV E' lv' (L ++ N) f' dg (some v) := by sorry
end CIns

set_option maxHeartbeats 4000000 in
set_option maxRecDepth 100000 in
/-- QueryBench.load, refused -/
theorem c_QB_loadBad (l : Launch) (hl9 : l.stackTraces = false) (dC : Nat → ClassId) (dI : Nat → Nat → Nat) (sz : Heap) (q0 : Nat) (r0 r1 r2 r3 r4 r5 r6 r7 : Value) (d : Int32) (hbad : ¬ (¬ d < 0 ∧ d < 4)) : vx_Met l y_QB_load (k_QB_load :: gtbl) ({ frames := 10, cells := 1, slots := 6, locals := 150 }) (va_Pc [.ref q0, .int d] (mx dC dI ([(q0, .inr (11, [r0, r1, r2, r3, r4, r5, r6, r7]))]) [] sz)) (va_Qi (fun (r : Int32) (u : Unit) => False) (fun u t9 => mz dC dI ([(q0, .inr (11, [r0, r1, r2, r3, r4, r5, r6, r7]))]) [] (va_A ([(q0, .inr (11, [r0, r1, r2, r3, r4, r5, r6, r7]))]) sz.size) t9 ∧ szk sz t9.heap (0) (0)) (va_A ([(q0, .inr (11, [r0, r1, r2, r3, r4, r5, r6, r7]))]) sz.size)) (vx_X (fun (u : Unit) => True) (fun En u t9 => En = IAX ∧ mz dC dI ([(q0, .inr (11, [r0, r1, r2, r3, r4, r5, r6, r7]))]) [] (va_A ([(q0, .inr (11, [r0, r1, r2, r3, r4, r5, r6, r7]))]) sz.size) t9) (va_A ([(q0, .inr (11, [r0, r1, r2, r3, r4, r5, r6, r7]))]) sz.size)) (1) (6) (va_A ([(q0, .inr (11, [r0, r1, r2, r3, r4, r5, r6, r7]))]) sz.size) := by sorry
abbrev b_Law_load : ByteArray := method_5_code
def y_Law_load : MethodName := ⟨"QueryBenchLaw", "load", "(LQueryBench;I[J)I"⟩
abbrev k_Law_load : Cond := .codeWith y_Law_load b_Law_load 4 (some .int) [(0, 9, 12, 19), (0, 9, 15, 24)]
theorem i_Law_load : k_Law_load ∈ gtbl := by sorry
theorem d_Law_load_0 : decode b_Law_load 0 = .ok (.aload_n 2, 1) := by sorry
theorem d_Law_load_1 : decode b_Law_load 1 = .ok (.iconst 0, 1) := by sorry
theorem d_Law_load_2 : decode b_Law_load 2 = .ok (.aload_n 0, 1) := by sorry
theorem d_Law_load_3 : decode b_Law_load 3 = .ok (.iload_n 1, 1) := by sorry
theorem d_Law_load_4 : decode b_Law_load 4 = .ok (.invokevirtual 21, 3) := by sorry
theorem d_Law_load_7 : decode b_Law_load 7 = .ok (.i2l, 1) := by sorry
theorem d_Law_load_8 : decode b_Law_load 8 = .ok (.lastore, 1) := by sorry
theorem d_Law_load_9 : decode b_Law_load 9 = .ok (.goto 9, 3) := by sorry
theorem d_Law_load_12 : decode b_Law_load 12 = .ok (.astore_n 3, 1) := by sorry
theorem d_Law_load_13 : decode b_Law_load 13 = .ok (.iconst 1, 1) := by sorry
theorem d_Law_load_14 : decode b_Law_load 14 = .ok (.ireturn, 1) := by sorry
theorem d_Law_load_15 : decode b_Law_load 15 = .ok (.astore_n 3, 1) := by sorry
theorem d_Law_load_16 : decode b_Law_load 16 = .ok (.iconst 2, 1) := by sorry
theorem d_Law_load_17 : decode b_Law_load 17 = .ok (.ireturn, 1) := by sorry
theorem d_Law_load_18 : decode b_Law_load 18 = .ok (.iconst 0, 1) := by sorry
theorem d_Law_load_19 : decode b_Law_load 19 = .ok (.ireturn, 1) := by sorry
set_option maxHeartbeats 4000000 in
set_option maxRecDepth 100000 in
/-- the law: load, refused -/
theorem c_Law_loadBad (l : Launch) (hl9 : l.stackTraces = false) (dC : Nat → ClassId) (dI : Nat → Nat → Nat) (cJ : ClassId) (sz : Heap) (qo : Nat) (g : Nat → Int64) (q0 : Nat) (r0 r1 r2 r3 r4 r5 r6 r7 : Value) (d : Int32) (hbad : ¬ (¬ d < 0 ∧ d < 4)) : Met l y_Law_load (k_Law_load :: gtbl) ({ frames := 12, cells := 1, slots := 6, locals := 190 }) (va_Pc [.ref q0, .int d, .ref qo] (mx dC dI ([(q0, .inr (11, [r0, r1, r2, r3, r4, r5, r6, r7])), (qo, .inl (cJ, 1, .inr (.inl g)))]) [(cJ, .long)] sz)) (va_Qi (fun (r : Int32) (u : Unit) => r = 1) (fun u t9 => mz dC dI ([(q0, .inr (11, [r0, r1, r2, r3, r4, r5, r6, r7])), (qo, .inl (cJ, 1, .inr (.inl g)))]) [(cJ, .long)] (va_A ([(q0, .inr (11, [r0, r1, r2, r3, r4, r5, r6, r7])), (qo, .inl (cJ, 1, .inr (.inl g)))]) sz.size) t9 ∧ szk sz t9.heap (1) (6)) (va_A ([(q0, .inr (11, [r0, r1, r2, r3, r4, r5, r6, r7])), (qo, .inl (cJ, 1, .inr (.inl g)))]) sz.size)) (1) (6) (va_A ([(q0, .inr (11, [r0, r1, r2, r3, r4, r5, r6, r7])), (qo, .inl (cJ, 1, .inr (.inl g)))]) sz.size) := by sorry
end
section
theorem z_526 : (.methodLink "QueryBenchLaw" 26 ⟨"QueryBench", "read", "()I"⟩ : Cond) ∈ gtbl := by sorry
theorem z_527 : (.instanceMethod ⟨"QueryBench", "read", "()I"⟩ : Cond) ∈ gtbl := by sorry
theorem z_528 : (.selects "QueryBench" ⟨"QueryBench", "read", "()I"⟩ ⟨"QueryBench", "read", "()I"⟩ : Cond) ∈ gtbl := by sorry
theorem z_807 : (.classLink "QueryBenchLaw" 33 "java/lang/IllegalStateException" : Cond) ∈ gtbl := by sorry
theorem z_808 : (.methodLink "QueryBenchLaw" 30 ⟨"QueryBench", "run", "(I)I"⟩ : Cond) ∈ gtbl := by sorry
theorem z_809 : (.instanceMethod ⟨"QueryBench", "run", "(I)I"⟩ : Cond) ∈ gtbl := by sorry
theorem z_810 : (.selects "QueryBench" ⟨"QueryBench", "run", "(I)I"⟩ ⟨"QueryBench", "run", "(I)I"⟩ : Cond) ∈ gtbl := by sorry
theorem z_1002 : (.methodLink "QueryBenchLaw" 35 ⟨"QueryBench", "work", "(I)I"⟩ : Cond) ∈ gtbl := by sorry
theorem z_1003 : (.instanceMethod ⟨"QueryBench", "work", "(I)I"⟩ : Cond) ∈ gtbl := by sorry
theorem z_1004 : (.selects "QueryBench" ⟨"QueryBench", "work", "(I)I"⟩ ⟨"QueryBench", "work", "(I)I"⟩ : Cond) ∈ gtbl := by sorry
theorem z_1009 : (.methodLink "QueryBenchLaw" 38 ⟨"QueryBench", "word", "(I)J"⟩ : Cond) ∈ gtbl := by sorry
theorem z_1010 : (.instanceMethod ⟨"QueryBench", "word", "(I)J"⟩ : Cond) ∈ gtbl := by sorry
theorem z_1011 : (.selects "QueryBench" ⟨"QueryBench", "word", "(I)J"⟩ ⟨"QueryBench", "word", "(I)J"⟩ : Cond) ∈ gtbl := by sorry
theorem nz_818 : (.castable "java/lang/IllegalStateException" "java/lang/IllegalStateException" : Cond) ∈ nwl := by sorry
abbrev b_Law_read : ByteArray := method_6_code
def y_Law_read : MethodName := ⟨"QueryBenchLaw", "read", "(LQueryBench;[J)I"⟩
abbrev k_Law_read : Cond := .codeWith y_Law_read b_Law_read 3 (some .int) [(0, 8, 11, 24)]
theorem i_Law_read : k_Law_read ∈ gtbl := by sorry
theorem d_Law_read_0 : decode b_Law_read 0 = .ok (.aload_n 1, 1) := by sorry
theorem d_Law_read_1 : decode b_Law_read 1 = .ok (.iconst 0, 1) := by sorry
theorem d_Law_read_2 : decode b_Law_read 2 = .ok (.aload_n 0, 1) := by sorry
theorem d_Law_read_3 : decode b_Law_read 3 = .ok (.invokevirtual 26, 3) := by sorry
theorem d_Law_read_6 : decode b_Law_read 6 = .ok (.i2l, 1) := by sorry
theorem d_Law_read_7 : decode b_Law_read 7 = .ok (.lastore, 1) := by sorry
theorem d_Law_read_8 : decode b_Law_read 8 = .ok (.goto 6, 3) := by sorry
theorem d_Law_read_11 : decode b_Law_read 11 = .ok (.astore_n 2, 1) := by sorry
theorem d_Law_read_12 : decode b_Law_read 12 = .ok (.iconst 1, 1) := by sorry
theorem d_Law_read_13 : decode b_Law_read 13 = .ok (.ireturn, 1) := by sorry
theorem d_Law_read_14 : decode b_Law_read 14 = .ok (.iconst 0, 1) := by sorry
theorem d_Law_read_15 : decode b_Law_read 15 = .ok (.ireturn, 1) := by sorry
abbrev b_Law_work : ByteArray := method_8_code
def y_Law_work : MethodName := ⟨"QueryBenchLaw", "work", "(LQueryBench;I[J)I"⟩
abbrev k_Law_work : Cond := .codeWith y_Law_work b_Law_work 4 (some .int) [(0, 9, 12, 19), (0, 9, 15, 33), (0, 9, 18, 13)]
theorem i_Law_work : k_Law_work ∈ gtbl := by sorry
theorem d_Law_work_0 : decode b_Law_work 0 = .ok (.aload_n 2, 1) := by sorry
theorem d_Law_work_1 : decode b_Law_work 1 = .ok (.iconst 0, 1) := by sorry
theorem d_Law_work_2 : decode b_Law_work 2 = .ok (.aload_n 0, 1) := by sorry
theorem d_Law_work_3 : decode b_Law_work 3 = .ok (.iload_n 1, 1) := by sorry
theorem d_Law_work_4 : decode b_Law_work 4 = .ok (.invokevirtual 35, 3) := by sorry
theorem d_Law_work_7 : decode b_Law_work 7 = .ok (.i2l, 1) := by sorry
theorem d_Law_work_8 : decode b_Law_work 8 = .ok (.lastore, 1) := by sorry
theorem d_Law_work_9 : decode b_Law_work 9 = .ok (.goto 12, 3) := by sorry
theorem d_Law_work_12 : decode b_Law_work 12 = .ok (.astore_n 3, 1) := by sorry
theorem d_Law_work_13 : decode b_Law_work 13 = .ok (.iconst 1, 1) := by sorry
theorem d_Law_work_14 : decode b_Law_work 14 = .ok (.ireturn, 1) := by sorry
theorem d_Law_work_15 : decode b_Law_work 15 = .ok (.astore_n 3, 1) := by sorry
theorem d_Law_work_16 : decode b_Law_work 16 = .ok (.iconst 2, 1) := by sorry
theorem d_Law_work_17 : decode b_Law_work 17 = .ok (.ireturn, 1) := by sorry
theorem d_Law_work_18 : decode b_Law_work 18 = .ok (.astore_n 3, 1) := by sorry
theorem d_Law_work_19 : decode b_Law_work 19 = .ok (.iconst 3, 1) := by sorry
theorem d_Law_work_20 : decode b_Law_work 20 = .ok (.ireturn, 1) := by sorry
theorem d_Law_work_21 : decode b_Law_work 21 = .ok (.iconst 0, 1) := by sorry
theorem d_Law_work_22 : decode b_Law_work 22 = .ok (.ireturn, 1) := by sorry
abbrev b_Law_run : ByteArray := method_7_code
def y_Law_run : MethodName := ⟨"QueryBenchLaw", "run", "(LQueryBench;I[J)I"⟩
abbrev k_Law_run : Cond := .codeWith y_Law_run b_Law_run 4 (some .int) [(0, 9, 12, 19), (0, 9, 15, 33), (0, 9, 18, 13)]
theorem i_Law_run : k_Law_run ∈ gtbl := by sorry
theorem d_Law_run_0 : decode b_Law_run 0 = .ok (.aload_n 2, 1) := by sorry
theorem d_Law_run_1 : decode b_Law_run 1 = .ok (.iconst 0, 1) := by sorry
theorem d_Law_run_2 : decode b_Law_run 2 = .ok (.aload_n 0, 1) := by sorry
theorem d_Law_run_3 : decode b_Law_run 3 = .ok (.iload_n 1, 1) := by sorry
theorem d_Law_run_4 : decode b_Law_run 4 = .ok (.invokevirtual 30, 3) := by sorry
theorem d_Law_run_7 : decode b_Law_run 7 = .ok (.i2l, 1) := by sorry
theorem d_Law_run_8 : decode b_Law_run 8 = .ok (.lastore, 1) := by sorry
theorem d_Law_run_9 : decode b_Law_run 9 = .ok (.goto 12, 3) := by sorry
theorem d_Law_run_12 : decode b_Law_run 12 = .ok (.astore_n 3, 1) := by sorry
theorem d_Law_run_13 : decode b_Law_run 13 = .ok (.iconst 1, 1) := by sorry
theorem d_Law_run_14 : decode b_Law_run 14 = .ok (.ireturn, 1) := by sorry
theorem d_Law_run_15 : decode b_Law_run 15 = .ok (.astore_n 3, 1) := by sorry
theorem d_Law_run_16 : decode b_Law_run 16 = .ok (.iconst 2, 1) := by sorry
theorem d_Law_run_17 : decode b_Law_run 17 = .ok (.ireturn, 1) := by sorry
theorem d_Law_run_18 : decode b_Law_run 18 = .ok (.astore_n 3, 1) := by sorry
theorem d_Law_run_19 : decode b_Law_run 19 = .ok (.iconst 3, 1) := by sorry
theorem d_Law_run_20 : decode b_Law_run 20 = .ok (.ireturn, 1) := by sorry
theorem d_Law_run_21 : decode b_Law_run 21 = .ok (.iconst 0, 1) := by sorry
theorem d_Law_run_22 : decode b_Law_run 22 = .ok (.ireturn, 1) := by sorry
abbrev b_Law_word : ByteArray := method_9_code
def y_Law_word : MethodName := ⟨"QueryBenchLaw", "word", "(LQueryBench;I[J)I"⟩
abbrev k_Law_word : Cond := .codeWith y_Law_word b_Law_word 4 (some .int) [(0, 8, 11, 13)]
theorem i_Law_word : k_Law_word ∈ gtbl := by sorry
theorem d_Law_word_0 : decode b_Law_word 0 = .ok (.aload_n 2, 1) := by sorry
theorem d_Law_word_1 : decode b_Law_word 1 = .ok (.iconst 0, 1) := by sorry
theorem d_Law_word_2 : decode b_Law_word 2 = .ok (.aload_n 0, 1) := by sorry
theorem d_Law_word_3 : decode b_Law_word 3 = .ok (.iload_n 1, 1) := by sorry
theorem d_Law_word_4 : decode b_Law_word 4 = .ok (.invokevirtual 38, 3) := by sorry
theorem d_Law_word_7 : decode b_Law_word 7 = .ok (.lastore, 1) := by sorry
theorem d_Law_word_8 : decode b_Law_word 8 = .ok (.goto 6, 3) := by sorry
theorem d_Law_word_11 : decode b_Law_word 11 = .ok (.astore_n 3, 1) := by sorry
theorem d_Law_word_12 : decode b_Law_word 12 = .ok (.iconst 1, 1) := by sorry
theorem d_Law_word_13 : decode b_Law_word 13 = .ok (.ireturn, 1) := by sorry
theorem d_Law_word_14 : decode b_Law_word 14 = .ok (.iconst 0, 1) := by sorry
theorem d_Law_word_15 : decode b_Law_word 15 = .ok (.ireturn, 1) := by sorry
set_option maxHeartbeats 4000000 in
set_option maxRecDepth 100000 in
/-- the law: word -/
theorem c_Law_word (l : Launch) (hl9 : l.stackTraces = false) (dC : Nat → ClassId) (dI : Nat → Nat → Nat) (cB cJ : ClassId) (sz : Heap) (qo : Nat) (g : Nat → Int64) (q0 p1 pb : Nat) (r0 r1 r2 r3 r4 r5 r7 rps : Value) (f : Nat → Int32) (n : Nat) (hn0 : n ≤ 16384) (d : Int32) : Met l y_Law_word (k_Law_word :: gtbl) ({ frames := 10, cells := 1, slots := 6, locals := 150 }) (va_Pc [.ref q0, .int d, .ref qo] (mx dC dI ([(q0, .inr (11, [r0, r1, r2, r3, r4, r5, .ref p1, r7])), (p1, .inr (3, [.ref pb, .int (nI n), rps])), (pb, .inl (cB, 16384, .inl f)), (qo, .inl (cJ, 1, .inr (.inl g)))]) [(cB, .byte), (cJ, .long)] sz)) (va_Qi (fun (r : Int32) (u : Nat → Int64) => (r = 0 ∧ ∃ k9, k9 < n ∧ d = nI k9 ∧ u 0 = wdC f n 8 k9 0) ∨ (r = 1 ∧ ¬ (¬ d < 0 ∧ d < nI n))) (fun u t9 => mz dC dI ([(q0, .inr (11, [r0, r1, r2, r3, r4, r5, .ref p1, r7])), (p1, .inr (3, [.ref pb, .int (nI n), rps])), (pb, .inl (cB, 16384, .inl f)), (qo, .inl (cJ, 1, .inr (.inl u)))]) [(cB, .byte), (cJ, .long)] (va_A ([(q0, .inr (11, [r0, r1, r2, r3, r4, r5, .ref p1, r7])), (p1, .inr (3, [.ref pb, .int (nI n), rps])), (pb, .inl (cB, 16384, .inl f)), (qo, .inl (cJ, 1, .inr (.inl g)))]) sz.size) t9 ∧ szk sz t9.heap (1) (6)) (va_A ([(q0, .inr (11, [r0, r1, r2, r3, r4, r5, .ref p1, r7])), (p1, .inr (3, [.ref pb, .int (nI n), rps])), (pb, .inl (cB, 16384, .inl f)), (qo, .inl (cJ, 1, .inr (.inl g)))]) sz.size)) (1) (6) (va_A ([(q0, .inr (11, [r0, r1, r2, r3, r4, r5, .ref p1, r7])), (p1, .inr (3, [.ref pb, .int (nI n), rps])), (pb, .inl (cB, 16384, .inl f)), (qo, .inl (cJ, 1, .inr (.inl g)))]) sz.size) := by sorry
end
