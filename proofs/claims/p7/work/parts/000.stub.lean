section
-- ===== PART A: goes FIRST, ahead of the names: the tables' words, and 'selects' of the private methods out of them =====
/-- a private method of a class that the tables say can be made, by its rows of tables_1 -/
def lw_okq (q : MethodName × Nat) : Prop := (q.1.cls ≠ "java/lang/invoke/MethodHandle" ∧ q.1.cls ≠ "java/lang/invoke/VarHandle") ∧ Cond.instantiable q.1.cls q.2 ∈ tables_1 ∧ Cond.privateMethod q.1 ∈ tables_1 ∧ Cond.instanceMethod q.1 ∈ tables_1
theorem lw_p0 : lw_okq (⟨"java/lang/Throwable", "fillInStackTrace", "(I)Ljava/lang/Throwable;"⟩, 6) := by sorry
theorem lw_p1 : lw_okq (⟨"QueryBench$JsonReader", "value", "(I)LQueryBench$Value;"⟩, 4) := by sorry
theorem lw_p2 : lw_okq (⟨"QueryBench$JsonReader", "fresh", "()LQueryBench$Value;"⟩, 4) := by sorry
theorem lw_p3 : lw_okq (⟨"QueryBench$JsonReader", "container", "(LQueryBench$Value;II)V"⟩, 4) := by sorry
theorem lw_p4 : lw_okq (⟨"QueryBench$JsonReader", "members", "(LQueryBench$Value;I)V"⟩, 4) := by sorry
theorem lw_p5 : lw_okq (⟨"QueryBench$JsonReader", "newName", "(LQueryBench$Value;)[I"⟩, 4) := by sorry
theorem lw_p6 : lw_okq (⟨"QueryBench$Tape", "character", "(I)V"⟩, 7) := by sorry
theorem lw_p7 : lw_okq (⟨"QueryBench$Tape", "keep", "(I)V"⟩, 7) := by sorry
theorem lw_p8 : lw_okq (⟨"QueryBench$Tape", "escape", "(I)I"⟩, 7) := by sorry
theorem lw_p9 : lw_okq (⟨"QueryBench$Tape", "fourHexDigits", "()I"⟩, 7) := by sorry
theorem lw_p10 : lw_okq (⟨"QueryBench$JsonReader", "number", "()J"⟩, 4) := by sorry
theorem lw_p11 : lw_okq (⟨"QueryBench$QueryReader", "query", "(Z)LQueryBench$Query;"⟩, 2) := by sorry
theorem lw_p12 : lw_okq (⟨"QueryBench$QueryReader", "segment", "(Z)LQueryBench$Segment;"⟩, 2) := by sorry
theorem lw_p13 : lw_okq (⟨"QueryBench$QueryReader", "selectors", "(Z)LQueryBench$Selector;"⟩, 2) := by sorry
theorem lw_p14 : lw_okq (⟨"QueryBench$QueryReader", "takeOpening", "(I)V"⟩, 2) := by sorry
theorem lw_p15 : lw_okq (⟨"QueryBench$QueryReader", "selector", "(Z)LQueryBench$Selector;"⟩, 2) := by sorry
def lw_privs_1 : List (MethodName × Nat) := [(⟨"java/lang/Throwable", "fillInStackTrace", "(I)Ljava/lang/Throwable;"⟩, 6), (⟨"QueryBench$JsonReader", "value", "(I)LQueryBench$Value;"⟩, 4), (⟨"QueryBench$JsonReader", "fresh", "()LQueryBench$Value;"⟩, 4), (⟨"QueryBench$JsonReader", "container", "(LQueryBench$Value;II)V"⟩, 4), (⟨"QueryBench$JsonReader", "members", "(LQueryBench$Value;I)V"⟩, 4), (⟨"QueryBench$JsonReader", "newName", "(LQueryBench$Value;)[I"⟩, 4), (⟨"QueryBench$Tape", "character", "(I)V"⟩, 7), (⟨"QueryBench$Tape", "keep", "(I)V"⟩, 7), (⟨"QueryBench$Tape", "escape", "(I)I"⟩, 7), (⟨"QueryBench$Tape", "fourHexDigits", "()I"⟩, 7), (⟨"QueryBench$JsonReader", "number", "()J"⟩, 4), (⟨"QueryBench$QueryReader", "query", "(Z)LQueryBench$Query;"⟩, 2), (⟨"QueryBench$QueryReader", "segment", "(Z)LQueryBench$Segment;"⟩, 2), (⟨"QueryBench$QueryReader", "selectors", "(Z)LQueryBench$Selector;"⟩, 2), (⟨"QueryBench$QueryReader", "takeOpening", "(I)V"⟩, 2), (⟨"QueryBench$QueryReader", "selector", "(Z)LQueryBench$Selector;"⟩, 2)]
theorem lw_r1 : ∀ q ∈ lw_privs_1, lw_okq q := by sorry
theorem lw_p16 : lw_okq (⟨"QueryBench$QueryReader", "or", "()LQueryBench$Condition;"⟩, 2) := by sorry
theorem lw_p17 : lw_okq (⟨"QueryBench$QueryReader", "and", "()LQueryBench$Condition;"⟩, 2) := by sorry
theorem lw_p18 : lw_okq (⟨"QueryBench$QueryReader", "basic", "()LQueryBench$Condition;"⟩, 2) := by sorry
theorem lw_p19 : lw_okq (⟨"QueryBench$QueryReader", "negation", "()LQueryBench$Condition;"⟩, 2) := by sorry
theorem lw_p20 : lw_okq (⟨"QueryBench$QueryReader", "group", "()LQueryBench$Condition;"⟩, 2) := by sorry
theorem lw_p21 : lw_okq (⟨"QueryBench$QueryReader", "takeClosing", "(I)V"⟩, 2) := by sorry
theorem lw_p22 : lw_okq (⟨"QueryBench$QueryReader", "anyQuery", "()LQueryBench$Query;"⟩, 2) := by sorry
theorem lw_p23 : lw_okq (⟨"QueryBench$QueryReader", "testOrComparison", "()LQueryBench$Condition;"⟩, 2) := by sorry
theorem lw_p24 : lw_okq (⟨"QueryBench$QueryReader", "comparison", "(LQueryBench$Operand;)LQueryBench$Condition;"⟩, 2) := by sorry
theorem lw_p25 : lw_okq (⟨"QueryBench$QueryReader", "operator", "()I"⟩, 2) := by sorry
theorem lw_p26 : lw_okq (⟨"QueryBench$QueryReader", "operand", "()LQueryBench$Operand;"⟩, 2) := by sorry
theorem lw_p27 : lw_okq (⟨"QueryBench$QueryReader", "lengthOperand", "()LQueryBench$Operand;"⟩, 2) := by sorry
theorem lw_p28 : lw_okq (⟨"QueryBench$QueryReader", "queryOperand", "(Ljava/lang/String;LQueryBench$Operand;)LQueryBench$Operand;"⟩, 2) := by sorry
theorem lw_p29 : lw_okq (⟨"QueryBench$QueryReader", "written", "()LQueryBench$Value;"⟩, 2) := by sorry
theorem lw_p30 : lw_okq (⟨"QueryBench$QueryReader", "integer", "()J"⟩, 2) := by sorry
theorem lw_p31 : lw_okq (⟨"QueryBench$QueryReader", "slice", "(LQueryBench$Selector;)V"⟩, 2) := by sorry
def lw_privs_2 : List (MethodName × Nat) := [(⟨"QueryBench$QueryReader", "or", "()LQueryBench$Condition;"⟩, 2), (⟨"QueryBench$QueryReader", "and", "()LQueryBench$Condition;"⟩, 2), (⟨"QueryBench$QueryReader", "basic", "()LQueryBench$Condition;"⟩, 2), (⟨"QueryBench$QueryReader", "negation", "()LQueryBench$Condition;"⟩, 2), (⟨"QueryBench$QueryReader", "group", "()LQueryBench$Condition;"⟩, 2), (⟨"QueryBench$QueryReader", "takeClosing", "(I)V"⟩, 2), (⟨"QueryBench$QueryReader", "anyQuery", "()LQueryBench$Query;"⟩, 2), (⟨"QueryBench$QueryReader", "testOrComparison", "()LQueryBench$Condition;"⟩, 2), (⟨"QueryBench$QueryReader", "comparison", "(LQueryBench$Operand;)LQueryBench$Condition;"⟩, 2), (⟨"QueryBench$QueryReader", "operator", "()I"⟩, 2), (⟨"QueryBench$QueryReader", "operand", "()LQueryBench$Operand;"⟩, 2), (⟨"QueryBench$QueryReader", "lengthOperand", "()LQueryBench$Operand;"⟩, 2), (⟨"QueryBench$QueryReader", "queryOperand", "(Ljava/lang/String;LQueryBench$Operand;)LQueryBench$Operand;"⟩, 2), (⟨"QueryBench$QueryReader", "written", "()LQueryBench$Value;"⟩, 2), (⟨"QueryBench$QueryReader", "integer", "()J"⟩, 2), (⟨"QueryBench$QueryReader", "slice", "(LQueryBench$Selector;)V"⟩, 2)]
theorem lw_r2 : ∀ q ∈ lw_privs_2, lw_okq q := by sorry
theorem lw_p32 : lw_okq (⟨"QueryBench$QueryReader", "shortSelector", "(Z)LQueryBench$Selector;"⟩, 2) := by sorry
theorem lw_p33 : lw_okq (⟨"QueryBench", "checkReady", "(I)V"⟩, 8) := by sorry
theorem lw_p34 : lw_okq (⟨"QueryBench$Walk", "nodes", "(LQueryBench$Query;LQueryBench$Value;)I"⟩, 4) := by sorry
theorem lw_p35 : lw_okq (⟨"QueryBench$Walk", "push", "(LQueryBench$Value;)V"⟩, 4) := by sorry
theorem lw_p36 : lw_okq (⟨"QueryBench$Walk", "spend", "()V"⟩, 4) := by sorry
theorem lw_p37 : lw_okq (⟨"QueryBench$Walk", "step", "(LQueryBench$Segment;LQueryBench$Value;)V"⟩, 4) := by sorry
theorem lw_p38 : lw_okq (⟨"QueryBench$Walk", "choose", "(LQueryBench$Segment;LQueryBench$Value;)V"⟩, 4) := by sorry
theorem lw_p39 : lw_okq (⟨"QueryBench$Walk", "pushNamed", "(LQueryBench$Value;[I)V"⟩, 4) := by sorry
theorem lw_p40 : lw_okq (⟨"QueryBench$Walk", "pushAll", "(LQueryBench$Value;)V"⟩, 4) := by sorry
theorem lw_p41 : lw_okq (⟨"QueryBench$Walk", "pushAt", "(LQueryBench$Value;J)V"⟩, 4) := by sorry
theorem lw_p42 : lw_okq (⟨"QueryBench$Walk", "pushSlice", "(LQueryBench$Value;LQueryBench$Selector;)V"⟩, 4) := by sorry
theorem lw_p43 : lw_okq (⟨"QueryBench$Walk", "pushFiltered", "(LQueryBench$Value;LQueryBench$Condition;)V"⟩, 4) := by sorry
theorem lw_p44 : lw_okq (⟨"QueryBench$Walk", "holds", "(LQueryBench$Condition;LQueryBench$Value;)Z"⟩, 4) := by sorry
theorem lw_p45 : lw_okq (⟨"QueryBench$Walk", "anyHolds", "(LQueryBench$Condition;LQueryBench$Value;)Z"⟩, 4) := by sorry
theorem lw_p46 : lw_okq (⟨"QueryBench$Walk", "allHold", "(LQueryBench$Condition;LQueryBench$Value;)Z"⟩, 4) := by sorry
theorem lw_p47 : lw_okq (⟨"QueryBench$Walk", "nodeCount", "(LQueryBench$Query;LQueryBench$Value;)I"⟩, 4) := by sorry
def lw_privs_3 : List (MethodName × Nat) := [(⟨"QueryBench$QueryReader", "shortSelector", "(Z)LQueryBench$Selector;"⟩, 2), (⟨"QueryBench", "checkReady", "(I)V"⟩, 8), (⟨"QueryBench$Walk", "nodes", "(LQueryBench$Query;LQueryBench$Value;)I"⟩, 4), (⟨"QueryBench$Walk", "push", "(LQueryBench$Value;)V"⟩, 4), (⟨"QueryBench$Walk", "spend", "()V"⟩, 4), (⟨"QueryBench$Walk", "step", "(LQueryBench$Segment;LQueryBench$Value;)V"⟩, 4), (⟨"QueryBench$Walk", "choose", "(LQueryBench$Segment;LQueryBench$Value;)V"⟩, 4), (⟨"QueryBench$Walk", "pushNamed", "(LQueryBench$Value;[I)V"⟩, 4), (⟨"QueryBench$Walk", "pushAll", "(LQueryBench$Value;)V"⟩, 4), (⟨"QueryBench$Walk", "pushAt", "(LQueryBench$Value;J)V"⟩, 4), (⟨"QueryBench$Walk", "pushSlice", "(LQueryBench$Value;LQueryBench$Selector;)V"⟩, 4), (⟨"QueryBench$Walk", "pushFiltered", "(LQueryBench$Value;LQueryBench$Condition;)V"⟩, 4), (⟨"QueryBench$Walk", "holds", "(LQueryBench$Condition;LQueryBench$Value;)Z"⟩, 4), (⟨"QueryBench$Walk", "anyHolds", "(LQueryBench$Condition;LQueryBench$Value;)Z"⟩, 4), (⟨"QueryBench$Walk", "allHold", "(LQueryBench$Condition;LQueryBench$Value;)Z"⟩, 4), (⟨"QueryBench$Walk", "nodeCount", "(LQueryBench$Query;LQueryBench$Value;)I"⟩, 4)]
theorem lw_r3 : ∀ q ∈ lw_privs_3, lw_okq q := by sorry
theorem lw_p48 : lw_okq (⟨"QueryBench$Walk", "compares", "(LQueryBench$Condition;LQueryBench$Value;)Z"⟩, 4) := by sorry
theorem lw_p49 : lw_okq (⟨"QueryBench$Walk", "valueOf", "(LQueryBench$Operand;LQueryBench$Value;)LQueryBench$Value;"⟩, 4) := by sorry
theorem lw_p50 : lw_okq (⟨"QueryBench$Walk", "onlyNode", "(LQueryBench$Query;LQueryBench$Value;)LQueryBench$Value;"⟩, 4) := by sorry
theorem lw_p51 : lw_okq (⟨"QueryBench$Printer", "path", "(LQueryBench$Value;)V"⟩, 3) := by sorry
theorem lw_p52 : lw_okq (⟨"QueryBench$Printer", "put", "(I)V"⟩, 3) := by sorry
theorem lw_p53 : lw_okq (⟨"QueryBench$Printer", "number", "(J)V"⟩, 3) := by sorry
theorem lw_p54 : lw_okq (⟨"QueryBench$Printer", "text", "([II)V"⟩, 3) := by sorry
theorem lw_p55 : lw_okq (⟨"QueryBench$Printer", "unit", "(II)V"⟩, 3) := by sorry
theorem lw_p56 : lw_okq (⟨"QueryBench$Printer", "putLetters", "(Ljava/lang/String;)V"⟩, 3) := by sorry
theorem lw_p57 : lw_okq (⟨"QueryBench$Printer", "value", "(LQueryBench$Value;I)V"⟩, 3) := by sorry
theorem lw_p58 : lw_okq (⟨"QueryBench$Printer", "members", "(LQueryBench$Value;I)V"⟩, 3) := by sorry
theorem lw_p59 : lw_okq (⟨"QueryBenchModel", "good", "(ZI)Z"⟩, 30) := by sorry
theorem lw_p60 : lw_okq (⟨"QueryBenchModel", "four", "(I)V"⟩, 30) := by sorry
theorem lw_p61 : lw_okq (⟨"QueryBenchModel", "used", "()I"⟩, 30) := by sorry
theorem lw_p62 : lw_okq (⟨"QueryBenchModel", "read", "([BILQueryBenchModel$Tree;)I"⟩, 30) := by sorry
theorem lw_p63 : lw_okq (⟨"QueryBenchModel", "value", "(LQueryBenchModel$Tree;I)I"⟩, 30) := by sorry
def lw_privs_4 : List (MethodName × Nat) := [(⟨"QueryBench$Walk", "compares", "(LQueryBench$Condition;LQueryBench$Value;)Z"⟩, 4), (⟨"QueryBench$Walk", "valueOf", "(LQueryBench$Operand;LQueryBench$Value;)LQueryBench$Value;"⟩, 4), (⟨"QueryBench$Walk", "onlyNode", "(LQueryBench$Query;LQueryBench$Value;)LQueryBench$Value;"⟩, 4), (⟨"QueryBench$Printer", "path", "(LQueryBench$Value;)V"⟩, 3), (⟨"QueryBench$Printer", "put", "(I)V"⟩, 3), (⟨"QueryBench$Printer", "number", "(J)V"⟩, 3), (⟨"QueryBench$Printer", "text", "([II)V"⟩, 3), (⟨"QueryBench$Printer", "unit", "(II)V"⟩, 3), (⟨"QueryBench$Printer", "putLetters", "(Ljava/lang/String;)V"⟩, 3), (⟨"QueryBench$Printer", "value", "(LQueryBench$Value;I)V"⟩, 3), (⟨"QueryBench$Printer", "members", "(LQueryBench$Value;I)V"⟩, 3), (⟨"QueryBenchModel", "good", "(ZI)Z"⟩, 30), (⟨"QueryBenchModel", "four", "(I)V"⟩, 30), (⟨"QueryBenchModel", "used", "()I"⟩, 30), (⟨"QueryBenchModel", "read", "([BILQueryBenchModel$Tree;)I"⟩, 30), (⟨"QueryBenchModel", "value", "(LQueryBenchModel$Tree;I)I"⟩, 30)]
theorem lw_r4 : ∀ q ∈ lw_privs_4, lw_okq q := by sorry
theorem lw_p64 : lw_okq (⟨"QueryBenchModel", "blanks", "()V"⟩, 30) := by sorry
theorem lw_p65 : lw_okq (⟨"QueryBenchModel", "c", "()I"⟩, 30) := by sorry
theorem lw_p66 : lw_okq (⟨"QueryBenchModel", "word", "(Ljava/lang/String;)Z"⟩, 30) := by sorry
theorem lw_p67 : lw_okq (⟨"QueryBenchModel", "take", "(I)Z"⟩, 30) := by sorry
theorem lw_p68 : lw_okq (⟨"QueryBenchModel", "fail", "(I)Z"⟩, 30) := by sorry
theorem lw_p69 : lw_okq (⟨"QueryBenchModel", "quoted", "(ILQueryBenchModel$Tree;)Z"⟩, 30) := by sorry
theorem lw_p70 : lw_okq (⟨"QueryBenchModel", "escaped", "(I)I"⟩, 30) := by sorry
theorem lw_p71 : lw_okq (⟨"QueryBenchModel", "number", "(LQueryBenchModel$Tree;I)Z"⟩, 30) := by sorry
theorem lw_p72 : lw_okq (⟨"QueryBenchModel", "inside", "(LQueryBenchModel$Tree;III)Z"⟩, 30) := by sorry
theorem lw_p73 : lw_okq (⟨"QueryBenchModel", "begin", "()V"⟩, 30) := by sorry
theorem lw_p74 : lw_okq (⟨"QueryBenchModel", "print", "(LQueryBenchModel$Tree;I)V"⟩, 30) := by sorry
theorem lw_p75 : lw_okq (⟨"QueryBenchModel", "write", "(Ljava/lang/String;)V"⟩, 30) := by sorry
theorem lw_p76 : lw_okq (⟨"QueryBenchModel", "write", "(I)V"⟩, 30) := by sorry
theorem lw_p77 : lw_okq (⟨"QueryBenchModel", "number", "(J)V"⟩, 30) := by sorry
theorem lw_p78 : lw_okq (⟨"QueryBenchModel", "units", "(LQueryBenchModel$Tree;III)V"⟩, 30) := by sorry
theorem lw_p79 : lw_okq (⟨"QueryBenchModel", "readQuery", "([BI)I"⟩, 30) := by sorry
def lw_privs_5 : List (MethodName × Nat) := [(⟨"QueryBenchModel", "blanks", "()V"⟩, 30), (⟨"QueryBenchModel", "c", "()I"⟩, 30), (⟨"QueryBenchModel", "word", "(Ljava/lang/String;)Z"⟩, 30), (⟨"QueryBenchModel", "take", "(I)Z"⟩, 30), (⟨"QueryBenchModel", "fail", "(I)Z"⟩, 30), (⟨"QueryBenchModel", "quoted", "(ILQueryBenchModel$Tree;)Z"⟩, 30), (⟨"QueryBenchModel", "escaped", "(I)I"⟩, 30), (⟨"QueryBenchModel", "number", "(LQueryBenchModel$Tree;I)Z"⟩, 30), (⟨"QueryBenchModel", "inside", "(LQueryBenchModel$Tree;III)Z"⟩, 30), (⟨"QueryBenchModel", "begin", "()V"⟩, 30), (⟨"QueryBenchModel", "print", "(LQueryBenchModel$Tree;I)V"⟩, 30), (⟨"QueryBenchModel", "write", "(Ljava/lang/String;)V"⟩, 30), (⟨"QueryBenchModel", "write", "(I)V"⟩, 30), (⟨"QueryBenchModel", "number", "(J)V"⟩, 30), (⟨"QueryBenchModel", "units", "(LQueryBenchModel$Tree;III)V"⟩, 30), (⟨"QueryBenchModel", "readQuery", "([BI)I"⟩, 30)]
theorem lw_r5 : ∀ q ∈ lw_privs_5, lw_okq q := by sorry
theorem lw_p80 : lw_okq (⟨"QueryBenchModel", "queryRest", "(ZZ)I"⟩, 30) := by sorry
theorem lw_p81 : lw_okq (⟨"QueryBenchModel", "row", "(I)I"⟩, 30) := by sorry
theorem lw_p82 : lw_okq (⟨"QueryBenchModel", "set", "(III)V"⟩, 30) := by sorry
theorem lw_p83 : lw_okq (⟨"QueryBenchModel", "segment", "(IZ)I"⟩, 30) := by sorry
theorem lw_p84 : lw_okq (⟨"QueryBenchModel", "selectors", "(IIZ)Z"⟩, 30) := by sorry
theorem lw_p85 : lw_okq (⟨"QueryBenchModel", "enter", "(I)Z"⟩, 30) := by sorry
theorem lw_p86 : lw_okq (⟨"QueryBenchModel", "selector", "(Z)I"⟩, 30) := by sorry
theorem lw_p87 : lw_okq (⟨"QueryBenchModel", "field", "(II)I"⟩, 30) := by sorry
theorem lw_p88 : lw_okq (⟨"QueryBenchModel", "or", "()I"⟩, 30) := by sorry
theorem lw_p89 : lw_okq (⟨"QueryBenchModel", "and", "()I"⟩, 30) := by sorry
theorem lw_p90 : lw_okq (⟨"QueryBenchModel", "basic", "()I"⟩, 30) := by sorry
theorem lw_p91 : lw_okq (⟨"QueryBenchModel", "shut", "(I)Z"⟩, 30) := by sorry
theorem lw_p92 : lw_okq (⟨"QueryBenchModel", "operator", "()Z"⟩, 30) := by sorry
theorem lw_p93 : lw_okq (⟨"QueryBenchModel", "comparison", "(I)I"⟩, 30) := by sorry
theorem lw_p94 : lw_okq (⟨"QueryBenchModel", "comparable", "()I"⟩, 30) := by sorry
theorem lw_p95 : lw_okq (⟨"QueryBenchModel", "whole", "(II)Z"⟩, 30) := by sorry
def lw_privs_6 : List (MethodName × Nat) := [(⟨"QueryBenchModel", "queryRest", "(ZZ)I"⟩, 30), (⟨"QueryBenchModel", "row", "(I)I"⟩, 30), (⟨"QueryBenchModel", "set", "(III)V"⟩, 30), (⟨"QueryBenchModel", "segment", "(IZ)I"⟩, 30), (⟨"QueryBenchModel", "selectors", "(IIZ)Z"⟩, 30), (⟨"QueryBenchModel", "enter", "(I)Z"⟩, 30), (⟨"QueryBenchModel", "selector", "(Z)I"⟩, 30), (⟨"QueryBenchModel", "field", "(II)I"⟩, 30), (⟨"QueryBenchModel", "or", "()I"⟩, 30), (⟨"QueryBenchModel", "and", "()I"⟩, 30), (⟨"QueryBenchModel", "basic", "()I"⟩, 30), (⟨"QueryBenchModel", "shut", "(I)Z"⟩, 30), (⟨"QueryBenchModel", "operator", "()Z"⟩, 30), (⟨"QueryBenchModel", "comparison", "(I)I"⟩, 30), (⟨"QueryBenchModel", "comparable", "()I"⟩, 30), (⟨"QueryBenchModel", "whole", "(II)Z"⟩, 30)]
theorem lw_r6 : ∀ q ∈ lw_privs_6, lw_okq q := by sorry
theorem lw_p96 : lw_okq (⟨"QueryBenchModel", "wrap", "(I)I"⟩, 30) := by sorry
theorem lw_p97 : lw_okq (⟨"QueryBenchModel", "asked", "(I)I"⟩, 30) := by sorry
theorem lw_p98 : lw_okq (⟨"QueryBenchModel", "ask", "(II)I"⟩, 30) := by sorry
theorem lw_p99 : lw_okq (⟨"QueryBenchModel", "choose", "(I)V"⟩, 30) := by sorry
theorem lw_p100 : lw_okq (⟨"QueryBenchModel", "worked", "()Z"⟩, 30) := by sorry
theorem lw_p101 : lw_okq (⟨"QueryBenchModel", "descend", "(II)V"⟩, 30) := by sorry
theorem lw_p102 : lw_okq (⟨"QueryBenchModel", "select", "(II)V"⟩, 30) := by sorry
theorem lw_p103 : lw_okq (⟨"QueryBenchModel", "numbers", "(II)V"⟩, 30) := by sorry
theorem lw_p104 : lw_okq (⟨"QueryBenchModel", "kidAt", "(IJ)I"⟩, 30) := by sorry
theorem lw_p105 : lw_okq (⟨"QueryBenchModel", "holds", "(II)Z"⟩, 30) := by sorry
theorem lw_p106 : lw_okq (⟨"QueryBenchModel", "compared", "(II)Z"⟩, 30) := by sorry
theorem lw_p107 : lw_okq (⟨"QueryBenchModel", "comparableValue", "(II)I"⟩, 30) := by sorry
theorem lw_p108 : lw_okq (⟨"QueryBenchModel", "lengthOf", "(I)I"⟩, 30) := by sorry
theorem lw_p109 : lw_okq (⟨"QueryBenchModel", "below", "(II)Z"⟩, 30) := by sorry
theorem lw_p110 : lw_okq (⟨"QueryBenchModel", "path", "(I)V"⟩, 30) := by sorry
def lw_privs_7 : List (MethodName × Nat) := [(⟨"QueryBenchModel", "wrap", "(I)I"⟩, 30), (⟨"QueryBenchModel", "asked", "(I)I"⟩, 30), (⟨"QueryBenchModel", "ask", "(II)I"⟩, 30), (⟨"QueryBenchModel", "choose", "(I)V"⟩, 30), (⟨"QueryBenchModel", "worked", "()Z"⟩, 30), (⟨"QueryBenchModel", "descend", "(II)V"⟩, 30), (⟨"QueryBenchModel", "select", "(II)V"⟩, 30), (⟨"QueryBenchModel", "numbers", "(II)V"⟩, 30), (⟨"QueryBenchModel", "kidAt", "(IJ)I"⟩, 30), (⟨"QueryBenchModel", "holds", "(II)Z"⟩, 30), (⟨"QueryBenchModel", "compared", "(II)Z"⟩, 30), (⟨"QueryBenchModel", "comparableValue", "(II)I"⟩, 30), (⟨"QueryBenchModel", "lengthOf", "(I)I"⟩, 30), (⟨"QueryBenchModel", "below", "(II)Z"⟩, 30), (⟨"QueryBenchModel", "path", "(I)V"⟩, 30)]
theorem lw_r7 : ∀ q ∈ lw_privs_7, lw_okq q := by sorry
def lw_privs : List (MethodName × Nat) := lw_privs_1 ++ (lw_privs_2 ++ (lw_privs_3 ++ (lw_privs_4 ++ (lw_privs_5 ++ (lw_privs_6 ++ (lw_privs_7))))))
def lw_tbl : List Cond := k2_sels lw_privs ++ tables_1
theorem lw_privs_ok : ∀ q ∈ lw_privs, lw_okq q := by sorry
end
section
theorem goodIn_r {big : List Cond} (ws : List Cond) (ps : List Nat) (hp : ws = ps.filterMap (fun i => big[i]?)) (h : ws.all goodWord = true) : GoodIn big ws := by sorry
theorem goodIn_app {big a b : List Cond} (ha : GoodIn big a) (hb : GoodIn big b) : GoodIn big (a ++ b) := by sorry
theorem goodIn_ca {big a b : List Cond} {c : Cond} (ha : GoodIn big (c :: a)) (hb : GoodIn big b) : GoodIn big (c :: (a ++ b)) := by sorry
theorem goodIn_sub {big ws : List Cond} (hm : ∀ w ∈ ws, w ∈ big) (h : ws.all goodWord = true) : GoodIn big ws := by sorry
section VXA
def vx_T (XC : String → State → State → Prop) (st : State) (q : Addr) (t : State) (mc ms : Nat) (free : Addr → Prop) : Prop :=
  ∃ (E : String) (ce : Cell) (L : List Loc), XC E st t ∧ t.heap[q]? = some ce ∧ ce.vm = .none ∧ st.vm.findClass E = some ce.cls ∧ st.WarmedH t.vm ∧ st.sameButNew ({ t with vm := st.vm } : State) L mc ms ∧ ∀ z ∈ L, free z.base
def vx_Q (Qc : Array Value → State → Outcome → State → Prop) (XC : String → State → State → Prop) (mc ms : Nat) (free : Addr → Prop) : Array Value → State → Outcome → State → Prop := fun a st o t =>
  (Qc a st o t ∧ ∃ L, FrameEnd st o t L mc ms ∧ ∀ q ∈ L, free q.base) ∨ ∃ q, o = .threw q ∧ vx_T XC st q t mc ms free
def vx_Met (l : Launch) (y : MethodName) (ws : List Cond) (rm : Room) (Pc : Array Value → State → Prop) (Qc : Array Value → State → Outcome → State → Prop) (XC : String → State → State → Prop) (mc ms : Nat) (free : Addr → Prop) : Prop :=
  MetFree l y (headSpec ws rm) Pc (fun _ _ _ _ _ => True) (vx_Q Qc XC mc ms free)
def vx_Post (XC : String → State → State → Prop) (mc ms : Nat) (free : Addr → Prop) : Pt → Array Value → Addr → Pt → Prop := fun A a q B =>
  ∃ (g : JFrame) (mk : MethodId) (t : State) (L : List Loc) (E : String) (ce : Cell), B.U.heap = t.heap ∧ B.U.vm = t.vm ∧ XC E (A.U.calling g mk a) t ∧ t.heap[q]? = some ce ∧ ce.vm = .none ∧ A.U.vm.findClass E = some ce.cls ∧ B.locs = A.locs ++ L ∧ (∀ z ∈ L, free z.base) ∧ B.cells = A.cells + mc ∧ B.slots = A.slots + ms
def vx_Back (l : Launch) (R : Room) (p : Program) (e : Env) (below : List Frame) (s : State) (sargs : Array Value) (y : MethodName) (len W9 : Nat)
    (Pre : Pt → Array Value → Prop) (Post : Pt → Array Value → Option Value → Pt → Prop) (PostX : Pt → Array Value → Addr → Pt → Prop) : Prop :=
  ∀ (m : MethodId) (meth : Method) (c : Code) (A : Pt) (g : JFrame) (ig : Instr) (mk : MethodId) (a : Array Value),
    Stand p l e R s m sargs below meth c A.U A.locs A.cells A.slots → g.method = m → g.locals.size = c.maxLocals → decode c.code g.pc = .ok (ig, len) →
    2 * g.monitorRoom + (g.stack.map fun v => v.category).sum ≤ W9 → A.U.methodNamed? y = some mk → Pre A a →
    (∃ (v : Option Value) (B : Pt), Stand p l e R s m sargs below meth c B.U B.locs B.cells B.slots ∧ Post A a v B ∧
      Steps p.tables e below (doInvoke e (A.U.setTop g) [] mk a).1 (B.U.setTop { g with pc := g.pc + len, stack := v.toList ++ g.stack })) ∨
    (∃ (q : Addr) (B : Pt), Stand p l e R s m sargs below meth c B.U B.locs B.cells B.slots ∧ PostX A a q B ∧
      Steps p.tables e below (doInvoke e (A.U.setTop g) [] mk a).1 ((B.U.setTop g).pushFrame (.throwing q)))
section Payer
variable {l : Launch} {R : Room} {p : Program} {e : Env} {below : List Frame} {s : State} {sargs : Array Value} {y : MethodName} {len W9 : Nat}
theorem vx_back {ws : List Cond} {rm : Room} {Pc : Array Value → State → Prop} {Qc : Array Value → State → Outcome → State → Prop} {XC : String → State → State → Prop} {mc ms : Nat} {free : Addr → Prop} {bytes : ByteArray} {maxL : Nat} {ret : Option FieldType}
    (hM : vx_Met l y ws rm Pc Qc XC mc ms free) (hblind : FrameBlind Pc) (hrc : rm.cells = mc) (hrs : rm.slots = ms)
    (hframes : rm.frames + 1 ≤ R.frames) (hlocals : W9 + (maxL + 11) + rm.locals ≤ R.locals)
    (hws : ∀ w ∈ ws, ∀ a' U, s.WarmedH U.vm → w.before a' U = true) (hcode : Cond.code y bytes maxL ret ∈ ws) (hinit : ∀ a' U, s.WarmedH U.vm → (Cond.initialized y.cls).before a' U = true) :
    vx_Back l R p e below s sargs y len W9 (PreOf R mc ms Pc) (PostOf Qc mc ms free) (vx_Post XC mc ms free) := by sorry
end Payer
section Calls
variable {p : Program} {l : Launch} {e : Env} {R : Room} {s : State} {m : MethodId} {args : Array Value} {below : List Frame} {meth : Method} {c : Code} {T : State} {locs : List Loc} {cells slots : Nat}
theorem vx_callV (X : Stand p l e R s m args below meth c T locs cells slots) (hexec : p.tables.exec = Jvm.exec) {own C : String} {index : Nat} {y : MethodName} {bytes : ByteArray} {maxL : Nat} {ret : Option FieldType}
    (hown : s.vm.findClass own = some m.cls) (hlink : (Cond.methodLink own index y).before args s = true) (hinst : (Cond.instanceMethod y).before args s = true) (hsel : (Cond.selects C y y).before args s = true)
    (hcode : (Cond.code y bytes maxL ret).before args s = true) (hy : y.cls ≠ "java/lang/invoke/MethodHandle" ∧ y.cls ≠ "java/lang/invoke/VarHandle")
    {W9 : Nat} {Pre : Pt → Array Value → Prop} {Post : Pt → Array Value → Option Value → Pt → Prop} {PostX : Pt → Array Value → Addr → Pt → Prop} (hK : vx_Back l R p e below s args y 3 W9 Pre Post PostX)
    {b : Addr} {cellB : Cell} (hcell : T.heap[b]? = some cellB) (hobj : cellB.vm.isStatics = false) (hcls : s.vm.findClass C = some cellB.cls)
    {g : JFrame} (hg : g.method = m) (hsize : g.locals.size = c.maxLocals) {argsL rest : List Value} (hlen : ∀ sig, parseMethodDescriptor y.desc = some sig → argsL.length = sig.parameters.length)
    (hstack : g.stack = argsL.reverse ++ .ref b :: rest) (hW : 2 * g.monitorRoom + (rest.map fun v => v.category).sum ≤ W9) (hdg : decode c.code g.pc = .ok (.invokevirtual index, 3))
    (hpre : ∀ vm₁, s.WarmedH vm₁ → Pre ⟨T.setVm vm₁, locs, cells, slots⟩ (Value.ref b :: argsL).toArray) :
    (∃ (v : Option Value) (vm₁ : Vm) (B : Pt), s.WarmedH vm₁ ∧ Stand p l e R s m args below meth c B.U B.locs B.cells B.slots ∧ Post ⟨T.setVm vm₁, locs, cells, slots⟩ (Value.ref b :: argsL).toArray v B ∧
      ∀ target, Steps p.tables e below (B.U.setTop { g with pc := g.pc + 3, stack := v.toList ++ rest }) target → Steps p.tables e below (T.setTop g) target) ∨
    (∃ (q : Addr) (vm₁ : Vm) (B : Pt), s.WarmedH vm₁ ∧ Stand p l e R s m args below meth c B.U B.locs B.cells B.slots ∧ PostX ⟨T.setVm vm₁, locs, cells, slots⟩ (Value.ref b :: argsL).toArray q B ∧
      Steps p.tables e below (T.setTop g) ((B.U.setTop { g with stack := rest }).pushFrame (.throwing q))) := by sorry
theorem vx_callS (X : Stand p l e R s m args below meth c T locs cells slots) (hexec : p.tables.exec = Jvm.exec) {own : String} {index : Nat} {y : MethodName} {bytes : ByteArray} {maxL : Nat} {ret : Option FieldType}
    (hown : s.vm.findClass own = some m.cls) (hlink : (Cond.methodLink own index y).before args s = true) (hstat : (Cond.static y).before args s = true) (hinit : (Cond.initialized y.cls).before args s = true)
    (hcode : (Cond.code y bytes maxL ret).before args s = true) (hy : y.cls ≠ "java/lang/invoke/MethodHandle" ∧ y.cls ≠ "java/lang/invoke/VarHandle")
    {W9 : Nat} {Pre : Pt → Array Value → Prop} {Post : Pt → Array Value → Option Value → Pt → Prop} {PostX : Pt → Array Value → Addr → Pt → Prop} (hK : vx_Back l R p e below s args y 3 W9 Pre Post PostX)
    {g : JFrame} (hg : g.method = m) (hsize : g.locals.size = c.maxLocals) {argsL rest : List Value} (hlen : ∀ sig, parseMethodDescriptor y.desc = some sig → argsL.length = sig.parameters.length)
    (hstack : g.stack = argsL.reverse ++ rest) (hW : 2 * g.monitorRoom + (rest.map fun v => v.category).sum ≤ W9) (hdg : decode c.code g.pc = .ok (.invokestatic index, 3))
    (hpre : ∀ vm₁, s.WarmedH vm₁ → Pre ⟨T.setVm vm₁, locs, cells, slots⟩ argsL.toArray) :
    (∃ (v : Option Value) (vm₁ : Vm) (B : Pt), s.WarmedH vm₁ ∧ Stand p l e R s m args below meth c B.U B.locs B.cells B.slots ∧ Post ⟨T.setVm vm₁, locs, cells, slots⟩ argsL.toArray v B ∧
      ∀ target, Steps p.tables e below (B.U.setTop { g with pc := g.pc + 3, stack := v.toList ++ rest }) target → Steps p.tables e below (T.setTop g) target) ∨
    (∃ (q : Addr) (vm₁ : Vm) (B : Pt), s.WarmedH vm₁ ∧ Stand p l e R s m args below meth c B.U B.locs B.cells B.slots ∧ PostX ⟨T.setVm vm₁, locs, cells, slots⟩ argsL.toArray q B ∧
      Steps p.tables e below (T.setTop g) ((B.U.setTop { g with stack := rest }).pushFrame (.throwing q))) := by sorry
end Calls
theorem vx_cls {s : State} {T : State} {vm₁ : Vm} {E : String} {k : ClassId} (hW : s.WarmedH vm₁) (h : (T.setVm vm₁).vm.findClass E = some k) : s.vm.findClass E = some k := by sorry
def vx_W (p : Program) (l : Launch) (e : Env) (R : Room) (s : State) (m : MethodId) (args : Array Value) (below : List Frame) (meth : Method) (c : Code) (H : Heap) (locs : List Loc) (cells slots : Nat) (Q : State → Prop) (g : JFrame) (q : Addr) : Prop :=
  ∀ T : State, T.heap = H → Stand p l e R s m args below meth c T locs cells slots → ∃ t, Steps p.tables e below ((T.setTop g).pushFrame (.throwing q)) t ∧ Q t
def vx_Run (p : Program) (l : Launch) (e : Env) (R : Room) (s : State) (m : MethodId) (args : Array Value) (below : List Frame) (meth : Method) (c : Code) (H : Heap) (locs : List Loc) (cells slots mc ms : Nat) (g : JFrame) (rest : List Value) (Qa : State → Outcome → State → Prop) (XC : String → State → State → Prop) (free : Addr → Prop) : Prop :=
  ∀ T : State, T.heap = H → Stand p l e R s m args below meth c T locs cells slots →
    (∃ (v : Option Value) (st₀ t T' : State) (L : List Loc), st₀.heap = H ∧ Stand p l e R s m args below meth c T' (locs ++ L) (cells + mc) (slots + ms) ∧ (∀ q ∈ L, free q.base) ∧ T'.heap = t.heap ∧ T'.vm = t.vm ∧ Qa st₀ (.returned v) t ∧
      Goes p e below T g T' { g with pc := g.pc + 3, stack := v.toList ++ rest }) ∨
    (∃ (q : Addr) (st₀ t T' : State) (L : List Loc) (E : String) (ce : Cell), st₀.heap = H ∧ Stand p l e R s m args below meth c T' (locs ++ L) (cells + mc) (slots + ms) ∧ (∀ z ∈ L, free z.base) ∧ T'.heap = t.heap ∧ T'.vm = t.vm ∧ XC E st₀ t ∧ t.heap[q]? = some ce ∧ ce.vm = .none ∧ s.vm.findClass E = some ce.cls ∧
      Steps p.tables e below (T.setTop g) ((T'.setTop { g with stack := rest }).pushFrame (.throwing q)))
def vx_X {S : Type} (px : S → Prop) (B : String → S → State → Prop) (A : Nat → Prop) : String → State → State → Prop := fun E st t => ∃ u : S, px u ∧ B E u t ∧ va_F A st t
section Runs
variable {p : Program} {l : Launch} {e : Env} {R : Room} {s : State} {m : MethodId} {args : Array Value} {below : List Frame} {meth : Method} {c : Code} {H : Heap} {locs : List Loc} {cells slots : Nat}
variable {y : MethodName} {bytes cc : ByteArray} {maxL nL mc ms n index : Nat} {ret : Option FieldType} {ws : List Cond} {rm : Room} {Pc : Array Value → State → Prop} {Qc : Array Value → State → Outcome → State → Prop} {XC : String → State → State → Prop} {free : Addr → Prop} {Ts : List Cond} {own C : String} {b : Addr} {As rest : List Value} {g : JFrame}
theorem vx_callBack (cb : CallB R s args own index y bytes maxL ret ws rm mc ms n) (hM : vx_Met l y ws rm Pc Qc XC mc ms free) (hbl : FrameBlind Pc) : vx_Back l R p e below s args y 3 8 (PreOf R mc ms Pc) (PostOf Qc mc ms free) (vx_Post XC mc ms free) := by sorry
theorem vx_runV (S : CallFix p m c cc nL s args Ts own) (hM : vx_Met l y ws rm Pc Qc XC mc ms free) (cw : CallW R s args own C index y bytes maxL ret ws rm mc ms n) (hp : PreV s H C b Pc As)
    (hg : g.method = m) (hn : As.length = n) (hsize : g.locals.size = nL) (hstack : g.stack = As.reverse ++ .ref b :: rest) (hW : 2 * g.monitorRoom + (rest.map fun v => v.category).sum ≤ 8) (hdg : decode cc g.pc = .ok (.invokevirtual index, 3)) (hf : cells + mc ≤ R.cells ∧ slots + ms ≤ R.slots) :
    vx_Run p l e R s m args below meth c H locs cells slots mc ms g rest (Qc (Value.ref b :: As).toArray) XC free := by sorry
theorem vx_runS (S : CallFix p m c cc nL s args Ts own) (hM : vx_Met l y ws rm Pc Qc XC mc ms free) (cw : CallB R s args own index y bytes maxL ret ws rm mc ms n ∧ (Cond.static y).before args s = true) (hp : PreS s H Pc As)
    (hg : g.method = m) (hn : As.length = n) (hsize : g.locals.size = nL) (hstack : g.stack = As.reverse ++ rest) (hW : 2 * g.monitorRoom + (rest.map fun v => v.category).sum ≤ 8) (hdg : decode cc g.pc = .ok (.invokestatic index, 3)) (hf : cells + mc ≤ R.cells ∧ slots + ms ≤ R.slots) :
    vx_Run p l e R s m args below meth c H locs cells slots mc ms g rest (Qc As.toArray) XC free := by sorry
end Runs
section Rows
variable {p : Program} {l : Launch} {e : Env} {R : Room} {s : State} {m : MethodId} {args : Array Value} {below : List Frame} {meth : Method} {c : Code} {H : Heap} {locs : List Loc} {cells slots : Nat} {Q : State → Prop}
variable {mc ms : Nat} {free : Addr → Prop} {A0 A1 : Nat → Prop} {H0 : Heap} {a : Array Value} {pc : Nat} {ls : Array Slot} {st0 rest : List Value}
theorem vx_keep {st₀ t T' : State} {L : List Loc} (h0 : st₀.heap = H) (e1 : T'.heap = t.heap) (hS : va_S A0 H0 H locs) (hA : ∀ q, q < H.size → A1 q → A0 q) (hf : ∀ q, free q → A0 q) (hL : ∀ q ∈ L, free q.base) (hF : va_F A1 st₀ t) :
    H.size ≤ T'.heap.size ∧ (∀ q : Nat, q < H.size → ¬ A1 q → T'.heap[q]? = H[q]?) ∧ va_S A0 H0 T'.heap (locs ++ L) := by sorry
theorem vx_calli {S SX : Type} {post : Int32 → S → Prop} {px : SX → Prop} {B : S → State → Prop} {BX : String → SX → State → Prop} {AX : Nat → Prop} (hr : vx_Run p l e R s m args below meth c H locs cells slots mc ms (F0 m pc ls st0) rest (va_Qi post B A1 a) (vx_X px BX AX) free) (hS : va_S A0 H0 H locs) (hA : ∀ q, q < H.size → A1 q → A0 q) (hf : ∀ q, free q → A0 q) (hAX : ∀ q, q < H.size → AX q → A0 q)
    (kx : ∀ (E : String) (ce : Cell) (q9 : Addr) (u : SX) (t : State) (H1 : Heap) (locs1 : List Loc), t.heap = H1 → s.vm.Alike t.vm → px u → BX E u t → H.size ≤ H1.size → (∀ q : Nat, q < H.size → ¬ AX q → H1[q]? = H[q]?) → va_S A0 H0 H1 locs1 → H1[q9]? = some ce → ce.vm = .none → s.vm.findClass E = some ce.cls → vx_W p l e R s m args below meth c H1 locs1 (cells + mc) (slots + ms) Q (F0 m pc ls rest) q9)
    (kk : ∀ (r : Int32) (u : S) (t : State) (H1 : Heap) (locs1 : List Loc), t.heap = H1 → s.vm.Alike t.vm → post r u → B u t → H.size ≤ H1.size → (∀ q : Nat, q < H.size → ¬ A1 q → H1[q]? = H[q]?) → va_S A0 H0 H1 locs1 → W p l e R s m args below meth c H1 locs1 (cells + mc) (slots + ms) Q (F0 m (pc + 3) ls (.int r :: rest))) : W p l e R s m args below meth c H locs cells slots Q (F0 m pc ls st0) := by sorry
theorem vx_calll {S SX : Type} {post : Int64 → S → Prop} {px : SX → Prop} {B : S → State → Prop} {BX : String → SX → State → Prop} {AX : Nat → Prop} (hr : vx_Run p l e R s m args below meth c H locs cells slots mc ms (F0 m pc ls st0) rest (va_Ql post B A1 a) (vx_X px BX AX) free) (hS : va_S A0 H0 H locs) (hA : ∀ q, q < H.size → A1 q → A0 q) (hf : ∀ q, free q → A0 q) (hAX : ∀ q, q < H.size → AX q → A0 q)
    (kx : ∀ (E : String) (ce : Cell) (q9 : Addr) (u : SX) (t : State) (H1 : Heap) (locs1 : List Loc), t.heap = H1 → s.vm.Alike t.vm → px u → BX E u t → H.size ≤ H1.size → (∀ q : Nat, q < H.size → ¬ AX q → H1[q]? = H[q]?) → va_S A0 H0 H1 locs1 → H1[q9]? = some ce → ce.vm = .none → s.vm.findClass E = some ce.cls → vx_W p l e R s m args below meth c H1 locs1 (cells + mc) (slots + ms) Q (F0 m pc ls rest) q9)
    (kk : ∀ (r : Int64) (u : S) (t : State) (H1 : Heap) (locs1 : List Loc), t.heap = H1 → s.vm.Alike t.vm → post r u → B u t → H.size ≤ H1.size → (∀ q : Nat, q < H.size → ¬ A1 q → H1[q]? = H[q]?) → va_S A0 H0 H1 locs1 → W p l e R s m args below meth c H1 locs1 (cells + mc) (slots + ms) Q (F0 m (pc + 3) ls (.long r :: rest))) : W p l e R s m args below meth c H locs cells slots Q (F0 m pc ls st0) := by sorry
theorem vx_callf {S SX : Type} {post : UInt32 → S → Prop} {px : SX → Prop} {B : S → State → Prop} {BX : String → SX → State → Prop} {AX : Nat → Prop} (hr : vx_Run p l e R s m args below meth c H locs cells slots mc ms (F0 m pc ls st0) rest (va_Qf post B A1 a) (vx_X px BX AX) free) (hS : va_S A0 H0 H locs) (hA : ∀ q, q < H.size → A1 q → A0 q) (hf : ∀ q, free q → A0 q) (hAX : ∀ q, q < H.size → AX q → A0 q)
    (kx : ∀ (E : String) (ce : Cell) (q9 : Addr) (u : SX) (t : State) (H1 : Heap) (locs1 : List Loc), t.heap = H1 → s.vm.Alike t.vm → px u → BX E u t → H.size ≤ H1.size → (∀ q : Nat, q < H.size → ¬ AX q → H1[q]? = H[q]?) → va_S A0 H0 H1 locs1 → H1[q9]? = some ce → ce.vm = .none → s.vm.findClass E = some ce.cls → vx_W p l e R s m args below meth c H1 locs1 (cells + mc) (slots + ms) Q (F0 m pc ls rest) q9)
    (kk : ∀ (r : UInt32) (u : S) (t : State) (H1 : Heap) (locs1 : List Loc), t.heap = H1 → s.vm.Alike t.vm → post r u → B u t → H.size ≤ H1.size → (∀ q : Nat, q < H.size → ¬ A1 q → H1[q]? = H[q]?) → va_S A0 H0 H1 locs1 → W p l e R s m args below meth c H1 locs1 (cells + mc) (slots + ms) Q (F0 m (pc + 3) ls (.float r :: rest))) : W p l e R s m args below meth c H locs cells slots Q (F0 m pc ls st0) := by sorry
theorem vx_calld {S SX : Type} {post : UInt64 → S → Prop} {px : SX → Prop} {B : S → State → Prop} {BX : String → SX → State → Prop} {AX : Nat → Prop} (hr : vx_Run p l e R s m args below meth c H locs cells slots mc ms (F0 m pc ls st0) rest (va_Qd post B A1 a) (vx_X px BX AX) free) (hS : va_S A0 H0 H locs) (hA : ∀ q, q < H.size → A1 q → A0 q) (hf : ∀ q, free q → A0 q) (hAX : ∀ q, q < H.size → AX q → A0 q)
    (kx : ∀ (E : String) (ce : Cell) (q9 : Addr) (u : SX) (t : State) (H1 : Heap) (locs1 : List Loc), t.heap = H1 → s.vm.Alike t.vm → px u → BX E u t → H.size ≤ H1.size → (∀ q : Nat, q < H.size → ¬ AX q → H1[q]? = H[q]?) → va_S A0 H0 H1 locs1 → H1[q9]? = some ce → ce.vm = .none → s.vm.findClass E = some ce.cls → vx_W p l e R s m args below meth c H1 locs1 (cells + mc) (slots + ms) Q (F0 m pc ls rest) q9)
    (kk : ∀ (r : UInt64) (u : S) (t : State) (H1 : Heap) (locs1 : List Loc), t.heap = H1 → s.vm.Alike t.vm → post r u → B u t → H.size ≤ H1.size → (∀ q : Nat, q < H.size → ¬ A1 q → H1[q]? = H[q]?) → va_S A0 H0 H1 locs1 → W p l e R s m args below meth c H1 locs1 (cells + mc) (slots + ms) Q (F0 m (pc + 3) ls (.double r :: rest))) : W p l e R s m args below meth c H locs cells slots Q (F0 m pc ls st0) := by sorry
theorem vx_callv {S SX : Type} {post : S → Prop} {px : SX → Prop} {B : S → State → Prop} {BX : String → SX → State → Prop} {AX : Nat → Prop} (hr : vx_Run p l e R s m args below meth c H locs cells slots mc ms (F0 m pc ls st0) rest (va_Qv post B A1 a) (vx_X px BX AX) free) (hS : va_S A0 H0 H locs) (hA : ∀ q, q < H.size → A1 q → A0 q) (hf : ∀ q, free q → A0 q) (hAX : ∀ q, q < H.size → AX q → A0 q)
    (kx : ∀ (E : String) (ce : Cell) (q9 : Addr) (u : SX) (t : State) (H1 : Heap) (locs1 : List Loc), t.heap = H1 → s.vm.Alike t.vm → px u → BX E u t → H.size ≤ H1.size → (∀ q : Nat, q < H.size → ¬ AX q → H1[q]? = H[q]?) → va_S A0 H0 H1 locs1 → H1[q9]? = some ce → ce.vm = .none → s.vm.findClass E = some ce.cls → vx_W p l e R s m args below meth c H1 locs1 (cells + mc) (slots + ms) Q (F0 m pc ls rest) q9)
    (kk : ∀ (u : S) (t : State) (H1 : Heap) (locs1 : List Loc), t.heap = H1 → s.vm.Alike t.vm → post u → B u t → H.size ≤ H1.size → (∀ q : Nat, q < H.size → ¬ A1 q → H1[q]? = H[q]?) → va_S A0 H0 H1 locs1 → W p l e R s m args below meth c H1 locs1 (cells + mc) (slots + ms) Q (F0 m (pc + 3) ls (rest))) : W p l e R s m args below meth c H locs cells slots Q (F0 m pc ls st0) := by sorry
theorem vx_catch {own name : String} {E : String} {ce : Cell} {q : Addr} (hown : s.vm.findClass own = some m.cls) (pre : List ExceptionTableEntry) (x : ExceptionTableEntry) (suf : List ExceptionTableEntry) (hsplit : c.exceptionTable.toList = pre ++ x :: suf)
    (hpass : ∀ z ∈ pre, covers z pc = false ∨ (z.catchType ≠ 0 ∧ ∃ nm : String, (Cond.classLink own z.catchType nm).before args s = true ∧ va_Nc E nm s)) (hx : covers x pc = true) (h0 : x.catchType ≠ 0)
    (hlink : (Cond.classLink own x.catchType name).before args s = true) (hcast : (Cond.castable E name).before args s = true) (hcell : H[q]? = some ce) (hv : ce.vm = .none) (hcl : s.vm.findClass E = some ce.cls)
    (kk : W p l e R s m args below meth c H locs cells slots Q (F0 m x.handlerPc ls [.ref q])) : vx_W p l e R s m args below meth c H locs cells slots Q (F0 m pc ls rest) q := by sorry
end Rows
section Ends
variable {p : Program} {l : Launch} {e : Env} {R : Room} {s : State} {m : MethodId} {args : Array Value} {below : List Frame} {meth : Method} {c : Code} {H : Heap} {locs : List Loc} {cells slots : Nat} {Q : State → Prop}
variable {mc ms : Nat} {free : Addr → Prop} {A0 A1 : Nat → Prop} {H0 : Heap} {a : Array Value} {ls : Array Slot} {st0 rest : List Value}
variable {Qc : Array Value → State → Outcome → State → Prop} {XC : String → State → State → Prop}
def vx_MQ (below : List Frame) (Qc : Array Value → State → Outcome → State → Prop) (XC : String → State → State → Prop) (a : Array Value) (s : State) (mc ms : Nat) (free : Addr → Prop) : State → Prop := fun t =>
  ∃ o, t.status = .running ∧ Ended t below o ∧ vx_Q Qc XC mc ms free a s o t
theorem vx_ret {g : JFrame} {mc ms : Nat} (k : W p l e R s m args below meth c H locs cells slots (MQ below Qc args s mc ms free) g) : W p l e R s m args below meth c H locs cells slots (vx_MQ below Qc XC args s mc ms free) g := by sorry
theorem vx_widen {g : JFrame} {q : Addr} {k n : Nat} (h1 : cells ≤ k) (h2 : slots ≤ n) (kk : vx_W p l e R s m args below meth c H locs k n Q g q) : vx_W p l e R s m args below meth c H locs cells slots Q g q := by sorry
theorem vx_out {pc : Nat} {E : String} {ce : Cell} {q : Addr} {mc ms : Nat} (hout : ∀ x ∈ c.exceptionTable.toList, covers x pc = false) (hlocks : meth.locks = false) (hcell : H[q]? = some ce) (hv : ce.vm = .none) (hcl : s.vm.findClass E = some ce.cls)
    (hx : ∀ t : State, t.heap = H → s.vm.Alike t.vm → XC E s t) (hf : ∀ z ∈ locs, free z.base) (hc : cells ≤ mc) (hs : slots ≤ ms) :
    vx_W p l e R s m args below meth c H locs cells slots (vx_MQ below Qc XC args s mc ms free) (F0 m pc ls rest) q := by sorry
theorem vx_frame {U : State} {k n : Nat} (h : s.sameButNew ({ U with vm := s.vm } : State) locs k n) : s.heap.size ≤ U.heap.size ∧ ∀ q : Nat, q < s.heap.size → (∀ z ∈ locs, z.base ≠ q) → U.heap[q]? = s.heap[q]? := by sorry
def vx_no (w : Cond) : Bool := decide (w ≠ .isRef (.static Bundle.tN "UNASSIGNED_STACK" Bundle.steD)) && decide (w ≠ .isRef (.static Bundle.tN "SUPPRESSED_SENTINEL" Bundle.listD)) && decide (w ≠ .laysStatic Bundle.tN "UNASSIGNED_STACK" Bundle.steD) && decide (w ≠ .laysStatic Bundle.tN "SUPPRESSED_SENTINEL" Bundle.listD)
def vx_at0 (own : String) (ic : Nat) (X : String) (names : List String) : List Cond := (Bundle.ownAtoms0 own ic X names).filter vx_no
def vx_atS (own : String) (ic : Nat) (X : String) (names : List String) : List Cond := (Bundle.ownAtoms own ic X names).filter vx_no
def vx_ot (w : Cond) : Bool := w.onTables || goodWord w
theorem vx_ot_at {args a' : Array Value} {s U : State} {w : Cond} (hW : s.WarmedH U.vm) (hvm : s.vm = U.vm) (hg : vx_ot w = true) (h : w.before args s = true) : w.before a' U = true := by sorry
theorem vx_hat {args : Array Value} {s : State} {L B : List Cond} (h1 : ∀ w ∈ L.filter goodWord, w.before args s = true) (h2 : ∀ w ∈ L.filter (fun w => !goodWord w), w ∈ B) (h3 : ∀ w ∈ B, w.before args s = true) : ∀ w ∈ L, w.before args s = true := by sorry
theorem vx_c {args : Array Value} {s : State} {w : Cond} {B : List Cond} (h : w.before args s = true) (t : ∀ w ∈ B, w.before args s = true) : ∀ w' ∈ w :: B, w'.before args s = true := by sorry
theorem vx_n {args : Array Value} {s : State} : ∀ w ∈ ([] : List Cond), w.before args s = true := by sorry
theorem vx_own {args : Array Value} {s : State} {L : List Cond} (h1 : ∀ w ∈ L.filter vx_no, w.before args s = true)
    (hU : (Cond.isRef (.static Bundle.tN "UNASSIGNED_STACK" Bundle.steD)).before args s = true) (hN : (Cond.isRef (.static Bundle.tN "SUPPRESSED_SENTINEL" Bundle.listD)).before args s = true)
    (lU : (Cond.laysStatic Bundle.tN "UNASSIGNED_STACK" Bundle.steD).before args s = true) (lN : (Cond.laysStatic Bundle.tN "SUPPRESSED_SENTINEL" Bundle.listD).before args s = true) : ∀ w ∈ L, w.before args s = true := by sorry
def vx_L (C n d : String) (A : Nat → Prop) (U : State) (H : Heap) : Prop := ∃ (c : ClassId) (k : Class) (i : Nat) (f : Field) (a : Nat) (cell : Cell), U.vm.findClass C = some c ∧ U.fieldFound? C n d = some (c, k, i, f) ∧ f.isStatic = true ∧ k.statics = some a ∧ H[a]? = some cell ∧ cell.vm.isStatics = true ∧ cell.cls = c ∧ f.slot < cell.slots.size ∧ k.staticTypes[f.slot]? = some f.type ∧ ¬ A a
theorem vx_L.moved {C n d : String} {A : Nat → Prop} {u U : State} {H : Heap} (hvm : u.vm.Alike U.vm) (h : vx_L C n d A u H) : vx_L C n d A U H := by sorry
theorem vx_L.kept {C n d : String} {A : Nat → Prop} {U : State} {H H1 : Heap} (h : vx_L C n d A U H) (hq : ∀ a : Nat, a < H.size → ¬ A a → H1[a]? = H[a]?) : vx_L C n d A U H1 := by sorry
theorem vx_L.narrow {C n d : String} {A B : Nat → Prop} {U : State} {H : Heap} (h : vx_L C n d A U H) (hAB : ∀ q, B q → A q) : vx_L C n d B U H := by sorry
theorem vx_L.word {C n d : String} {A : Nat → Prop} {s : State} {args : Array Value} (h : vx_L C n d A s s.heap) : (Cond.laysStatic C n d).before args s = true := by sorry
def vx_Zq (C n d : String) (A : Nat → Prop) (U : State) (H : Heap) : Prop := va_Zq C n d A U H ∧ vx_L C n d A U H
theorem vx_Zq.moved {C n d : String} {A : Nat → Prop} {u U : State} {H : Heap} (hvm : u.vm.Alike U.vm) (h : vx_Zq C n d A u H) : vx_Zq C n d A U H := by sorry
theorem vx_Zq.kept {C n d : String} {A : Nat → Prop} {U : State} {H H1 : Heap} (h : vx_Zq C n d A U H) (hq : ∀ a : Nat, a < H.size → ¬ A a → H1[a]? = H[a]?) : vx_Zq C n d A U H1 := by sorry
theorem vx_Zq.narrow {C n d : String} {A B : Nat → Prop} {U : State} {H : Heap} (h : vx_Zq C n d A U H) (hAB : ∀ q, B q → A q) : vx_Zq C n d B U H := by sorry
theorem vx_Zqof {args : Array Value} {s : State} {C n d : String} {A : Nat → Prop} (hl : (Cond.laysStatic C n d).before args s = true) (hini : (Cond.initialized C).before args s = true) (h : (Cond.isRef (.static C n d)).before args s = true) (hA : ∀ a : Nat, a < s.heap.size → ¬ A a) : vx_Zq C n d A s s.heap := by sorry
theorem vx_isRef {C n d : String} {v : Value} {A : Nat → Prop} {s : State} {args : Array Value} (h : va_Z C n d v A s s.heap) (hv : v.isRef = true) : (Cond.isRef (.static C n d)).before args s = true := by sorry
theorem vx_isRefq {C n d : String} {A : Nat → Prop} {s : State} {args : Array Value} (h : va_Zq C n d A s s.heap) : (Cond.isRef (.static C n d)).before args s = true := by sorry
theorem vx_rebase {T : State} (X : Stand p l e R s m args below meth c T locs cells slots) {R' : Room} (hf : R'.frames ≤ R.frames) (hl : R'.locals ≤ R.locals) (hc : cells + R'.cells ≤ R.cells) (hs : slots + R'.slots ≤ R.slots) :
    Stand p l e R' ((T.setVm s.vm).setFrames (.invoking m args :: below)) m args below meth c T [] 0 0 := by sorry
theorem vx_throw0 {cc : ByteArray} {pc : Nat} (hexec : p.tables.exec = Jvm.exec) (hb : c.code = cc) (hl : l.stackTraces = false) {own cls : String} {names : List String} {ik ic mc ms : Nat} {A : Nat → Prop}
    (hown : s.vm.findClass own = some m.cls) (hcls : Bundle.fit cls = true) (hnames : ∀ n ∈ names, Bundle.fit n = true)
    (hk : (Cond.classLink own ik cls).before args s = true) (hini : (Cond.initialized cls).before args s = true) (hat : ∀ w ∈ vx_at0 own ic cls names, w.before args s = true)
    (hgood : ∀ w ∈ Cond.classLink own ik cls :: Cond.initialized cls :: vx_at0 own ic cls names, vx_ot w = true)
    (hU : vx_Zq Bundle.tN "UNASSIGNED_STACK" Bundle.steD A s s.heap) (hN : vx_Zq Bundle.tN "SUPPRESSED_SENTINEL" Bundle.listD A s s.heap) (hS : va_S A s.heap H locs) (hsize : ls.size = c.maxLocals)
    (d0 : decode cc pc = .ok (.new ik, 3)) (d3 : decode cc (pc + 3) = .ok (.dup, 1)) (d4 : decode cc (pc + 4) = .ok (.invokespecial ic, 3)) (d7 : decode cc (pc + 7) = .ok (.athrow, 1))
    (hout : ∀ x ∈ c.exceptionTable.toList, covers x (pc + 7) = false)
    (hRframes : names.length + 3 < R.frames) (hRlocals : (rest.map fun v => v.category).sum + (13 * (names.length + 1) + 42) ≤ R.locals) (hRcells : cells + 1 ≤ R.cells) (hRslots : slots + 6 ≤ R.slots) (hlocks : meth.locks = false)
    (hx : ∀ t : State, s.vm.Alike t.vm → H.size ≤ t.heap.size → (∀ q : Nat, q < H.size → t.heap[q]? = H[q]?) → XC cls s t)
    (hf : ∀ z ∈ locs, free z.base) (hc : cells + 1 ≤ mc) (hs : slots + 6 ≤ ms) :
    W p l e R s m args below meth c H locs cells slots (vx_MQ below Qc XC args s mc ms free) (F0 m pc ls rest) := by sorry
theorem vx_throwS {cc : ByteArray} {pc : Nat} (hexec : p.tables.exec = Jvm.exec) (hb : c.code = cc) (hl : l.stackTraces = false) {own cls text : String} {names : List String} {ik is ic mc ms sa : Nat} {A : Nat → Prop}
    (hown : s.vm.findClass own = some m.cls) (hcls : Bundle.fit cls = true) (hnames : ∀ n ∈ names, Bundle.fit n = true)
    (hk : (Cond.classLink own ik cls).before args s = true) (hini : (Cond.initialized cls).before args s = true) (hstr : vk_R own is text sa s) (hat : ∀ w ∈ vx_atS own ic cls names, w.before args s = true)
    (hgood : ∀ w ∈ Cond.classLink own ik cls :: Cond.initialized cls :: vx_atS own ic cls names, vx_ot w = true)
    (hU : vx_Zq Bundle.tN "UNASSIGNED_STACK" Bundle.steD A s s.heap) (hN : vx_Zq Bundle.tN "SUPPRESSED_SENTINEL" Bundle.listD A s s.heap) (hS : va_S A s.heap H locs) (hsize : ls.size = c.maxLocals)
    (d0 : decode cc pc = .ok (.new ik, 3)) (d3 : decode cc (pc + 3) = .ok (.dup, 1)) (d4 : decode cc (pc + 4) = .ok (.ldc is, 2)) (d6 : decode cc (pc + 6) = .ok (.invokespecial ic, 3)) (d9 : decode cc (pc + 9) = .ok (.athrow, 1))
    (hout : ∀ x ∈ c.exceptionTable.toList, covers x (pc + 9) = false)
    (hRframes : names.length + 3 < R.frames) (hRlocals : (rest.map fun v => v.category).sum + (13 * (names.length + 1) + 43) ≤ R.locals) (hRcells : cells + 1 ≤ R.cells) (hRslots : slots + 6 ≤ R.slots) (hlocks : meth.locks = false)
    (hx : ∀ t : State, s.vm.Alike t.vm → H.size ≤ t.heap.size → (∀ q : Nat, q < H.size → t.heap[q]? = H[q]?) → XC cls s t)
    (hf : ∀ z ∈ locs, free z.base) (hc : cells + 1 ≤ mc) (hs : slots + 6 ≤ ms) :
    W p l e R s m args below meth c H locs cells slots (vx_MQ below Qc XC args s mc ms free) (F0 m pc ls rest) := by sorry
theorem vx_throwSW {cc : ByteArray} {pc : Nat} (hexec : p.tables.exec = Jvm.exec) (hb : c.code = cc) (hl : l.stackTraces = false) {own cls text : String} {names : List String} {ik is ic mc ms sa : Nat} {A : Nat → Prop}
    (hown : s.vm.findClass own = some m.cls) (hcls : Bundle.fit cls = true) (hnames : ∀ n ∈ names, Bundle.fit n = true)
    (hk : (Cond.classLink own ik cls).before args s = true) (hini : (Cond.initialized cls).before args s = true) (hstr : vk_R own is text sa s) (hat : ∀ w ∈ vx_atS own ic cls names, w.before args s = true)
    (hgood : ∀ w ∈ Cond.classLink own ik cls :: Cond.initialized cls :: vx_atS own ic cls names, vx_ot w = true)
    (hU : vx_Zq Bundle.tN "UNASSIGNED_STACK" Bundle.steD A s s.heap) (hN : vx_Zq Bundle.tN "SUPPRESSED_SENTINEL" Bundle.listD A s s.heap) (hS : va_S A s.heap H locs) (hsize : ls.size = c.maxLocals)
    (d0 : decode cc pc = .ok (.new ik, 3)) (d3 : decode cc (pc + 3) = .ok (.dup, 1)) (d4 : decode cc (pc + 4) = .ok (.ldc_w is, 3)) (d7 : decode cc (pc + 7) = .ok (.invokespecial ic, 3)) (d10 : decode cc (pc + 10) = .ok (.athrow, 1))
    (hout : ∀ x ∈ c.exceptionTable.toList, covers x (pc + 10) = false)
    (hRframes : names.length + 3 < R.frames) (hRlocals : (rest.map fun v => v.category).sum + (13 * (names.length + 1) + 43) ≤ R.locals) (hRcells : cells + 1 ≤ R.cells) (hRslots : slots + 6 ≤ R.slots) (hlocks : meth.locks = false)
    (hx : ∀ t : State, s.vm.Alike t.vm → H.size ≤ t.heap.size → (∀ q : Nat, q < H.size → t.heap[q]? = H[q]?) → XC cls s t)
    (hf : ∀ z ∈ locs, free z.base) (hc : cells + 1 ≤ mc) (hs : slots + 6 ≤ ms) :
    W p l e R s m args below meth c H locs cells slots (vx_MQ below Qc XC args s mc ms free) (F0 m pc ls rest) := by sorry
end Ends
section Bodies
variable {l : Launch}
theorem vx_ofW {y : MethodName} {ws ws' : List Cond} {rm : Room} {Pc : Array Value → State → Prop} {Qc : Array Value → State → Outcome → State → Prop} {XC : String → State → State → Prop} {mc ms : Nat} {free : Addr → Prop} {cc : ByteArray} {maxL : Nat} {ret : Option FieldType}
    (hy : plainName y.cls = true) (hw : ws = Cond.code y cc maxL ret :: ws')
    (body : ∀ p e s m args below meth c s₁, BodyLoose p l y (headSpec ws rm) cc maxL ret e s m args below meth c s₁ → c.maxLocals = maxL → (∀ x ∈ c.exceptionTable.toList, False) → Pc args s →
      W p l e (headSpec ws rm).room s m args below meth c s.heap [] 0 0 (vx_MQ below Qc XC args s mc ms free) (entryFrame m args maxL)) : vx_Met l y ws rm Pc Qc XC mc ms free := by sorry
theorem vx_table {p : Program} {x y : MethodName} {S : Spec} {cc bytes : ByteArray} {maxL maxL' : Nat} {ret ret' : Option FieldType} {e : Env} {s s₁ : State} {m : MethodId} {args : Array Value} {below : List Frame} {meth : Method} {c : Code} {hh : List (Nat × Nat × Nat × Nat)}
    (B : BodyLoose p l y S cc maxL ret e s m args below meth c s₁) (h : (Cond.codeWith y bytes maxL' ret' hh).before args s = true) : c.exceptionTable.toList = tableOf hh := by sorry
end Bodies
end VXA
section VXS
variable {p : Program} {l : Launch} {e : Env} {R : Room} {s : State} {m : MethodId} {args : Array Value} {below : List Frame} {meth : Method} {c : Code} {T : State} {H : Heap} {locs : List Loc} {cells slots : Nat}
abbrev vx_CSW (R : Room) (s : State) (args : Array Value) (own : String) (index : Nat) (y : MethodName) (bytes : ByteArray) (maxL : Nat) (ret : Option FieldType) (hh : List (Nat × Nat × Nat × Nat)) (ws : List Cond) (rm : Room) (mc ms n : Nat) : Prop :=
  (rm.cells = mc ∧ rm.slots = ms ∧ rm.frames + 1 ≤ R.frames ∧ 8 + (maxL + 11) + rm.locals ≤ R.locals ∧ (∀ w ∈ ws, ∀ (a' : Array Value) (U : State), s.WarmedH U.vm → w.before a' U = true) ∧ Cond.codeWith y bytes maxL ret hh ∈ ws) ∧
  (Cond.codeWith y bytes maxL ret hh).before args s = true ∧ (Cond.initialized y.cls).before args s = true ∧ (y.cls ≠ "java/lang/invoke/MethodHandle" ∧ y.cls ≠ "java/lang/invoke/VarHandle") ∧
  (∀ sig, parseMethodDescriptor y.desc = some sig → n = sig.parameters.length) ∧ (Cond.methodLink own index y).before args s = true ∧ (Cond.static y).before args s = true
theorem vx_cwSW {own : String} {index maxL mc ms : Nat} {y : MethodName} {bytes : ByteArray} {ret : Option FieldType} {hh : List (Nat × Nat × Nat × Nat)} {Ts ws ws' : List Cond} {rm : Room} (n : Nat) (ht : ∀ w ∈ Ts, w.before args s = true) (hT : GoodIn Ts (va_wsS own index y ws)) (hw : ws = Cond.codeWith y bytes maxL ret hh :: ws') (hrc : rm.cells = mc) (hrs : rm.slots = ms)
    (hd : y.cls ≠ "java/lang/invoke/MethodHandle" ∧ y.cls ≠ "java/lang/invoke/VarHandle" ∧ (parseMethodDescriptor y.desc).map (fun d => d.parameters.length) = some n) (hR : rm.frames + 1 ≤ R.frames ∧ 8 + (maxL + 11) + rm.locals ≤ R.locals) :
    vx_CSW R s args own index y bytes maxL ret hh ws rm mc ms n := by sorry
theorem vx_callSW (X : Stand p l e R s m args below meth c T locs cells slots) (hexec : p.tables.exec = Jvm.exec) {own : String} {index : Nat} {y : MethodName} {bytes : ByteArray} {maxL : Nat} {ret : Option FieldType} {hh : List (Nat × Nat × Nat × Nat)}
    (hown : s.vm.findClass own = some m.cls) (hlink : (Cond.methodLink own index y).before args s = true) (hstat : (Cond.static y).before args s = true) (hinit : (Cond.initialized y.cls).before args s = true)
    (hcode : (Cond.codeWith y bytes maxL ret hh).before args s = true) (hy : y.cls ≠ "java/lang/invoke/MethodHandle" ∧ y.cls ≠ "java/lang/invoke/VarHandle")
    {W9 : Nat} {Pre : Pt → Array Value → Prop} {Post : Pt → Array Value → Option Value → Pt → Prop} (hK : Back l R p e below s args y 3 W9 Pre Post)
    {g : JFrame} (hg : g.method = m) (hsize : g.locals.size = c.maxLocals) {argsL rest : List Value} (hlen : ∀ sig, parseMethodDescriptor y.desc = some sig → argsL.length = sig.parameters.length)
    (hstack : g.stack = argsL.reverse ++ rest) (hW : 2 * g.monitorRoom + (rest.map fun v => v.category).sum ≤ W9) (hdg : decode c.code g.pc = .ok (.invokestatic index, 3))
    (hpre : ∀ vm₁, s.WarmedH vm₁ → Pre ⟨T.setVm vm₁, locs, cells, slots⟩ argsL.toArray) :
    ∃ (v : Option Value) (vm₁ : Vm) (B : Pt), s.WarmedH vm₁ ∧ Stand p l e R s m args below meth c B.U B.locs B.cells B.slots ∧ Post ⟨T.setVm vm₁, locs, cells, slots⟩ argsL.toArray v B ∧
      ∀ target, Steps p.tables e below (B.U.setTop { g with pc := g.pc + 3, stack := v.toList ++ rest }) target → Steps p.tables e below (T.setTop g) target := by sorry
theorem vx_runSW {y : MethodName} {bytes cc : ByteArray} {maxL nL mc ms n index : Nat} {ret : Option FieldType} {hh : List (Nat × Nat × Nat × Nat)} {ws : List Cond} {rm : Room} {Pc : Array Value → State → Prop} {Qc : Array Value → State → Outcome → State → Prop} {free : Addr → Prop} {Ts : List Cond} {own : String} {As rest : List Value} {g : JFrame}
    (S : CallFix p m c cc nL s args Ts own) (hM : Met l y ws rm Pc Qc mc ms free) (cw : vx_CSW R s args own index y bytes maxL ret hh ws rm mc ms n) (hp : PreS s H Pc As)
    (hg : g.method = m) (hn : As.length = n) (hsize : g.locals.size = nL) (hstack : g.stack = As.reverse ++ rest) (hW : 2 * g.monitorRoom + (rest.map fun v => v.category).sum ≤ 8) (hdg : decode cc g.pc = .ok (.invokestatic index, 3)) (hf : cells + mc ≤ R.cells ∧ slots + ms ≤ R.slots) :
    va_Run p l e R s m args below meth c H locs cells slots mc ms g rest (Qc As.toArray) (free) := by sorry
theorem vx_outP {p : Program} {l : Launch} {e : Env} {R : Room} {s : State} {m : MethodId} {args : Array Value} {below : List Frame} {meth : Method} {c : Code} {H : Heap} {locs : List Loc} {cells slots : Nat} {free : Addr → Prop} {ls : Array Slot} {rest : List Value} {Qc : Array Value → State → Outcome → State → Prop} {XC : String → State → State → Prop}
    {pc : Nat} {own E : String} {ce : Cell} {q : Addr} {mc ms : Nat} (hown : s.vm.findClass own = some m.cls) (hlocks : meth.locks = false)
    (hpass : ∀ z ∈ c.exceptionTable.toList, covers z pc = false ∨ (z.catchType ≠ 0 ∧ ∃ nm : String, (Cond.classLink own z.catchType nm).before args s = true ∧ va_Nc E nm s)) (hcell : H[q]? = some ce) (hv : ce.vm = .none) (hcl : s.vm.findClass E = some ce.cls)
    (hx : ∀ t : State, t.heap = H → s.vm.Alike t.vm → XC E s t) (hf : ∀ z ∈ locs, free z.base) (hc : cells ≤ mc) (hs : slots ≤ ms) :
    vx_W p l e R s m args below meth c H locs cells slots (vx_MQ below Qc XC args s mc ms free) (F0 m pc ls rest) q := by sorry
theorem vx_lt {D : va_G} {cl : List vw_C} {ws : va_W} {H1 : Heap} (h : va_P D cl ws H1) {k : Nat} {q : Nat × va_E} (hk : ws[k]? = some q) : q.1 < H1.size := by sorry
end VXS
section VXH
section
variable {l : Launch} {R : Room} {p : Program} {e : Env} {below : List Frame} {s : State} {sargs : Array Value} {y : MethodName} {len W9 : Nat}
theorem vx_backW {ws : List Cond} {rm : Room} {Pc : Array Value → State → Prop} {Qc : Array Value → State → Outcome → State → Prop} {XC : String → State → State → Prop} {mc ms : Nat} {free : Addr → Prop} {bytes : ByteArray} {maxL : Nat} {ret : Option FieldType} {hh : List (Nat × Nat × Nat × Nat)}
    (hM : vx_Met l y ws rm Pc Qc XC mc ms free) (hblind : FrameBlind Pc) (hrc : rm.cells = mc) (hrs : rm.slots = ms)
    (hframes : rm.frames + 1 ≤ R.frames) (hlocals : W9 + (maxL + 11) + rm.locals ≤ R.locals)
    (hws : ∀ w ∈ ws, ∀ a' U, s.WarmedH U.vm → w.before a' U = true) (hcode : Cond.codeWith y bytes maxL ret hh ∈ ws) (hinit : ∀ a' U, s.WarmedH U.vm → (Cond.initialized y.cls).before a' U = true) :
    vx_Back l R p e below s sargs y len W9 (PreOf R mc ms Pc) (PostOf Qc mc ms free) (vx_Post XC mc ms free) := by sorry
end
variable {p : Program} {l : Launch} {e : Env} {R : Room} {s : State} {m : MethodId} {args : Array Value} {below : List Frame} {meth : Method} {c : Code} {T : State} {H : Heap} {locs : List Loc} {cells slots : Nat}
theorem vx_callVX (X : Stand p l e R s m args below meth c T locs cells slots) (hexec : p.tables.exec = Jvm.exec) {own C : String} {index : Nat} {y : MethodName} {bytes : ByteArray} {maxL : Nat} {ret : Option FieldType} {hh : List (Nat × Nat × Nat × Nat)}
    (hown : s.vm.findClass own = some m.cls) (hlink : (Cond.methodLink own index y).before args s = true) (hinst : (Cond.instanceMethod y).before args s = true) (hsel : (Cond.selects C y y).before args s = true)
    (hcode : (Cond.codeWith y bytes maxL ret hh).before args s = true) (hy : y.cls ≠ "java/lang/invoke/MethodHandle" ∧ y.cls ≠ "java/lang/invoke/VarHandle")
    {W9 : Nat} {Pre : Pt → Array Value → Prop} {Post : Pt → Array Value → Option Value → Pt → Prop} {PostX : Pt → Array Value → Addr → Pt → Prop} (hK : vx_Back l R p e below s args y 3 W9 Pre Post PostX)
    {b : Addr} {cellB : Cell} (hcell : T.heap[b]? = some cellB) (hobj : cellB.vm.isStatics = false) (hcls : s.vm.findClass C = some cellB.cls)
    {g : JFrame} (hg : g.method = m) (hsize : g.locals.size = c.maxLocals) {argsL rest : List Value} (hlen : ∀ sig, parseMethodDescriptor y.desc = some sig → argsL.length = sig.parameters.length)
    (hstack : g.stack = argsL.reverse ++ .ref b :: rest) (hW : 2 * g.monitorRoom + (rest.map fun v => v.category).sum ≤ W9) (hdg : decode c.code g.pc = .ok (.invokevirtual index, 3))
    (hpre : ∀ vm₁, s.WarmedH vm₁ → Pre ⟨T.setVm vm₁, locs, cells, slots⟩ (Value.ref b :: argsL).toArray) :
    (∃ (v : Option Value) (vm₁ : Vm) (B : Pt), s.WarmedH vm₁ ∧ Stand p l e R s m args below meth c B.U B.locs B.cells B.slots ∧ Post ⟨T.setVm vm₁, locs, cells, slots⟩ (Value.ref b :: argsL).toArray v B ∧
      ∀ target, Steps p.tables e below (B.U.setTop { g with pc := g.pc + 3, stack := v.toList ++ rest }) target → Steps p.tables e below (T.setTop g) target) ∨
    (∃ (q : Addr) (vm₁ : Vm) (B : Pt), s.WarmedH vm₁ ∧ Stand p l e R s m args below meth c B.U B.locs B.cells B.slots ∧ PostX ⟨T.setVm vm₁, locs, cells, slots⟩ (Value.ref b :: argsL).toArray q B ∧
      Steps p.tables e below (T.setTop g) ((B.U.setTop { g with stack := rest }).pushFrame (.throwing q))) := by sorry
theorem vx_callSX (X : Stand p l e R s m args below meth c T locs cells slots) (hexec : p.tables.exec = Jvm.exec) {own : String} {index : Nat} {y : MethodName} {bytes : ByteArray} {maxL : Nat} {ret : Option FieldType} {hh : List (Nat × Nat × Nat × Nat)}
    (hown : s.vm.findClass own = some m.cls) (hlink : (Cond.methodLink own index y).before args s = true) (hstat : (Cond.static y).before args s = true) (hinit : (Cond.initialized y.cls).before args s = true)
    (hcode : (Cond.codeWith y bytes maxL ret hh).before args s = true) (hy : y.cls ≠ "java/lang/invoke/MethodHandle" ∧ y.cls ≠ "java/lang/invoke/VarHandle")
    {W9 : Nat} {Pre : Pt → Array Value → Prop} {Post : Pt → Array Value → Option Value → Pt → Prop} {PostX : Pt → Array Value → Addr → Pt → Prop} (hK : vx_Back l R p e below s args y 3 W9 Pre Post PostX)
    {g : JFrame} (hg : g.method = m) (hsize : g.locals.size = c.maxLocals) {argsL rest : List Value} (hlen : ∀ sig, parseMethodDescriptor y.desc = some sig → argsL.length = sig.parameters.length)
    (hstack : g.stack = argsL.reverse ++ rest) (hW : 2 * g.monitorRoom + (rest.map fun v => v.category).sum ≤ W9) (hdg : decode c.code g.pc = .ok (.invokestatic index, 3))
    (hpre : ∀ vm₁, s.WarmedH vm₁ → Pre ⟨T.setVm vm₁, locs, cells, slots⟩ argsL.toArray) :
    (∃ (v : Option Value) (vm₁ : Vm) (B : Pt), s.WarmedH vm₁ ∧ Stand p l e R s m args below meth c B.U B.locs B.cells B.slots ∧ Post ⟨T.setVm vm₁, locs, cells, slots⟩ argsL.toArray v B ∧
      ∀ target, Steps p.tables e below (B.U.setTop { g with pc := g.pc + 3, stack := v.toList ++ rest }) target → Steps p.tables e below (T.setTop g) target) ∨
    (∃ (q : Addr) (vm₁ : Vm) (B : Pt), s.WarmedH vm₁ ∧ Stand p l e R s m args below meth c B.U B.locs B.cells B.slots ∧ PostX ⟨T.setVm vm₁, locs, cells, slots⟩ argsL.toArray q B ∧
      Steps p.tables e below (T.setTop g) ((B.U.setTop { g with stack := rest }).pushFrame (.throwing q))) := by sorry
theorem vx_callVW (X : Stand p l e R s m args below meth c T locs cells slots) (hexec : p.tables.exec = Jvm.exec) {own C : String} {index : Nat} {y : MethodName} {bytes : ByteArray} {maxL : Nat} {ret : Option FieldType} {hh : List (Nat × Nat × Nat × Nat)}
    (hown : s.vm.findClass own = some m.cls) (hlink : (Cond.methodLink own index y).before args s = true) (hinst : (Cond.instanceMethod y).before args s = true) (hsel : (Cond.selects C y y).before args s = true)
    (hcode : (Cond.codeWith y bytes maxL ret hh).before args s = true) (hy : y.cls ≠ "java/lang/invoke/MethodHandle" ∧ y.cls ≠ "java/lang/invoke/VarHandle")
    {W9 : Nat} {Pre : Pt → Array Value → Prop} {Post : Pt → Array Value → Option Value → Pt → Prop} (hK : Back l R p e below s args y 3 W9 Pre Post)
    {b : Addr} {cellB : Cell} (hcell : T.heap[b]? = some cellB) (hobj : cellB.vm.isStatics = false) (hcls : s.vm.findClass C = some cellB.cls)
    {g : JFrame} (hg : g.method = m) (hsize : g.locals.size = c.maxLocals) {argsL rest : List Value} (hlen : ∀ sig, parseMethodDescriptor y.desc = some sig → argsL.length = sig.parameters.length)
    (hstack : g.stack = argsL.reverse ++ .ref b :: rest) (hW : 2 * g.monitorRoom + (rest.map fun v => v.category).sum ≤ W9) (hdg : decode c.code g.pc = .ok (.invokevirtual index, 3))
    (hpre : ∀ vm₁, s.WarmedH vm₁ → Pre ⟨T.setVm vm₁, locs, cells, slots⟩ (Value.ref b :: argsL).toArray) :
    ∃ (v : Option Value) (vm₁ : Vm) (B : Pt), s.WarmedH vm₁ ∧ Stand p l e R s m args below meth c B.U B.locs B.cells B.slots ∧ Post ⟨T.setVm vm₁, locs, cells, slots⟩ (Value.ref b :: argsL).toArray v B ∧
      ∀ target, Steps p.tables e below (B.U.setTop { g with pc := g.pc + 3, stack := v.toList ++ rest }) target → Steps p.tables e below (T.setTop g) target := by sorry
abbrev vx_CVW (R : Room) (s : State) (args : Array Value) (own C : String) (index : Nat) (y : MethodName) (bytes : ByteArray) (maxL : Nat) (ret : Option FieldType) (hh : List (Nat × Nat × Nat × Nat)) (ws : List Cond) (rm : Room) (mc ms n : Nat) : Prop :=
  (rm.cells = mc ∧ rm.slots = ms ∧ rm.frames + 1 ≤ R.frames ∧ 8 + (maxL + 11) + rm.locals ≤ R.locals ∧ (∀ w ∈ ws, ∀ (a' : Array Value) (U : State), s.WarmedH U.vm → w.before a' U = true) ∧ Cond.codeWith y bytes maxL ret hh ∈ ws) ∧
  (Cond.codeWith y bytes maxL ret hh).before args s = true ∧ (Cond.initialized y.cls).before args s = true ∧ (y.cls ≠ "java/lang/invoke/MethodHandle" ∧ y.cls ≠ "java/lang/invoke/VarHandle") ∧
  (∀ sig, parseMethodDescriptor y.desc = some sig → n = sig.parameters.length) ∧ (Cond.methodLink own index y).before args s = true ∧ (Cond.instanceMethod y).before args s = true ∧ (Cond.selects C y y).before args s = true
theorem vx_cwVW {own C : String} {index maxL mc ms : Nat} {y : MethodName} {bytes : ByteArray} {ret : Option FieldType} {hh : List (Nat × Nat × Nat × Nat)} {Ts ws ws' : List Cond} {rm : Room} (n : Nat) (ht : ∀ w ∈ Ts, w.before args s = true) (hT : GoodIn Ts (wsV own index C y ws)) (hw : ws = Cond.codeWith y bytes maxL ret hh :: ws') (hrc : rm.cells = mc) (hrs : rm.slots = ms)
    (hd : y.cls = C ∧ y.cls ≠ "java/lang/invoke/MethodHandle" ∧ y.cls ≠ "java/lang/invoke/VarHandle" ∧ (parseMethodDescriptor y.desc).map (fun d => d.parameters.length) = some n) (hR : rm.frames + 1 ≤ R.frames ∧ 8 + (maxL + 11) + rm.locals ≤ R.locals) :
    vx_CVW R s args own C index y bytes maxL ret hh ws rm mc ms n := by sorry
theorem vx_runVW {y : MethodName} {bytes cc : ByteArray} {maxL nL mc ms n index : Nat} {ret : Option FieldType} {hh : List (Nat × Nat × Nat × Nat)} {ws : List Cond} {rm : Room} {Pc : Array Value → State → Prop} {Qc : Array Value → State → Outcome → State → Prop} {free : Addr → Prop} {Ts : List Cond} {own C : String} {b : Addr} {As rest : List Value} {g : JFrame}
    (S : CallFix p m c cc nL s args Ts own) (hM : Met l y ws rm Pc Qc mc ms free) (cw : vx_CVW R s args own C index y bytes maxL ret hh ws rm mc ms n) (hp : PreV s H C b Pc As)
    (hg : g.method = m) (hn : As.length = n) (hsize : g.locals.size = nL) (hstack : g.stack = As.reverse ++ .ref b :: rest) (hW : 2 * g.monitorRoom + (rest.map fun v => v.category).sum ≤ 8) (hdg : decode cc g.pc = .ok (.invokevirtual index, 3)) (hf : cells + mc ≤ R.cells ∧ slots + ms ≤ R.slots) :
    va_Run p l e R s m args below meth c H locs cells slots mc ms g rest (Qc (Value.ref b :: As).toArray) free := by sorry
section
variable {y : MethodName} {bytes cc : ByteArray} {maxL nL mc ms n index : Nat} {ret : Option FieldType} {ws : List Cond} {rm : Room} {Pc : Array Value → State → Prop} {Qc : Array Value → State → Outcome → State → Prop} {XC : String → State → State → Prop} {free : Addr → Prop} {Ts : List Cond} {own C : String} {b : Addr} {As rest : List Value} {g : JFrame}
theorem vx_runVX {hh : List (Nat × Nat × Nat × Nat)} (S : CallFix p m c cc nL s args Ts own) (hM : vx_Met l y ws rm Pc Qc XC mc ms free) (cw : vx_CVW R s args own C index y bytes maxL ret hh ws rm mc ms n) (hp : PreV s H C b Pc As)
    (hg : g.method = m) (hn : As.length = n) (hsize : g.locals.size = nL) (hstack : g.stack = As.reverse ++ .ref b :: rest) (hW : 2 * g.monitorRoom + (rest.map fun v => v.category).sum ≤ 8) (hdg : decode cc g.pc = .ok (.invokevirtual index, 3)) (hf : cells + mc ≤ R.cells ∧ slots + ms ≤ R.slots) :
    vx_Run p l e R s m args below meth c H locs cells slots mc ms g rest (Qc (Value.ref b :: As).toArray) XC free := by sorry
theorem vx_runSX {hh : List (Nat × Nat × Nat × Nat)} (S : CallFix p m c cc nL s args Ts own) (hM : vx_Met l y ws rm Pc Qc XC mc ms free) (cw : vx_CSW R s args own index y bytes maxL ret hh ws rm mc ms n) (hp : PreS s H Pc As)
    (hg : g.method = m) (hn : As.length = n) (hsize : g.locals.size = nL) (hstack : g.stack = As.reverse ++ rest) (hW : 2 * g.monitorRoom + (rest.map fun v => v.category).sum ≤ 8) (hdg : decode cc g.pc = .ok (.invokestatic index, 3)) (hf : cells + mc ≤ R.cells ∧ slots + ms ≤ R.slots) :
    vx_Run p l e R s m args below meth c H locs cells slots mc ms g rest (Qc As.toArray) XC free := by sorry
end
end VXH
theorem vx_ofWH {l : Launch} {y : MethodName} {ws ws' : List Cond} {rm : Room} {Pc : Array Value → State → Prop} {Qc : Array Value → State → Outcome → State → Prop} {XC : String → State → State → Prop} {mc ms : Nat} {free : Addr → Prop} {cc : ByteArray} {maxL : Nat} {ret : Option FieldType} {hh : List (Nat × Nat × Nat × Nat)}
    (hy : plainName y.cls = true) (hw : ws = Cond.codeWith y cc maxL ret hh :: ws')
    (body : ∀ p e s m args below meth c s₁, BodyLoose p l y (headSpec ws rm) cc maxL ret e s m args below meth c s₁ → c.maxLocals = maxL → Pc args s →
      W p l e (headSpec ws rm).room s m args below meth c s.heap [] 0 0 (vx_MQ below Qc XC args s mc ms free) (entryFrame m args maxL)) : vx_Met l y ws rm Pc Qc XC mc ms free := by sorry
end
section
def R_Condition : String := "QueryBench$Condition"
def F_Condition : u_T := fun k => match k with
  | 0 => ("QueryBench$Condition", "kind", "I", true)
  | 1 => ("QueryBench$Condition", "first", "LQueryBench$Condition;", false)
  | 2 => ("QueryBench$Condition", "next", "LQueryBench$Condition;", false)
  | 3 => ("QueryBench$Condition", "query", "LQueryBench$Query;", false)
  | 4 => ("QueryBench$Condition", "left", "LQueryBench$Operand;", false)
  | _ => ("QueryBench$Condition", "right", "LQueryBench$Operand;", false)
def t_Condition : Nat → FieldType := fun k => match k with
  | 0 => .int
  | 1 => .object "QueryBench$Condition"
  | 2 => .object "QueryBench$Condition"
  | 3 => .object "QueryBench$Query"
  | 4 => .object "QueryBench$Operand"
  | _ => .object "QueryBench$Operand"
theorem n_Condition : ∀ a, a < 6 → ∀ b, b < 6 → a ≠ b → (F_Condition a).2.1 ≠ (F_Condition b).2.1 := by sorry
theorem t_Condition_ok : ∀ k, k < 6 → parseFieldDescriptor (F_Condition k).2.2.1 = some (t_Condition k) := by sorry
def R_JsonReader : String := "QueryBench$JsonReader"
def F_JsonReader : u_T := fun k => match k with
  | 0 => ("QueryBench$JsonReader", "tape", "LQueryBench$Tape;", true)
  | 1 => ("QueryBench$JsonReader", "deepest", "I", false)
  | 2 => ("QueryBench$JsonReader", "made", "I", false)
  | _ => ("QueryBench$JsonReader", "latest", "LQueryBench$Value;", false)
def t_JsonReader : Nat → FieldType := fun k => match k with
  | 0 => .object "QueryBench$Tape"
  | 1 => .int
  | 2 => .int
  | _ => .object "QueryBench$Value"
theorem n_JsonReader : ∀ a, a < 4 → ∀ b, b < 4 → a ≠ b → (F_JsonReader a).2.1 ≠ (F_JsonReader b).2.1 := by sorry
theorem t_JsonReader_ok : ∀ k, k < 4 → parseFieldDescriptor (F_JsonReader k).2.2.1 = some (t_JsonReader k) := by sorry
def R_Operand : String := "QueryBench$Operand"
def F_Operand : u_T := fun k => match k with
  | 0 => ("QueryBench$Operand", "kind", "I", true)
  | 1 => ("QueryBench$Operand", "value", "LQueryBench$Value;", true)
  | 2 => ("QueryBench$Operand", "query", "LQueryBench$Query;", false)
  | _ => ("QueryBench$Operand", "inner", "LQueryBench$Operand;", false)
def t_Operand : Nat → FieldType := fun k => match k with
  | 0 => .int
  | 1 => .object "QueryBench$Value"
  | 2 => .object "QueryBench$Query"
  | _ => .object "QueryBench$Operand"
theorem n_Operand : ∀ a, a < 4 → ∀ b, b < 4 → a ≠ b → (F_Operand a).2.1 ≠ (F_Operand b).2.1 := by sorry
theorem t_Operand_ok : ∀ k, k < 4 → parseFieldDescriptor (F_Operand k).2.2.1 = some (t_Operand k) := by sorry
def R_Printer : String := "QueryBench$Printer"
def F_Printer : u_T := fun k => match k with
  | 0 => ("QueryBench$Printer", "bytes", "[B", true)
  | 1 => ("QueryBench$Printer", "length", "I", false)
  | _ => ("QueryBench$Printer", "steps", "[LQueryBench$Value;", true)
def t_Printer : Nat → FieldType := fun k => match k with
  | 0 => .array .byte
  | 1 => .int
  | _ => .array (.object "QueryBench$Value")
theorem n_Printer : ∀ a, a < 3 → ∀ b, b < 3 → a ≠ b → (F_Printer a).2.1 ≠ (F_Printer b).2.1 := by sorry
theorem t_Printer_ok : ∀ k, k < 3 → parseFieldDescriptor (F_Printer k).2.2.1 = some (t_Printer k) := by sorry
def R_Query : String := "QueryBench$Query"
def F_Query : u_T := fun k => match k with
  | 0 => ("QueryBench$Query", "fromRoot", "Z", true)
  | 1 => ("QueryBench$Query", "singular", "Z", false)
  | 2 => ("QueryBench$Query", "first", "LQueryBench$Segment;", false)
  | _ => ("QueryBench$Query", "last", "LQueryBench$Segment;", false)
def t_Query : Nat → FieldType := fun k => match k with
  | 0 => .boolean
  | 1 => .boolean
  | 2 => .object "QueryBench$Segment"
  | _ => .object "QueryBench$Segment"
theorem n_Query : ∀ a, a < 4 → ∀ b, b < 4 → a ≠ b → (F_Query a).2.1 ≠ (F_Query b).2.1 := by sorry
theorem t_Query_ok : ∀ k, k < 4 → parseFieldDescriptor (F_Query k).2.2.1 = some (t_Query k) := by sorry
def R_QueryReader : String := "QueryBench$QueryReader"
def F_QueryReader : u_T := fun k => match k with
  | 0 => ("QueryBench$QueryReader", "tape", "LQueryBench$Tape;", true)
  | _ => ("QueryBench$QueryReader", "open", "I", false)
def t_QueryReader : Nat → FieldType := fun k => match k with
  | 0 => .object "QueryBench$Tape"
  | _ => .int
theorem n_QueryReader : ∀ a, a < 2 → ∀ b, b < 2 → a ≠ b → (F_QueryReader a).2.1 ≠ (F_QueryReader b).2.1 := by sorry
theorem t_QueryReader_ok : ∀ k, k < 2 → parseFieldDescriptor (F_QueryReader k).2.2.1 = some (t_QueryReader k) := by sorry
def R_Segment : String := "QueryBench$Segment"
def F_Segment : u_T := fun k => match k with
  | 0 => ("QueryBench$Segment", "descends", "Z", false)
  | 1 => ("QueryBench$Segment", "first", "LQueryBench$Selector;", false)
  | _ => ("QueryBench$Segment", "next", "LQueryBench$Segment;", false)
def t_Segment : Nat → FieldType := fun k => match k with
  | 0 => .boolean
  | 1 => .object "QueryBench$Selector"
  | _ => .object "QueryBench$Segment"
theorem n_Segment : ∀ a, a < 3 → ∀ b, b < 3 → a ≠ b → (F_Segment a).2.1 ≠ (F_Segment b).2.1 := by sorry
theorem t_Segment_ok : ∀ k, k < 3 → parseFieldDescriptor (F_Segment k).2.2.1 = some (t_Segment k) := by sorry
def R_Selector : String := "QueryBench$Selector"
def F_Selector : u_T := fun k => match k with
  | 0 => ("QueryBench$Selector", "kind", "I", false)
  | 1 => ("QueryBench$Selector", "name", "[I", false)
  | 2 => ("QueryBench$Selector", "hasStart", "Z", false)
  | 3 => ("QueryBench$Selector", "hasStop", "Z", false)
  | 4 => ("QueryBench$Selector", "start", "J", false)
  | 5 => ("QueryBench$Selector", "stop", "J", false)
  | 6 => ("QueryBench$Selector", "step", "J", false)
  | 7 => ("QueryBench$Selector", "filter", "LQueryBench$Condition;", false)
  | _ => ("QueryBench$Selector", "next", "LQueryBench$Selector;", false)
def t_Selector : Nat → FieldType := fun k => match k with
  | 0 => .int
  | 1 => .array .int
  | 2 => .boolean
  | 3 => .boolean
  | 4 => .long
  | 5 => .long
  | 6 => .long
  | 7 => .object "QueryBench$Condition"
  | _ => .object "QueryBench$Selector"
theorem n_Selector : ∀ a, a < 9 → ∀ b, b < 9 → a ≠ b → (F_Selector a).2.1 ≠ (F_Selector b).2.1 := by sorry
theorem t_Selector_ok : ∀ k, k < 9 → parseFieldDescriptor (F_Selector k).2.2.1 = some (t_Selector k) := by sorry
def R_Tape : String := "QueryBench$Tape"
def F_Tape : u_T := fun k => match k with
  | 0 => ("QueryBench$Tape", "bytes", "[B", true)
  | 1 => ("QueryBench$Tape", "units", "[I", true)
  | 2 => ("QueryBench$Tape", "unitCount", "I", false)
  | 3 => ("QueryBench$Tape", "length", "I", false)
  | 4 => ("QueryBench$Tape", "end", "I", false)
  | 5 => ("QueryBench$Tape", "at", "I", false)
  | _ => ("QueryBench$Tape", "place", "I", false)
def t_Tape : Nat → FieldType := fun k => match k with
  | 0 => .array .byte
  | 1 => .array .int
  | 2 => .int
  | 3 => .int
  | 4 => .int
  | 5 => .int
  | _ => .int
theorem n_Tape : ∀ a, a < 7 → ∀ b, b < 7 → a ≠ b → (F_Tape a).2.1 ≠ (F_Tape b).2.1 := by sorry
theorem t_Tape_ok : ∀ k, k < 7 → parseFieldDescriptor (F_Tape k).2.2.1 = some (t_Tape k) := by sorry
def R_Value : String := "QueryBench$Value"
def F_Value : u_T := fun k => match k with
  | 0 => ("QueryBench$Value", "kind", "I", false)
  | 1 => ("QueryBench$Value", "number", "J", false)
  | 2 => ("QueryBench$Value", "text", "[I", false)
  | 3 => ("QueryBench$Value", "members", "[LQueryBench$Value;", false)
  | 4 => ("QueryBench$Value", "parent", "LQueryBench$Value;", false)
  | 5 => ("QueryBench$Value", "name", "[I", false)
  | 6 => ("QueryBench$Value", "index", "I", false)
  | 7 => ("QueryBench$Value", "nextMember", "LQueryBench$Value;", false)
  | 8 => ("QueryBench$Value", "nextOfAll", "LQueryBench$Value;", false)
  | _ => ("QueryBench$Value", "span", "I", false)
def t_Value : Nat → FieldType := fun k => match k with
  | 0 => .int
  | 1 => .long
  | 2 => .array .int
  | 3 => .array (.object "QueryBench$Value")
  | 4 => .object "QueryBench$Value"
  | 5 => .array .int
  | 6 => .int
  | 7 => .object "QueryBench$Value"
  | 8 => .object "QueryBench$Value"
  | _ => .int
theorem n_Value : ∀ a, a < 10 → ∀ b, b < 10 → a ≠ b → (F_Value a).2.1 ≠ (F_Value b).2.1 := by sorry
theorem t_Value_ok : ∀ k, k < 10 → parseFieldDescriptor (F_Value k).2.2.1 = some (t_Value k) := by sorry
def R_Walk : String := "QueryBench$Walk"
def F_Walk : u_T := fun k => match k with
  | 0 => ("QueryBench$Walk", "list", "[LQueryBench$Value;", true)
  | 1 => ("QueryBench$Walk", "top", "I", false)
  | 2 => ("QueryBench$Walk", "spent", "I", false)
  | _ => ("QueryBench$Walk", "root", "LQueryBench$Value;", false)
def t_Walk : Nat → FieldType := fun k => match k with
  | 0 => .array (.object "QueryBench$Value")
  | 1 => .int
  | 2 => .int
  | _ => .object "QueryBench$Value"
theorem n_Walk : ∀ a, a < 4 → ∀ b, b < 4 → a ≠ b → (F_Walk a).2.1 ≠ (F_Walk b).2.1 := by sorry
theorem t_Walk_ok : ∀ k, k < 4 → parseFieldDescriptor (F_Walk k).2.2.1 = some (t_Walk k) := by sorry
def R_QB : String := "QueryBench"
def F_QB : u_T := fun k => match k with
  | 0 => ("QueryBench", "tape", "LQueryBench$Tape;", true)
  | 1 => ("QueryBench", "jsonReader", "LQueryBench$JsonReader;", true)
  | 2 => ("QueryBench", "queryReader", "LQueryBench$QueryReader;", true)
  | 3 => ("QueryBench", "walk", "LQueryBench$Walk;", true)
  | 4 => ("QueryBench", "documents", "[LQueryBench$Value;", true)
  | 5 => ("QueryBench", "query", "LQueryBench$Query;", false)
  | 6 => ("QueryBench", "result", "LQueryBench$Printer;", false)
  | _ => ("QueryBench", "draft", "LQueryBench$Printer;", false)
def t_QB : Nat → FieldType := fun k => match k with
  | 0 => .object "QueryBench$Tape"
  | 1 => .object "QueryBench$JsonReader"
  | 2 => .object "QueryBench$QueryReader"
  | 3 => .object "QueryBench$Walk"
  | 4 => .array (.object "QueryBench$Value")
  | 5 => .object "QueryBench$Query"
  | 6 => .object "QueryBench$Printer"
  | _ => .object "QueryBench$Printer"
theorem n_QB : ∀ a, a < 8 → ∀ b, b < 8 → a ≠ b → (F_QB a).2.1 ≠ (F_QB b).2.1 := by sorry
theorem t_QB_ok : ∀ k, k < 8 → parseFieldDescriptor (F_QB k).2.2.1 = some (t_QB k) := by sorry
def R_Tree : String := "QueryBenchModel$Tree"
def F_Tree : u_T := fun k => match k with
  | 0 => ("QueryBenchModel$Tree", "kinds", "[I", false)
  | 1 => ("QueryBenchModel$Tree", "numbers", "[J", false)
  | 2 => ("QueryBenchModel$Tree", "starts", "[I", false)
  | 3 => ("QueryBenchModel$Tree", "lengths", "[I", false)
  | 4 => ("QueryBenchModel$Tree", "kids", "[I", false)
  | 5 => ("QueryBenchModel$Tree", "nexts", "[I", false)
  | 6 => ("QueryBenchModel$Tree", "nameStarts", "[I", false)
  | 7 => ("QueryBenchModel$Tree", "nameLengths", "[I", false)
  | 8 => ("QueryBenchModel$Tree", "parents", "[I", false)
  | 9 => ("QueryBenchModel$Tree", "places", "[I", false)
  | 10 => ("QueryBenchModel$Tree", "count", "I", false)
  | 11 => ("QueryBenchModel$Tree", "units", "[C", false)
  | _ => ("QueryBenchModel$Tree", "used", "I", false)
def t_Tree : Nat → FieldType := fun k => match k with
  | 0 => .array .int
  | 1 => .array .long
  | 2 => .array .int
  | 3 => .array .int
  | 4 => .array .int
  | 5 => .array .int
  | 6 => .array .int
  | 7 => .array .int
  | 8 => .array .int
  | 9 => .array .int
  | 10 => .int
  | 11 => .array .char
  | _ => .int
theorem n_Tree : ∀ a, a < 13 → ∀ b, b < 13 → a ≠ b → (F_Tree a).2.1 ≠ (F_Tree b).2.1 := by sorry
theorem t_Tree_ok : ∀ k, k < 13 → parseFieldDescriptor (F_Tree k).2.2.1 = some (t_Tree k) := by sorry
def R_Mo : String := "QueryBenchModel"
def F_Mo : u_T := fun k => match k with
  | 0 => ("QueryBenchModel", "tape", "[B", true)
  | 1 => ("QueryBenchModel", "taped", "I", false)
  | 2 => ("QueryBenchModel", "result", "[B", true)
  | 3 => ("QueryBenchModel", "length", "I", false)
  | 4 => ("QueryBenchModel", "code", "I", false)
  | 5 => ("QueryBenchModel", "place", "I", false)
  | 6 => ("QueryBenchModel", "text", "[B", false)
  | 7 => ("QueryBenchModel", "at", "I", false)
  | 8 => ("QueryBenchModel", "stop", "I", false)
  | 9 => ("QueryBenchModel", "broken", "I", false)
  | 10 => ("QueryBenchModel", "out", "[B", true)
  | 11 => ("QueryBenchModel", "written", "I", false)
  | 12 => ("QueryBenchModel", "over", "Z", false)
  | 13 => ("QueryBenchModel", "held", "[[B", true)
  | 14 => ("QueryBenchModel", "lengths", "[I", true)
  | 15 => ("QueryBenchModel", "there", "[Z", true)
  | 16 => ("QueryBenchModel", "queryText", "[B", true)
  | 17 => ("QueryBenchModel", "queryLength", "I", false)
  | 18 => ("QueryBenchModel", "document", "LQueryBenchModel$Tree;", true)
  | 19 => ("QueryBenchModel", "q", "[I", false)
  | 20 => ("QueryBenchModel", "ends", "[J", false)
  | 21 => ("QueryBenchModel", "rows", "I", false)
  | 22 => ("QueryBenchModel", "said", "LQueryBenchModel$Tree;", true)
  | 23 => ("QueryBenchModel", "opened", "I", false)
  | 24 => ("QueryBenchModel", "list", "[I", true)
  | 25 => ("QueryBenchModel", "top", "I", false)
  | 26 => ("QueryBenchModel", "done", "I", false)
  | 27 => ("QueryBenchModel", "tooMuch", "Z", false)
  | 28 => ("QueryBenchModel", "rootNode", "I", false)
  | _ => ("QueryBenchModel", "values", "LQueryBenchModel$Tree;", true)
def t_Mo : Nat → FieldType := fun k => match k with
  | 0 => .array .byte
  | 1 => .int
  | 2 => .array .byte
  | 3 => .int
  | 4 => .int
  | 5 => .int
  | 6 => .array .byte
  | 7 => .int
  | 8 => .int
  | 9 => .int
  | 10 => .array .byte
  | 11 => .int
  | 12 => .boolean
  | 13 => .array (.array .byte)
  | 14 => .array .int
  | 15 => .array .boolean
  | 16 => .array .byte
  | 17 => .int
  | 18 => .object "QueryBenchModel$Tree"
  | 19 => .array .int
  | 20 => .array .long
  | 21 => .int
  | 22 => .object "QueryBenchModel$Tree"
  | 23 => .int
  | 24 => .array .int
  | 25 => .int
  | 26 => .int
  | 27 => .boolean
  | 28 => .int
  | _ => .object "QueryBenchModel$Tree"
theorem n_Mo : ∀ a, a < 30 → ∀ b, b < 30 → a ≠ b → (F_Mo a).2.1 ≠ (F_Mo b).2.1 := by sorry
theorem t_Mo_ok : ∀ k, k < 30 → parseFieldDescriptor (F_Mo k).2.2.1 = some (t_Mo k) := by sorry
def R_Law : String := "QueryBenchLaw"
abbrev classes : List vw_C := [(R_Condition, F_Condition, 6), (R_JsonReader, F_JsonReader, 4), (R_Operand, F_Operand, 4), (R_Printer, F_Printer, 3), (R_Query, F_Query, 4), (R_QueryReader, F_QueryReader, 2), (R_Segment, F_Segment, 3), (R_Selector, F_Selector, 9), (R_Tape, F_Tape, 7), (R_Value, F_Value, 10), (R_Walk, F_Walk, 4), (R_QB, F_QB, 8), (R_Tree, F_Tree, 13), (R_Mo, F_Mo, 30)]
/-- the tables' words that stay -/
def gtbl : List Cond := lw_tbl.filter goodWord
theorem gt_of {w : Cond} (h : w ∈ lw_tbl) (hg : goodWord w = true) : w ∈ gtbl := by sorry
theorem gt_in {w : Cond} (i : Nat) (h : tables_1[i]? = some w) (hg : goodWord w = true) : w ∈ gtbl := by sorry
theorem gt_sel {y : MethodName} {n : Nat} (h : (y, n) ∈ lw_privs) : Cond.selects y.cls y y ∈ gtbl := by sorry
theorem gt_good {w : Cond} (h : w ∈ gtbl) : goodWord w = true := by sorry
theorem gt_self : GoodIn gtbl gtbl := by sorry
theorem gt_code {w : Cond} (h : w ∈ gtbl) : GoodIn gtbl (w :: gtbl) := by sorry
theorem gt_V {own C : String} {i : Nat} {y : MethodName} {w : Cond} (h : w ∈ gtbl) (h1 : Cond.methodLink own i y ∈ gtbl) (h2 : Cond.instanceMethod y ∈ gtbl) (h3 : Cond.selects C y y ∈ gtbl) (h4 : Cond.initialized C ∈ gtbl) : GoodIn gtbl (wsV own i C y (w :: gtbl)) := by sorry
/-- a method's world before and behind -/
abbrev mp (dC : Nat → ClassId) (dI : Nat → Nat → Nat) (ws : va_W) (tys : List (ClassId × FieldType)) (sz : Heap) (U : State) : Prop := U.heap = sz ∧ va_P (dC, dI) classes ws U.heap ∧ va_K (dC, dI) classes tys U ∧ va_D (fun _ => True) ws
abbrev mz (dC : Nat → ClassId) (dI : Nat → Nat → Nat) (ws : va_W) (tys : List (ClassId × FieldType)) (A : Nat → Prop) (t : State) : Prop := va_P (dC, dI) classes ws t.heap ∧ va_K (dC, dI) classes tys t ∧ va_D A ws
theorem in_Condition : ∀ w ∈ u_ws R_Condition F_Condition 6, w ∈ gtbl := by sorry
theorem in_JsonReader : ∀ w ∈ u_ws R_JsonReader F_JsonReader 4, w ∈ gtbl := by sorry
theorem in_Operand : ∀ w ∈ u_ws R_Operand F_Operand 4, w ∈ gtbl := by sorry
theorem in_Printer : ∀ w ∈ u_ws R_Printer F_Printer 3, w ∈ gtbl := by sorry
theorem in_Query : ∀ w ∈ u_ws R_Query F_Query 4, w ∈ gtbl := by sorry
theorem in_QueryReader : ∀ w ∈ u_ws R_QueryReader F_QueryReader 2, w ∈ gtbl := by sorry
theorem in_Segment : ∀ w ∈ u_ws R_Segment F_Segment 3, w ∈ gtbl := by sorry
theorem in_Selector : ∀ w ∈ u_ws R_Selector F_Selector 9, w ∈ gtbl := by sorry
theorem in_Tape : ∀ w ∈ u_ws R_Tape F_Tape 7, w ∈ gtbl := by sorry
theorem in_Value : ∀ w ∈ u_ws R_Value F_Value 10, w ∈ gtbl := by sorry
theorem in_Walk : ∀ w ∈ u_ws R_Walk F_Walk 4, w ∈ gtbl := by sorry
theorem in_QB : ∀ w ∈ u_ws R_QB F_QB 8, w ∈ gtbl := by sorry
theorem in_Tree : ∀ w ∈ u_ws R_Tree F_Tree 13, w ∈ gtbl := by sorry
theorem in_Mo : ∀ w ∈ u_ws R_Mo F_Mo 30, w ∈ gtbl := by sorry
end
section
/-- words that stay, though not by the kit's own list of kinds -/
def isNw : Cond → Bool
  | .castable _ _ => true
  | .declares _ => true
  | .methodLinkNest _ _ _ _ => true
  | .fieldLinkNest _ _ _ _ _ _ => true
  | _ => false
def nwl : List Cond := lw_tbl.filter isNw
def NW (U : State) : Prop := ∀ w ∈ nwl, va_Nw w U
theorem isNw_on {w : Cond} (h : isNw w = true) : w.onTables = true := by sorry
theorem NW.warm {s U : State} (hW : s.WarmedH U.vm) (h : NW s) : NW U := by sorry
theorem NW.same {s U : State} (hv : s.vm = U.vm) (h : NW s) : NW U := by sorry
theorem hat {args : Array Value} {s : State} {L : List Cond} (hts : ∀ w ∈ gtbl, w.before args s = true) (hn : NW s) (h : ∀ w ∈ L, (goodWord w = true ∧ w ∈ lw_tbl) ∨ w ∈ nwl) : ∀ w ∈ L, w.before args s = true := by sorry
/-- the two statics that a throw reads -/
abbrev ZX (A : Nat → Prop) (U : State) (H : Heap) : Prop := vx_Zq Bundle.tN "UNASSIGNED_STACK" Bundle.steD A U H ∧ vx_Zq Bundle.tN "SUPPRESSED_SENTINEL" Bundle.listD A U H
theorem ZX.moved' {A : Nat → Prop} {u U : State} {H : Heap} (hvm : u.vm.Alike U.vm) (h : ZX A u H) : ZX A U H := by sorry
theorem ZX.kept' {A : Nat → Prop} {U : State} {H H1 : Heap} (h : ZX A U H) (hq : ∀ a : Nat, a < H.size → ¬ A a → H1[a]? = H[a]?) : ZX A U H1 := by sorry
theorem ZX.narrow' {A B : Nat → Prop} {U : State} {H : Heap} (h : ZX A U H) (hAB : ∀ q, B q → A q) : ZX B U H := by sorry
theorem mp_blind {dC : Nat → ClassId} {dI : Nat → Nat → Nat} {ws : va_W} {tys : List (ClassId × FieldType)} {sz : Heap} {av : List Value} : FrameBlind (va_Pc av (mp dC dI ws tys sz)) := by sorry
/-- the world of a method that may throw -/
abbrev mx (dC : Nat → ClassId) (dI : Nat → Nat → Nat) (ws : va_W) (tys : List (ClassId × FieldType)) (sz : Heap) (U : State) : Prop := mp dC dI ws tys sz U ∧ NW U ∧ ZX (va_A ws sz.size) U U.heap
theorem mx_blind {dC : Nat → ClassId} {dI : Nat → Nat → Nat} {ws : va_W} {tys : List (ClassId × FieldType)} {sz : Heap} {av : List Value} : FrameBlind (va_Pc av (mx dC dI ws tys sz)) := by sorry
abbrev mn (dC : Nat → ClassId) (dI : Nat → Nat → Nat) (ws : va_W) (tys : List (ClassId × FieldType)) (sz : Heap) (U : State) : Prop := mp dC dI ws tys sz U ∧ NW U
theorem mn_blind {dC : Nat → ClassId} {dI : Nat → Nat → Nat} {ws : va_W} {tys : List (ClassId × FieldType)} {sz : Heap} {av : List Value} : FrameBlind (va_Pc av (mn dC dI ws tys sz)) := by sorry
theorem gt_S {own : String} {i : Nat} {y : MethodName} {w : Cond} (h : w ∈ gtbl) (h1 : Cond.methodLink own i y ∈ gtbl) (h2 : Cond.static y ∈ gtbl) (h3 : Cond.initialized y.cls ∈ gtbl) : GoodIn gtbl (va_wsS own i y (w :: gtbl)) := by sorry
/-- the slots of the cells that have come since -/
def nsl (H0 H : Heap) : Nat := ((H.toList.drop H0.size).map (·.slots.size)).sum
/-- from H0 to H: at most c cells of n slots are new, and no old one has changed its size -/
def szk (H0 H : Heap) (c n : Nat) : Prop := H0.size ≤ H.size ∧ H.size ≤ H0.size + c ∧ nsl H0 H ≤ n ∧ ∀ (q : Nat) (c0 : Cell), H0[q]? = some c0 → ∃ c1, H[q]? = some c1 ∧ c1.slots.size = c0.slots.size
theorem szk.map {H0 H : Heap} {c n : Nat} (h : szk H0 H c n) : (H.toList.take H0.size).map (·.slots.size) = H0.toList.map (·.slots.size) := by sorry
theorem szk.trans {H0 H1 H2 : Heap} {c n c2 n2 : Nat} (h : szk H0 H1 c n) (g : szk H1 H2 c2 n2) : szk H0 H2 (c + c2) (n + n2) := by sorry
theorem szk.mono {H0 H : Heap} {c n c2 n2 : Nat} (h : szk H0 H c n) (hc : c ≤ c2) (hn : n ≤ n2) : szk H0 H c2 n2 := by sorry
theorem w_same {p : Program} {l : Launch} {e : Env} {R : Room} {s : State} {m : MethodId} {args : Array Value} {below : List Frame} {meth : Method} {c : Code} {H : Heap} {locs : List Loc} {cells slots : Nat} {Q : State → Prop} {g : JFrame}
    (kk : szk s.heap H cells slots → W p l e R s m args below meth c H locs cells slots Q g) : W p l e R s m args below meth c H locs cells slots Q g := by sorry
theorem w_tight {p : Program} {l : Launch} {e : Env} {R : Room} {s : State} {m : MethodId} {args : Array Value} {below : List Frame} {meth : Method} {c : Code} {H : Heap} {locs : List Loc} {cells slots k n : Nat} {Q : State → Prop} {g : JFrame}
    (h : szk s.heap H k n) (kk : W p l e R s m args below meth c H locs k n Q g) : W p l e R s m args below meth c H locs cells slots Q g := by sorry
end
section
theorem w_43 : (.fieldLink "QueryBench$Tape" 9 "QueryBench$Tape" "bytes" "[B" : Cond) ∈ gtbl := by sorry
theorem w_48 : (.fieldLink "QueryBench$Tape" 23 "QueryBench$Tape" "length" "I" : Cond) ∈ gtbl := by sorry
theorem w_51 : (.fieldLink "QueryBench$Tape" 26 "QueryBench$Tape" "end" "I" : Cond) ∈ gtbl := by sorry
theorem w_54 : (.fieldLink "QueryBench$Tape" 29 "QueryBench$Tape" "at" "I" : Cond) ∈ gtbl := by sorry
theorem w_55 : (.fieldLink "QueryBench$Tape" 19 "QueryBench$Tape" "place" "I" : Cond) ∈ gtbl := by sorry
/-- the byte at the place, or -1 -/
def hereV (f : Nat → Int32) (n i : Nat) : Int32 := if i < n then f i &&& 255 else -1
abbrev b_Tape_here : ByteArray := prog_10_method_4_code
def y_Tape_here : MethodName := ⟨"QueryBench$Tape", "here", "()I"⟩
abbrev k_Tape_here : Cond := .code y_Tape_here b_Tape_here 1 (some .int)
theorem i_Tape_here : k_Tape_here ∈ gtbl := by sorry
theorem d_Tape_here_0 : decode b_Tape_here 0 = .ok (.aload_n 0, 1) := by sorry
theorem d_Tape_here_1 : decode b_Tape_here 1 = .ok (.getfield 29, 3) := by sorry
theorem d_Tape_here_4 : decode b_Tape_here 4 = .ok (.aload_n 0, 1) := by sorry
theorem d_Tape_here_5 : decode b_Tape_here 5 = .ok (.getfield 26, 3) := by sorry
theorem d_Tape_here_8 : decode b_Tape_here 8 = .ok (.if_icmp .ge 19, 3) := by sorry
theorem d_Tape_here_11 : decode b_Tape_here 11 = .ok (.aload_n 0, 1) := by sorry
theorem d_Tape_here_12 : decode b_Tape_here 12 = .ok (.getfield 9, 3) := by sorry
theorem d_Tape_here_15 : decode b_Tape_here 15 = .ok (.aload_n 0, 1) := by sorry
theorem d_Tape_here_16 : decode b_Tape_here 16 = .ok (.getfield 29, 3) := by sorry
theorem d_Tape_here_19 : decode b_Tape_here 19 = .ok (.baload, 1) := by sorry
theorem d_Tape_here_20 : decode b_Tape_here 20 = .ok (.sipush 255, 3) := by sorry
theorem d_Tape_here_23 : decode b_Tape_here 23 = .ok (.iand, 1) := by sorry
theorem d_Tape_here_24 : decode b_Tape_here 24 = .ok (.goto 4, 3) := by sorry
theorem d_Tape_here_27 : decode b_Tape_here 27 = .ok (.iconst (-1), 1) := by sorry
theorem d_Tape_here_28 : decode b_Tape_here 28 = .ok (.ireturn, 1) := by sorry
set_option maxHeartbeats 4000000 in
set_option maxRecDepth 100000 in
/-- Tape.here() -/
theorem c_Tape_here (l : Launch) (dC : Nat → ClassId) (dI : Nat → Nat → Nat) (cB : ClassId) (h0 qb : Nat) (sz : Heap) (ru : Value) (uc ln pl : Int32) (f : Nat → Int32) (n i : Nat) (hn0 : n ≤ 4096) (hi0 : i ≤ 1000000) : Met l y_Tape_here (k_Tape_here :: gtbl) ({ frames := 0, cells := 0, slots := 0, locals := 0 }) (va_Pc [.ref h0] (mp dC dI [(h0, .inr (8, [.ref qb, ru, .int uc, .int ln, .int (nI n), .int (nI i), .int pl])), (qb, .inl (cB, 4096, .inl f))] [(cB, .byte)] sz)) (va_Qi (fun (r : Int32) (_ : Unit) => r = hereV f n i) (fun _ => mz dC dI [(h0, .inr (8, [.ref qb, ru, .int uc, .int ln, .int (nI n), .int (nI i), .int pl])), (qb, .inl (cB, 4096, .inl f))] [(cB, .byte)] (va_A [(h0, .inr (8, [.ref qb, ru, .int uc, .int ln, .int (nI n), .int (nI i), .int pl])), (qb, .inl (cB, 4096, .inl f))] sz.size)) (va_A [(h0, .inr (8, [.ref qb, ru, .int uc, .int ln, .int (nI n), .int (nI i), .int pl])), (qb, .inl (cB, 4096, .inl f))] sz.size)) 0 0 (va_A [(h0, .inr (8, [.ref qb, ru, .int uc, .int ln, .int (nI n), .int (nI i), .int pl])), (qb, .inl (cB, 4096, .inl f))] sz.size) := by sorry
abbrev b_Tape_beginReading : ByteArray := prog_10_method_3_code
def y_Tape_beginReading : MethodName := ⟨"QueryBench$Tape", "beginReading", "()V"⟩
abbrev k_Tape_beginReading : Cond := .code y_Tape_beginReading b_Tape_beginReading 1 none
theorem i_Tape_beginReading : k_Tape_beginReading ∈ gtbl := by sorry
theorem d_Tape_beginReading_0 : decode b_Tape_beginReading 0 = .ok (.aload_n 0, 1) := by sorry
theorem d_Tape_beginReading_1 : decode b_Tape_beginReading 1 = .ok (.aload_n 0, 1) := by sorry
theorem d_Tape_beginReading_2 : decode b_Tape_beginReading 2 = .ok (.getfield 23, 3) := by sorry
theorem d_Tape_beginReading_5 : decode b_Tape_beginReading 5 = .ok (.putfield 26, 3) := by sorry
theorem d_Tape_beginReading_8 : decode b_Tape_beginReading 8 = .ok (.aload_n 0, 1) := by sorry
theorem d_Tape_beginReading_9 : decode b_Tape_beginReading 9 = .ok (.iconst 0, 1) := by sorry
theorem d_Tape_beginReading_10 : decode b_Tape_beginReading 10 = .ok (.putfield 23, 3) := by sorry
theorem d_Tape_beginReading_13 : decode b_Tape_beginReading 13 = .ok (.aload_n 0, 1) := by sorry
theorem d_Tape_beginReading_14 : decode b_Tape_beginReading 14 = .ok (.iconst 0, 1) := by sorry
theorem d_Tape_beginReading_15 : decode b_Tape_beginReading 15 = .ok (.putfield 29, 3) := by sorry
theorem d_Tape_beginReading_18 : decode b_Tape_beginReading 18 = .ok (.aload_n 0, 1) := by sorry
theorem d_Tape_beginReading_19 : decode b_Tape_beginReading 19 = .ok (.iconst (-1), 1) := by sorry
theorem d_Tape_beginReading_20 : decode b_Tape_beginReading 20 = .ok (.putfield 19, 3) := by sorry
theorem d_Tape_beginReading_23 : decode b_Tape_beginReading 23 = .ok (.return_, 1) := by sorry
set_option maxHeartbeats 4000000 in
set_option maxRecDepth 100000 in
/-- Tape.beginReading() -/
theorem c_Tape_beginReading (l : Launch) (dC : Nat → ClassId) (dI : Nat → Nat → Nat) (cB : ClassId) (h0 qb : Nat) (sz : Heap) (ru : Value) (uc ln en at_ pl : Int32) (f : Nat → Int32) : Met l y_Tape_beginReading (k_Tape_beginReading :: gtbl) ({ frames := 0, cells := 0, slots := 0, locals := 0 }) (va_Pc [.ref h0] (mp dC dI [(h0, .inr (8, [.ref qb, ru, .int uc, .int ln, .int en, .int at_, .int pl])), (qb, .inl (cB, 4096, .inl f))] [(cB, .byte)] sz)) (va_Qv (fun (_ : Unit) => True) (fun _ => mz dC dI [(h0, .inr (8, [.ref qb, ru, .int uc, .int 0, .int ln, .int 0, .int (-1)])), (qb, .inl (cB, 4096, .inl f))] [(cB, .byte)] (va_A [(h0, .inr (8, [.ref qb, ru, .int uc, .int ln, .int en, .int at_, .int pl])), (qb, .inl (cB, 4096, .inl f))] sz.size)) (va_A [(h0, .inr (8, [.ref qb, ru, .int uc, .int ln, .int en, .int at_, .int pl])), (qb, .inl (cB, 4096, .inl f))] sz.size)) 0 0 (va_A [(h0, .inr (8, [.ref qb, ru, .int uc, .int ln, .int en, .int at_, .int pl])), (qb, .inl (cB, 4096, .inl f))] sz.size) := by sorry
end
section
theorem w_2 : (.initialized "QueryBench$Tape" : Cond) ∈ gtbl := by sorry
theorem w_12 : (.initialized "java/lang/IndexOutOfBoundsException" : Cond) ∈ gtbl := by sorry
theorem w_47 : (.fieldLink "QueryBench" 55 "QueryBench$Tape" "length" "I" : Cond) ∈ gtbl := by sorry
theorem w_151 : (.fieldLink "QueryBench" 10 "QueryBench" "tape" "LQueryBench$Tape;" : Cond) ∈ gtbl := by sorry
theorem w_184 : (.classLink "QueryBench" 59 "java/lang/IndexOutOfBoundsException" : Cond) ∈ gtbl := by sorry
theorem w_248 : (.methodLink "QueryBench" 62 ⟨"QueryBench$Tape", "put", "(I)V"⟩ : Cond) ∈ gtbl := by sorry
theorem w_249 : (.instanceMethod ⟨"QueryBench$Tape", "put", "(I)V"⟩ : Cond) ∈ gtbl := by sorry
theorem w_250 : (.selects "QueryBench$Tape" ⟨"QueryBench$Tape", "put", "(I)V"⟩ ⟨"QueryBench$Tape", "put", "(I)V"⟩ : Cond) ∈ gtbl := by sorry
def putB (x : Int32) (k : Int32) : Int32 := vp_nar .byte ((x >>> (k &&& 31)).toInt8.toInt32)
/-- the four bytes of x, from n on -/
def put4 (f : Nat → Int32) (n : Nat) (x : Int32) : Nat → Int32 := upd (upd (upd (upd f n (putB x 24)) (n + 1) (putB x 16)) (n + 1 + 1) (putB x 8)) (n + 1 + 1 + 1) (putB x 0)
abbrev b_Tape_put : ByteArray := prog_10_method_2_code
def y_Tape_put : MethodName := ⟨"QueryBench$Tape", "put", "(I)V"⟩
abbrev k_Tape_put : Cond := .code y_Tape_put b_Tape_put 3 none
theorem i_Tape_put : k_Tape_put ∈ gtbl := by sorry
theorem d_Tape_put_0 : decode b_Tape_put 0 = .ok (.bipush 24, 2) := by sorry
theorem d_Tape_put_2 : decode b_Tape_put 2 = .ok (.istore_n 2, 1) := by sorry
theorem d_Tape_put_3 : decode b_Tape_put 3 = .ok (.iload_n 2, 1) := by sorry
theorem d_Tape_put_4 : decode b_Tape_put 4 = .ok (.ifCond .lt 42, 3) := by sorry
theorem d_Tape_put_7 : decode b_Tape_put 7 = .ok (.aload_n 0, 1) := by sorry
theorem d_Tape_put_8 : decode b_Tape_put 8 = .ok (.getfield 23, 3) := by sorry
theorem d_Tape_put_11 : decode b_Tape_put 11 = .ok (.sipush 4096, 3) := by sorry
theorem d_Tape_put_14 : decode b_Tape_put 14 = .ok (.if_icmp .ge 32, 3) := by sorry
theorem d_Tape_put_17 : decode b_Tape_put 17 = .ok (.aload_n 0, 1) := by sorry
theorem d_Tape_put_18 : decode b_Tape_put 18 = .ok (.getfield 9, 3) := by sorry
theorem d_Tape_put_21 : decode b_Tape_put 21 = .ok (.aload_n 0, 1) := by sorry
theorem d_Tape_put_22 : decode b_Tape_put 22 = .ok (.getfield 23, 3) := by sorry
theorem d_Tape_put_25 : decode b_Tape_put 25 = .ok (.iload_n 1, 1) := by sorry
theorem d_Tape_put_26 : decode b_Tape_put 26 = .ok (.iload_n 2, 1) := by sorry
theorem d_Tape_put_27 : decode b_Tape_put 27 = .ok (.ishr, 1) := by sorry
theorem d_Tape_put_28 : decode b_Tape_put 28 = .ok (.i2b, 1) := by sorry
theorem d_Tape_put_29 : decode b_Tape_put 29 = .ok (.bastore, 1) := by sorry
theorem d_Tape_put_30 : decode b_Tape_put 30 = .ok (.aload_n 0, 1) := by sorry
theorem d_Tape_put_31 : decode b_Tape_put 31 = .ok (.dup, 1) := by sorry
theorem d_Tape_put_32 : decode b_Tape_put 32 = .ok (.getfield 23, 3) := by sorry
theorem d_Tape_put_35 : decode b_Tape_put 35 = .ok (.iconst 1, 1) := by sorry
theorem d_Tape_put_36 : decode b_Tape_put 36 = .ok (.iadd, 1) := by sorry
theorem d_Tape_put_37 : decode b_Tape_put 37 = .ok (.putfield 23, 3) := by sorry
theorem d_Tape_put_40 : decode b_Tape_put 40 = .ok (.iinc 2 (-8), 3) := by sorry
theorem d_Tape_put_43 : decode b_Tape_put 43 = .ok (.goto (-40), 3) := by sorry
theorem d_Tape_put_46 : decode b_Tape_put 46 = .ok (.return_, 1) := by sorry
set_option maxHeartbeats 4000000 in
set_option maxRecDepth 100000 in
/-- Tape.put(x), where there is room -/
theorem c_Tape_put (l : Launch) (dC : Nat → ClassId) (dI : Nat → Nat → Nat) (cB : ClassId) (h0 qb : Nat) (sz : Heap) (ru : Value) (uc en at_ pl : Int32) (f : Nat → Int32) (n : Nat) (x : Int32) (hn0 : n + 4 ≤ 4096) : Met l y_Tape_put (k_Tape_put :: gtbl) ({ frames := 0, cells := 0, slots := 0, locals := 0 }) (va_Pc [.ref h0, .int x] (mp dC dI [(h0, .inr (8, [.ref qb, ru, .int uc, .int (nI n), .int en, .int at_, .int pl])), (qb, .inl (cB, 4096, .inl f))] [(cB, .byte)] sz)) (va_Qv (fun (_ : Unit) => True) (fun _ => mz dC dI [(h0, .inr (8, [.ref qb, ru, .int uc, .int (nI (n + 1 + 1 + 1 + 1)), .int en, .int at_, .int pl])), (qb, .inl (cB, 4096, .inl (put4 f n x)))] [(cB, .byte)] (va_A [(h0, .inr (8, [.ref qb, ru, .int uc, .int (nI n), .int en, .int at_, .int pl])), (qb, .inl (cB, 4096, .inl f))] sz.size)) (va_A [(h0, .inr (8, [.ref qb, ru, .int uc, .int (nI n), .int en, .int at_, .int pl])), (qb, .inl (cB, 4096, .inl f))] sz.size)) 0 0 (va_A [(h0, .inr (8, [.ref qb, ru, .int uc, .int (nI n), .int en, .int at_, .int pl])), (qb, .inl (cB, 4096, .inl f))] sz.size) := by sorry
def feed5 (f : Nat → Int32) (n : Nat) (a b c_ d e_ : Int32) : Nat → Int32 := put4 (put4 (put4 (put4 (put4 f n a) (n + 4) b) (n + 8) c_) (n + 12) d) (n + 16) e_
abbrev b_QB_feed : ByteArray := prog_1_method_2_code
def y_QB_feed : MethodName := ⟨"QueryBench", "feed", "(IIIII)I"⟩
abbrev k_QB_feed : Cond := .code y_QB_feed b_QB_feed 6 (some .int)
theorem i_QB_feed : k_QB_feed ∈ gtbl := by sorry
theorem d_QB_feed_0 : decode b_QB_feed 0 = .ok (.aload_n 0, 1) := by sorry
theorem d_QB_feed_1 : decode b_QB_feed 1 = .ok (.getfield 10, 3) := by sorry
theorem d_QB_feed_4 : decode b_QB_feed 4 = .ok (.getfield 55, 3) := by sorry
theorem d_QB_feed_7 : decode b_QB_feed 7 = .ok (.bipush 20, 2) := by sorry
theorem d_QB_feed_9 : decode b_QB_feed 9 = .ok (.iadd, 1) := by sorry
theorem d_QB_feed_10 : decode b_QB_feed 10 = .ok (.sipush 4096, 3) := by sorry
theorem d_QB_feed_13 : decode b_QB_feed 13 = .ok (.if_icmp .le 11, 3) := by sorry
theorem d_QB_feed_16 : decode b_QB_feed 16 = .ok (.new 59, 3) := by sorry
theorem d_QB_feed_19 : decode b_QB_feed 19 = .ok (.dup, 1) := by sorry
theorem d_QB_feed_20 : decode b_QB_feed 20 = .ok (.invokespecial 61, 3) := by sorry
theorem d_QB_feed_23 : decode b_QB_feed 23 = .ok (.athrow, 1) := by sorry
theorem d_QB_feed_24 : decode b_QB_feed 24 = .ok (.aload_n 0, 1) := by sorry
theorem d_QB_feed_25 : decode b_QB_feed 25 = .ok (.getfield 10, 3) := by sorry
theorem d_QB_feed_28 : decode b_QB_feed 28 = .ok (.iload_n 1, 1) := by sorry
theorem d_QB_feed_29 : decode b_QB_feed 29 = .ok (.invokevirtual 62, 3) := by sorry
theorem d_QB_feed_32 : decode b_QB_feed 32 = .ok (.aload_n 0, 1) := by sorry
theorem d_QB_feed_33 : decode b_QB_feed 33 = .ok (.getfield 10, 3) := by sorry
theorem d_QB_feed_36 : decode b_QB_feed 36 = .ok (.iload_n 2, 1) := by sorry
theorem d_QB_feed_37 : decode b_QB_feed 37 = .ok (.invokevirtual 62, 3) := by sorry
theorem d_QB_feed_40 : decode b_QB_feed 40 = .ok (.aload_n 0, 1) := by sorry
theorem d_QB_feed_41 : decode b_QB_feed 41 = .ok (.getfield 10, 3) := by sorry
theorem d_QB_feed_44 : decode b_QB_feed 44 = .ok (.iload_n 3, 1) := by sorry
theorem d_QB_feed_45 : decode b_QB_feed 45 = .ok (.invokevirtual 62, 3) := by sorry
theorem d_QB_feed_48 : decode b_QB_feed 48 = .ok (.aload_n 0, 1) := by sorry
theorem d_QB_feed_49 : decode b_QB_feed 49 = .ok (.getfield 10, 3) := by sorry
theorem d_QB_feed_52 : decode b_QB_feed 52 = .ok (.iload 4, 2) := by sorry
theorem d_QB_feed_54 : decode b_QB_feed 54 = .ok (.invokevirtual 62, 3) := by sorry
theorem d_QB_feed_57 : decode b_QB_feed 57 = .ok (.aload_n 0, 1) := by sorry
theorem d_QB_feed_58 : decode b_QB_feed 58 = .ok (.getfield 10, 3) := by sorry
theorem d_QB_feed_61 : decode b_QB_feed 61 = .ok (.iload 5, 2) := by sorry
theorem d_QB_feed_63 : decode b_QB_feed 63 = .ok (.invokevirtual 62, 3) := by sorry
theorem d_QB_feed_66 : decode b_QB_feed 66 = .ok (.aload_n 0, 1) := by sorry
theorem d_QB_feed_67 : decode b_QB_feed 67 = .ok (.getfield 10, 3) := by sorry
theorem d_QB_feed_70 : decode b_QB_feed 70 = .ok (.getfield 55, 3) := by sorry
theorem d_QB_feed_73 : decode b_QB_feed 73 = .ok (.ireturn, 1) := by sorry
theorem xa_QB_feed_16 : ∀ w ∈ vx_at0 R_QB 61 "java/lang/IndexOutOfBoundsException" ["java/lang/RuntimeException", "java/lang/Exception"], (goodWord w = true ∧ w ∈ lw_tbl) ∨ w ∈ nwl := by sorry
theorem xa_QB_feed_16_g : ∀ w ∈ Cond.classLink R_QB 59 "java/lang/IndexOutOfBoundsException" :: Cond.initialized "java/lang/IndexOutOfBoundsException" :: vx_at0 R_QB 61 "java/lang/IndexOutOfBoundsException" ["java/lang/RuntimeException", "java/lang/Exception"], vx_ot w = true := by sorry
set_option maxHeartbeats 4000000 in
set_option maxRecDepth 100000 in
/-- QueryBench.feed -/
theorem c_QB_feed (l : Launch) (hl9 : l.stackTraces = false) (dC : Nat → ClassId) (dI : Nat → Nat → Nat) (cB : ClassId) (q0 h0 qb : Nat) (sz : Heap) (ru r1 r2 r3 r4 r5 r6 r7 : Value) (uc en at_ pl : Int32) (f : Nat → Int32) (n : Nat) (a b c_ d e_ : Int32) (hn0 : n ≤ 4096) : vx_Met l y_QB_feed (k_QB_feed :: gtbl) ({ frames := 8, cells := 1, slots := 6, locals := 110 }) (va_Pc [.ref q0, .int a, .int b, .int c_, .int d, .int e_] (mx dC dI [(q0, .inr (11, [.ref h0, r1, r2, r3, r4, r5, r6, r7])), (h0, .inr (8, [.ref qb, ru, .int uc, .int (nI n), .int en, .int at_, .int pl])), (qb, .inl (cB, 4096, .inl f))] [(cB, .byte)] sz)) (va_Qi (fun (r : Int32) (_ : Unit) => n + 20 ≤ 4096 ∧ r = nI (n + 20)) (fun _ t => mz dC dI [(q0, .inr (11, [.ref h0, r1, r2, r3, r4, r5, r6, r7])), (h0, .inr (8, [.ref qb, ru, .int uc, .int (nI (n + 20)), .int en, .int at_, .int pl])), (qb, .inl (cB, 4096, .inl (feed5 f n a b c_ d e_)))] [(cB, .byte)] (va_A [(q0, .inr (11, [.ref h0, r1, r2, r3, r4, r5, r6, r7])), (h0, .inr (8, [.ref qb, ru, .int uc, .int (nI n), .int en, .int at_, .int pl])), (qb, .inl (cB, 4096, .inl f))] sz.size) t ∧ szk sz t.heap 0 0) (va_A [(q0, .inr (11, [.ref h0, r1, r2, r3, r4, r5, r6, r7])), (h0, .inr (8, [.ref qb, ru, .int uc, .int (nI n), .int en, .int at_, .int pl])), (qb, .inl (cB, 4096, .inl f))] sz.size)) (vx_X (fun _ : Unit => ¬ n + 20 ≤ 4096) (fun E _ t => E = "java/lang/IndexOutOfBoundsException" ∧ mz dC dI [(q0, .inr (11, [.ref h0, r1, r2, r3, r4, r5, r6, r7])), (h0, .inr (8, [.ref qb, ru, .int uc, .int (nI n), .int en, .int at_, .int pl])), (qb, .inl (cB, 4096, .inl f))] [(cB, .byte)] (va_A [(q0, .inr (11, [.ref h0, r1, r2, r3, r4, r5, r6, r7])), (h0, .inr (8, [.ref qb, ru, .int uc, .int (nI n), .int en, .int at_, .int pl])), (qb, .inl (cB, 4096, .inl f))] sz.size) t) (va_A [(q0, .inr (11, [.ref h0, r1, r2, r3, r4, r5, r6, r7])), (h0, .inr (8, [.ref qb, ru, .int uc, .int (nI n), .int en, .int at_, .int pl])), (qb, .inl (cB, 4096, .inl f))] sz.size)) 1 6 (va_A [(q0, .inr (11, [.ref h0, r1, r2, r3, r4, r5, r6, r7])), (h0, .inr (8, [.ref qb, ru, .int uc, .int (nI n), .int en, .int at_, .int pl])), (qb, .inl (cB, 4096, .inl f))] sz.size) := by sorry
end
section
theorem w_13 : (.initialized "java/lang/IllegalArgumentException" : Cond) ∈ gtbl := by sorry
theorem w_260 : (.classLink "QueryBench" 66 "java/lang/IllegalArgumentException" : Cond) ∈ gtbl := by sorry
theorem w_429 : (.constant "QueryBench" 129 56320 : Cond) ∈ gtbl := by sorry
theorem w_430 : (.constant "QueryBench" 130 57343 : Cond) ∈ gtbl := by sorry
theorem w_434 : (.constant "QueryBench" 127 55296 : Cond) ∈ gtbl := by sorry
theorem w_435 : (.constant "QueryBench" 128 56319 : Cond) ∈ gtbl := by sorry
/-- an object's fields out of a function of their places -/
def MF (n : Nat) (v : Nat → Value) : List Value := (List.range n).map v
theorem MFl {n : Nat} {v : Nat → Value} : (MF n v).length = n := by sorry
theorem MFg {n k : Nat} {v : Nat → Value} {x : Value} (hk : k < n) (h : v k = x) : (MF n v)[k]? = some x := by sorry
theorem MFs {n k : Nat} {v : Nat → Value} {x : Value} (hk : k < n) : (MF n v).set k x = MF n (va_up v k x) := by sorry
abbrev b_QB_end : ByteArray := prog_1_method_3_code
def y_QB_end : MethodName := ⟨"QueryBench", "end", "(I)I"⟩
abbrev k_QB_end : Cond := .code y_QB_end b_QB_end 2 (some .int)
theorem i_QB_end : k_QB_end ∈ gtbl := by sorry
theorem d_QB_end_0 : decode b_QB_end 0 = .ok (.iload_n 1, 1) := by sorry
theorem d_QB_end_1 : decode b_QB_end 1 = .ok (.ifCond .lt 14, 3) := by sorry
theorem d_QB_end_4 : decode b_QB_end 4 = .ok (.iload_n 1, 1) := by sorry
theorem d_QB_end_5 : decode b_QB_end 5 = .ok (.aload_n 0, 1) := by sorry
theorem d_QB_end_6 : decode b_QB_end 6 = .ok (.getfield 10, 3) := by sorry
theorem d_QB_end_9 : decode b_QB_end 9 = .ok (.getfield 55, 3) := by sorry
theorem d_QB_end_12 : decode b_QB_end 12 = .ok (.if_icmp .le 11, 3) := by sorry
theorem d_QB_end_15 : decode b_QB_end 15 = .ok (.new 66, 3) := by sorry
theorem d_QB_end_18 : decode b_QB_end 18 = .ok (.dup, 1) := by sorry
theorem d_QB_end_19 : decode b_QB_end 19 = .ok (.invokespecial 68, 3) := by sorry
theorem d_QB_end_22 : decode b_QB_end 22 = .ok (.athrow, 1) := by sorry
theorem d_QB_end_23 : decode b_QB_end 23 = .ok (.aload_n 0, 1) := by sorry
theorem d_QB_end_24 : decode b_QB_end 24 = .ok (.getfield 10, 3) := by sorry
theorem d_QB_end_27 : decode b_QB_end 27 = .ok (.iload_n 1, 1) := by sorry
theorem d_QB_end_28 : decode b_QB_end 28 = .ok (.putfield 55, 3) := by sorry
theorem d_QB_end_31 : decode b_QB_end 31 = .ok (.iload_n 1, 1) := by sorry
theorem d_QB_end_32 : decode b_QB_end 32 = .ok (.ireturn, 1) := by sorry
theorem xa_QB_end_15 : ∀ w ∈ vx_at0 R_QB 68 "java/lang/IllegalArgumentException" ["java/lang/RuntimeException", "java/lang/Exception"], (goodWord w = true ∧ w ∈ lw_tbl) ∨ w ∈ nwl := by sorry
theorem xa_QB_end_15_g : ∀ w ∈ Cond.classLink R_QB 66 "java/lang/IllegalArgumentException" :: Cond.initialized "java/lang/IllegalArgumentException" :: vx_at0 R_QB 68 "java/lang/IllegalArgumentException" ["java/lang/RuntimeException", "java/lang/Exception"], vx_ot w = true := by sorry
set_option maxHeartbeats 4000000 in
set_option maxRecDepth 100000 in
/-- QueryBench.end -/
theorem c_QB_end (l : Launch) (hl9 : l.stackTraces = false) (dC : Nat → ClassId) (dI : Nat → Nat → Nat) (cB : ClassId) (q0 h0 qb : Nat) (sz : Heap) (ru r1 r2 r3 r4 r5 r6 r7 : Value) (uc ln en at_ pl : Int32) (f : Nat → Int32) (nn : Int32) : vx_Met l y_QB_end (k_QB_end :: gtbl) ({ frames := 8, cells := 1, slots := 6, locals := 110 }) (va_Pc [.ref q0, .int nn] (mx dC dI [(q0, .inr (11, [.ref h0, r1, r2, r3, r4, r5, r6, r7])), (h0, .inr (8, [.ref qb, ru, .int uc, .int ln, .int en, .int at_, .int pl])), (qb, .inl (cB, 4096, .inl f))] [(cB, .byte)] sz)) (va_Qi (fun (r : Int32) (_ : Unit) => (¬ nn < 0 ∧ nn ≤ ln) ∧ r = nn) (fun _ t => mz dC dI [(q0, .inr (11, [.ref h0, r1, r2, r3, r4, r5, r6, r7])), (h0, .inr (8, [.ref qb, ru, .int uc, .int nn, .int en, .int at_, .int pl])), (qb, .inl (cB, 4096, .inl f))] [(cB, .byte)] (va_A [(q0, .inr (11, [.ref h0, r1, r2, r3, r4, r5, r6, r7])), (h0, .inr (8, [.ref qb, ru, .int uc, .int ln, .int en, .int at_, .int pl])), (qb, .inl (cB, 4096, .inl f))] sz.size) t ∧ szk sz t.heap 0 0) (va_A [(q0, .inr (11, [.ref h0, r1, r2, r3, r4, r5, r6, r7])), (h0, .inr (8, [.ref qb, ru, .int uc, .int ln, .int en, .int at_, .int pl])), (qb, .inl (cB, 4096, .inl f))] sz.size)) (vx_X (fun _ : Unit => ¬ (¬ nn < 0 ∧ nn ≤ ln)) (fun E _ t => E = "java/lang/IllegalArgumentException" ∧ mz dC dI [(q0, .inr (11, [.ref h0, r1, r2, r3, r4, r5, r6, r7])), (h0, .inr (8, [.ref qb, ru, .int uc, .int ln, .int en, .int at_, .int pl])), (qb, .inl (cB, 4096, .inl f))] [(cB, .byte)] (va_A [(q0, .inr (11, [.ref h0, r1, r2, r3, r4, r5, r6, r7])), (h0, .inr (8, [.ref qb, ru, .int uc, .int ln, .int en, .int at_, .int pl])), (qb, .inl (cB, 4096, .inl f))] sz.size) t) (va_A [(q0, .inr (11, [.ref h0, r1, r2, r3, r4, r5, r6, r7])), (h0, .inr (8, [.ref qb, ru, .int uc, .int ln, .int en, .int at_, .int pl])), (qb, .inl (cB, 4096, .inl f))] sz.size)) 1 6 (va_A [(q0, .inr (11, [.ref h0, r1, r2, r3, r4, r5, r6, r7])), (h0, .inr (8, [.ref qb, ru, .int uc, .int ln, .int en, .int at_, .int pl])), (qb, .inl (cB, 4096, .inl f))] sz.size) := by sorry
abbrev b_QB_checkNumber : ByteArray := prog_1_method_10_code
def y_QB_checkNumber : MethodName := ⟨"QueryBench", "checkNumber", "(I)V"⟩
abbrev k_QB_checkNumber : Cond := .code y_QB_checkNumber b_QB_checkNumber 1 none
theorem i_QB_checkNumber : k_QB_checkNumber ∈ gtbl := by sorry
theorem d_QB_checkNumber_0 : decode b_QB_checkNumber 0 = .ok (.iload_n 0, 1) := by sorry
theorem d_QB_checkNumber_1 : decode b_QB_checkNumber 1 = .ok (.ifCond .lt 8, 3) := by sorry
theorem d_QB_checkNumber_4 : decode b_QB_checkNumber 4 = .ok (.iload_n 0, 1) := by sorry
theorem d_QB_checkNumber_5 : decode b_QB_checkNumber 5 = .ok (.iconst 4, 1) := by sorry
theorem d_QB_checkNumber_6 : decode b_QB_checkNumber 6 = .ok (.if_icmp .lt 11, 3) := by sorry
theorem d_QB_checkNumber_9 : decode b_QB_checkNumber 9 = .ok (.new 66, 3) := by sorry
theorem d_QB_checkNumber_12 : decode b_QB_checkNumber 12 = .ok (.dup, 1) := by sorry
theorem d_QB_checkNumber_13 : decode b_QB_checkNumber 13 = .ok (.invokespecial 68, 3) := by sorry
theorem d_QB_checkNumber_16 : decode b_QB_checkNumber 16 = .ok (.athrow, 1) := by sorry
theorem d_QB_checkNumber_17 : decode b_QB_checkNumber 17 = .ok (.return_, 1) := by sorry
theorem xa_QB_checkNumber_9 : ∀ w ∈ vx_at0 R_QB 68 "java/lang/IllegalArgumentException" ["java/lang/RuntimeException", "java/lang/Exception"], (goodWord w = true ∧ w ∈ lw_tbl) ∨ w ∈ nwl := by sorry
theorem xa_QB_checkNumber_9_g : ∀ w ∈ Cond.classLink R_QB 66 "java/lang/IllegalArgumentException" :: Cond.initialized "java/lang/IllegalArgumentException" :: vx_at0 R_QB 68 "java/lang/IllegalArgumentException" ["java/lang/RuntimeException", "java/lang/Exception"], vx_ot w = true := by sorry
set_option maxHeartbeats 4000000 in
set_option maxRecDepth 100000 in
/-- QueryBench.checkNumber -/
theorem c_QB_checkNumber (l : Launch) (hl9 : l.stackTraces = false) (dC : Nat → ClassId) (dI : Nat → Nat → Nat) (sz : Heap) (d : Int32) : vx_Met l y_QB_checkNumber (k_QB_checkNumber :: gtbl) ({ frames := 8, cells := 1, slots := 6, locals := 110 }) (va_Pc [.int d] (mx dC dI [] [] sz)) (va_Qv (fun (_ : Unit) => ¬ d < 0 ∧ d < 4) (fun _ t => mz dC dI [] [] (va_A [] sz.size) t ∧ szk sz t.heap 0 0) (va_A [] sz.size)) (vx_X (fun _ : Unit => ¬ (¬ d < 0 ∧ d < 4)) (fun E _ t => E = "java/lang/IllegalArgumentException" ∧ mz dC dI [] [] (va_A [] sz.size) t) (va_A [] sz.size)) 1 6 (va_A [] sz.size) := by sorry
abbrev b_QB_isDigit : ByteArray := prog_1_method_12_code
def y_QB_isDigit : MethodName := ⟨"QueryBench", "isDigit", "(I)Z"⟩
abbrev k_QB_isDigit : Cond := .code y_QB_isDigit b_QB_isDigit 1 (some .boolean)
theorem i_QB_isDigit : k_QB_isDigit ∈ gtbl := by sorry
theorem d_QB_isDigit_0 : decode b_QB_isDigit 0 = .ok (.iload_n 0, 1) := by sorry
theorem d_QB_isDigit_1 : decode b_QB_isDigit 1 = .ok (.bipush 48, 2) := by sorry
theorem d_QB_isDigit_3 : decode b_QB_isDigit 3 = .ok (.if_icmp .lt 13, 3) := by sorry
theorem d_QB_isDigit_6 : decode b_QB_isDigit 6 = .ok (.iload_n 0, 1) := by sorry
theorem d_QB_isDigit_7 : decode b_QB_isDigit 7 = .ok (.bipush 57, 2) := by sorry
theorem d_QB_isDigit_9 : decode b_QB_isDigit 9 = .ok (.if_icmp .gt 7, 3) := by sorry
theorem d_QB_isDigit_12 : decode b_QB_isDigit 12 = .ok (.iconst 1, 1) := by sorry
theorem d_QB_isDigit_13 : decode b_QB_isDigit 13 = .ok (.goto 4, 3) := by sorry
theorem d_QB_isDigit_16 : decode b_QB_isDigit 16 = .ok (.iconst 0, 1) := by sorry
theorem d_QB_isDigit_17 : decode b_QB_isDigit 17 = .ok (.ireturn, 1) := by sorry
set_option maxHeartbeats 4000000 in
set_option maxRecDepth 100000 in
/-- QueryBench.isDigit -/
theorem c_QB_isDigit (l : Launch) (dC : Nat → ClassId) (dI : Nat → Nat → Nat) (sz : Heap) (x : Int32) : Met l y_QB_isDigit (k_QB_isDigit :: gtbl) ({ frames := 0, cells := 0, slots := 0, locals := 0 }) (va_Pc [.int x] (mp dC dI [] [] sz)) (va_Qi (fun (r : Int32) (_ : Unit) => r = if 48 ≤ x ∧ x ≤ 57 then 1 else 0) (fun _ => mz dC dI [] [] (va_A [] sz.size)) (va_A [] sz.size)) 0 0 (va_A [] sz.size) := by sorry
abbrev b_QB_isHighUnit : ByteArray := prog_1_method_13_code
def y_QB_isHighUnit : MethodName := ⟨"QueryBench", "isHighUnit", "(I)Z"⟩
abbrev k_QB_isHighUnit : Cond := .code y_QB_isHighUnit b_QB_isHighUnit 1 (some .boolean)
theorem i_QB_isHighUnit : k_QB_isHighUnit ∈ gtbl := by sorry
theorem d_QB_isHighUnit_0 : decode b_QB_isHighUnit 0 = .ok (.iload_n 0, 1) := by sorry
theorem d_QB_isHighUnit_1 : decode b_QB_isHighUnit 1 = .ok (.ldc 127, 2) := by sorry
theorem d_QB_isHighUnit_3 : decode b_QB_isHighUnit 3 = .ok (.if_icmp .lt 13, 3) := by sorry
theorem d_QB_isHighUnit_6 : decode b_QB_isHighUnit 6 = .ok (.iload_n 0, 1) := by sorry
theorem d_QB_isHighUnit_7 : decode b_QB_isHighUnit 7 = .ok (.ldc 128, 2) := by sorry
theorem d_QB_isHighUnit_9 : decode b_QB_isHighUnit 9 = .ok (.if_icmp .gt 7, 3) := by sorry
theorem d_QB_isHighUnit_12 : decode b_QB_isHighUnit 12 = .ok (.iconst 1, 1) := by sorry
theorem d_QB_isHighUnit_13 : decode b_QB_isHighUnit 13 = .ok (.goto 4, 3) := by sorry
theorem d_QB_isHighUnit_16 : decode b_QB_isHighUnit 16 = .ok (.iconst 0, 1) := by sorry
theorem d_QB_isHighUnit_17 : decode b_QB_isHighUnit 17 = .ok (.ireturn, 1) := by sorry
set_option maxHeartbeats 4000000 in
set_option maxRecDepth 100000 in
/-- QueryBench.isHighUnit -/
theorem c_QB_isHighUnit (l : Launch) (dC : Nat → ClassId) (dI : Nat → Nat → Nat) (sz : Heap) (x : Int32) : Met l y_QB_isHighUnit (k_QB_isHighUnit :: gtbl) ({ frames := 0, cells := 0, slots := 0, locals := 0 }) (va_Pc [.int x] (mp dC dI [] [] sz)) (va_Qi (fun (r : Int32) (_ : Unit) => r = if 55296 ≤ x ∧ x ≤ 56319 then 1 else 0) (fun _ => mz dC dI [] [] (va_A [] sz.size)) (va_A [] sz.size)) 0 0 (va_A [] sz.size) := by sorry
abbrev b_QB_isLowUnit : ByteArray := prog_1_method_14_code
def y_QB_isLowUnit : MethodName := ⟨"QueryBench", "isLowUnit", "(I)Z"⟩
abbrev k_QB_isLowUnit : Cond := .code y_QB_isLowUnit b_QB_isLowUnit 1 (some .boolean)
theorem i_QB_isLowUnit : k_QB_isLowUnit ∈ gtbl := by sorry
theorem d_QB_isLowUnit_0 : decode b_QB_isLowUnit 0 = .ok (.iload_n 0, 1) := by sorry
theorem d_QB_isLowUnit_1 : decode b_QB_isLowUnit 1 = .ok (.ldc 129, 2) := by sorry
theorem d_QB_isLowUnit_3 : decode b_QB_isLowUnit 3 = .ok (.if_icmp .lt 13, 3) := by sorry
theorem d_QB_isLowUnit_6 : decode b_QB_isLowUnit 6 = .ok (.iload_n 0, 1) := by sorry
theorem d_QB_isLowUnit_7 : decode b_QB_isLowUnit 7 = .ok (.ldc 130, 2) := by sorry
theorem d_QB_isLowUnit_9 : decode b_QB_isLowUnit 9 = .ok (.if_icmp .gt 7, 3) := by sorry
theorem d_QB_isLowUnit_12 : decode b_QB_isLowUnit 12 = .ok (.iconst 1, 1) := by sorry
theorem d_QB_isLowUnit_13 : decode b_QB_isLowUnit 13 = .ok (.goto 4, 3) := by sorry
theorem d_QB_isLowUnit_16 : decode b_QB_isLowUnit 16 = .ok (.iconst 0, 1) := by sorry
theorem d_QB_isLowUnit_17 : decode b_QB_isLowUnit 17 = .ok (.ireturn, 1) := by sorry
set_option maxHeartbeats 4000000 in
set_option maxRecDepth 100000 in
/-- QueryBench.isLowUnit -/
theorem c_QB_isLowUnit (l : Launch) (dC : Nat → ClassId) (dI : Nat → Nat → Nat) (sz : Heap) (x : Int32) : Met l y_QB_isLowUnit (k_QB_isLowUnit :: gtbl) ({ frames := 0, cells := 0, slots := 0, locals := 0 }) (va_Pc [.int x] (mp dC dI [] [] sz)) (va_Qi (fun (r : Int32) (_ : Unit) => r = if 56320 ≤ x ∧ x ≤ 57343 then 1 else 0) (fun _ => mz dC dI [] [] (va_A [] sz.size)) (va_A [] sz.size)) 0 0 (va_A [] sz.size) := by sorry
end
section
theorem w_7 : (.initialized "QueryBenchModel" : Cond) ∈ gtbl := by sorry
theorem w_1089 : (.fieldLink "QueryBenchModel" 7 "QueryBenchModel" "tape" "[B" : Cond) ∈ gtbl := by sorry
theorem w_1090 : (.fieldLink "QueryBenchModel" 119 "QueryBenchModel" "taped" "I" : Cond) ∈ gtbl := by sorry
theorem w_1093 : (.fieldLink "QueryBenchModel" 116 "QueryBenchModel" "code" "I" : Cond) ∈ gtbl := by sorry
theorem w_1188 : (.methodLink "QueryBenchModel" 122 ⟨"QueryBenchModel", "good", "(ZI)Z"⟩ : Cond) ∈ gtbl := by sorry
theorem w_1190 : (.instanceMethod ⟨"QueryBenchModel", "good", "(ZI)Z"⟩ : Cond) ∈ gtbl := by sorry
theorem w_1192 : (.methodLink "QueryBenchModel" 126 ⟨"QueryBenchModel", "four", "(I)V"⟩ : Cond) ∈ gtbl := by sorry
theorem w_1194 : (.instanceMethod ⟨"QueryBenchModel", "four", "(I)V"⟩ : Cond) ∈ gtbl := by sorry
abbrev b_Mo_thrown : ByteArray := prog_14_method_5_code
def y_Mo_thrown : MethodName := ⟨"QueryBenchModel", "thrown", "()I"⟩
abbrev k_Mo_thrown : Cond := .code y_Mo_thrown b_Mo_thrown 1 (some .int)
theorem i_Mo_thrown : k_Mo_thrown ∈ gtbl := by sorry
theorem d_Mo_thrown_0 : decode b_Mo_thrown 0 = .ok (.aload_n 0, 1) := by sorry
theorem d_Mo_thrown_1 : decode b_Mo_thrown 1 = .ok (.getfield 116, 3) := by sorry
theorem d_Mo_thrown_4 : decode b_Mo_thrown 4 = .ok (.ireturn, 1) := by sorry
set_option maxHeartbeats 4000000 in
set_option maxRecDepth 100000 in
/-- thrown() -/
theorem c_Mo_thrown (l : Launch) (dC : Nat → ClassId) (dI : Nat → Nat → Nat) (mo : Nat) (sz : Heap) (v : Nat → Value) (cd : Int32) (h4 : v 4 = .int cd) : Met l y_Mo_thrown (k_Mo_thrown :: gtbl) ({ frames := 0, cells := 0, slots := 0, locals := 0 }) (va_Pc [.ref mo] (mp dC dI [(mo, .inr (13, MF 30 v))] [] sz)) (va_Qi (fun (r : Int32) (_ : Unit) => r = cd) (fun _ => mz dC dI [(mo, .inr (13, MF 30 v))] [] (va_A [(mo, .inr (13, MF 30 v))] sz.size)) (va_A [(mo, .inr (13, MF 30 v))] sz.size)) 0 0 (va_A [(mo, .inr (13, MF 30 v))] sz.size) := by sorry
abbrev b_Mo_good : ByteArray := prog_14_method_6_code
def y_Mo_good : MethodName := ⟨"QueryBenchModel", "good", "(ZI)Z"⟩
abbrev k_Mo_good : Cond := .code y_Mo_good b_Mo_good 3 (some .boolean)
theorem i_Mo_good : k_Mo_good ∈ gtbl := by sorry
theorem d_Mo_good_0 : decode b_Mo_good 0 = .ok (.aload_n 0, 1) := by sorry
theorem d_Mo_good_1 : decode b_Mo_good 1 = .ok (.iload_n 1, 1) := by sorry
theorem d_Mo_good_2 : decode b_Mo_good 2 = .ok (.ifCond .eq 7, 3) := by sorry
theorem d_Mo_good_5 : decode b_Mo_good 5 = .ok (.iconst 0, 1) := by sorry
theorem d_Mo_good_6 : decode b_Mo_good 6 = .ok (.goto 4, 3) := by sorry
theorem d_Mo_good_9 : decode b_Mo_good 9 = .ok (.iload_n 2, 1) := by sorry
theorem d_Mo_good_10 : decode b_Mo_good 10 = .ok (.putfield 116, 3) := by sorry
theorem d_Mo_good_13 : decode b_Mo_good 13 = .ok (.iload_n 1, 1) := by sorry
theorem d_Mo_good_14 : decode b_Mo_good 14 = .ok (.ireturn, 1) := by sorry
set_option maxHeartbeats 4000000 in
set_option maxRecDepth 100000 in
/-- good -/
theorem c_Mo_good1 (l : Launch) (dC : Nat → ClassId) (dI : Nat → Nat → Nat) (mo : Nat) (sz : Heap) (v : Nat → Value) (cd : Int32) : Met l y_Mo_good (k_Mo_good :: gtbl) ({ frames := 0, cells := 0, slots := 0, locals := 0 }) (va_Pc [.ref mo, .int 1, .int cd] (mp dC dI [(mo, .inr (13, MF 30 v))] [] sz)) (va_Qi (fun (r : Int32) (_ : Unit) => r = 1) (fun _ => mz dC dI [(mo, .inr (13, MF 30 (va_up v 4 (.int 0))))] [] (va_A [(mo, .inr (13, MF 30 v))] sz.size)) (va_A [(mo, .inr (13, MF 30 v))] sz.size)) 0 0 (va_A [(mo, .inr (13, MF 30 v))] sz.size) := by sorry
set_option maxHeartbeats 4000000 in
set_option maxRecDepth 100000 in
/-- good -/
theorem c_Mo_good0 (l : Launch) (dC : Nat → ClassId) (dI : Nat → Nat → Nat) (mo : Nat) (sz : Heap) (v : Nat → Value) (cd : Int32) : Met l y_Mo_good (k_Mo_good :: gtbl) ({ frames := 0, cells := 0, slots := 0, locals := 0 }) (va_Pc [.ref mo, .int 0, .int cd] (mp dC dI [(mo, .inr (13, MF 30 v))] [] sz)) (va_Qi (fun (r : Int32) (_ : Unit) => r = 0) (fun _ => mz dC dI [(mo, .inr (13, MF 30 (va_up v 4 (.int cd))))] [] (va_A [(mo, .inr (13, MF 30 v))] sz.size)) (va_A [(mo, .inr (13, MF 30 v))] sz.size)) 0 0 (va_A [(mo, .inr (13, MF 30 v))] sz.size) := by sorry
abbrev b_Mo_four : ByteArray := prog_14_method_8_code
def y_Mo_four : MethodName := ⟨"QueryBenchModel", "four", "(I)V"⟩
abbrev k_Mo_four : Cond := .code y_Mo_four b_Mo_four 3 none
theorem i_Mo_four : k_Mo_four ∈ gtbl := by sorry
theorem d_Mo_four_0 : decode b_Mo_four 0 = .ok (.bipush 24, 2) := by sorry
theorem d_Mo_four_2 : decode b_Mo_four 2 = .ok (.istore_n 2, 1) := by sorry
theorem d_Mo_four_3 : decode b_Mo_four 3 = .ok (.iload_n 2, 1) := by sorry
theorem d_Mo_four_4 : decode b_Mo_four 4 = .ok (.ifCond .lt 32, 3) := by sorry
theorem d_Mo_four_7 : decode b_Mo_four 7 = .ok (.aload_n 0, 1) := by sorry
theorem d_Mo_four_8 : decode b_Mo_four 8 = .ok (.getfield 7, 3) := by sorry
theorem d_Mo_four_11 : decode b_Mo_four 11 = .ok (.aload_n 0, 1) := by sorry
theorem d_Mo_four_12 : decode b_Mo_four 12 = .ok (.getfield 119, 3) := by sorry
theorem d_Mo_four_15 : decode b_Mo_four 15 = .ok (.iload_n 1, 1) := by sorry
theorem d_Mo_four_16 : decode b_Mo_four 16 = .ok (.iload_n 2, 1) := by sorry
theorem d_Mo_four_17 : decode b_Mo_four 17 = .ok (.ishr, 1) := by sorry
theorem d_Mo_four_18 : decode b_Mo_four 18 = .ok (.i2b, 1) := by sorry
theorem d_Mo_four_19 : decode b_Mo_four 19 = .ok (.bastore, 1) := by sorry
theorem d_Mo_four_20 : decode b_Mo_four 20 = .ok (.aload_n 0, 1) := by sorry
theorem d_Mo_four_21 : decode b_Mo_four 21 = .ok (.dup, 1) := by sorry
theorem d_Mo_four_22 : decode b_Mo_four 22 = .ok (.getfield 119, 3) := by sorry
theorem d_Mo_four_25 : decode b_Mo_four 25 = .ok (.iconst 1, 1) := by sorry
theorem d_Mo_four_26 : decode b_Mo_four 26 = .ok (.iadd, 1) := by sorry
theorem d_Mo_four_27 : decode b_Mo_four 27 = .ok (.putfield 119, 3) := by sorry
theorem d_Mo_four_30 : decode b_Mo_four 30 = .ok (.iinc 2 (-8), 3) := by sorry
theorem d_Mo_four_33 : decode b_Mo_four 33 = .ok (.goto (-30), 3) := by sorry
theorem d_Mo_four_36 : decode b_Mo_four 36 = .ok (.return_, 1) := by sorry
set_option maxHeartbeats 4000000 in
set_option maxRecDepth 100000 in
/-- four(x) -/
theorem c_Mo_four (l : Launch) (dC : Nat → ClassId) (dI : Nat → Nat → Nat) (mo : Nat) (sz : Heap) (v : Nat → Value) (cB : ClassId) (qt : Nat) (f : Nat → Int32) (n : Nat) (x : Int32) (hn0 : n + 4 ≤ 4096) (h0 : v 0 = .ref qt) (h1 : v 1 = .int (nI n)) : Met l y_Mo_four (k_Mo_four :: gtbl) ({ frames := 0, cells := 0, slots := 0, locals := 0 }) (va_Pc [.ref mo, .int x] (mp dC dI [(mo, .inr (13, MF 30 v)), (qt, .inl (cB, 4096, .inl f))] [(cB, .byte)] sz)) (va_Qv (fun (_ : Unit) => True) (fun _ => mz dC dI [(mo, .inr (13, MF 30 (va_up v 1 (.int (nI (n + 1 + 1 + 1 + 1)))))), (qt, .inl (cB, 4096, .inl (put4 f n x)))] [(cB, .byte)] (va_A [(mo, .inr (13, MF 30 v)), (qt, .inl (cB, 4096, .inl f))] sz.size)) (va_A [(mo, .inr (13, MF 30 v)), (qt, .inl (cB, 4096, .inl f))] sz.size)) 0 0 (va_A [(mo, .inr (13, MF 30 v)), (qt, .inl (cB, 4096, .inl f))] sz.size) := by sorry
abbrev b_Mo_feed : ByteArray := prog_14_method_7_code
def y_Mo_feed : MethodName := ⟨"QueryBenchModel", "feed", "(IIIII)I"⟩
abbrev k_Mo_feed : Cond := .code y_Mo_feed b_Mo_feed 6 (some .int)
theorem i_Mo_feed : k_Mo_feed ∈ gtbl := by sorry
theorem d_Mo_feed_0 : decode b_Mo_feed 0 = .ok (.aload_n 0, 1) := by sorry
theorem d_Mo_feed_1 : decode b_Mo_feed 1 = .ok (.aload_n 0, 1) := by sorry
theorem d_Mo_feed_2 : decode b_Mo_feed 2 = .ok (.getfield 119, 3) := by sorry
theorem d_Mo_feed_5 : decode b_Mo_feed 5 = .ok (.bipush 20, 2) := by sorry
theorem d_Mo_feed_7 : decode b_Mo_feed 7 = .ok (.iadd, 1) := by sorry
theorem d_Mo_feed_8 : decode b_Mo_feed 8 = .ok (.sipush 4096, 3) := by sorry
theorem d_Mo_feed_11 : decode b_Mo_feed 11 = .ok (.if_icmp .gt 7, 3) := by sorry
theorem d_Mo_feed_14 : decode b_Mo_feed 14 = .ok (.iconst 1, 1) := by sorry
theorem d_Mo_feed_15 : decode b_Mo_feed 15 = .ok (.goto 4, 3) := by sorry
theorem d_Mo_feed_18 : decode b_Mo_feed 18 = .ok (.iconst 0, 1) := by sorry
theorem d_Mo_feed_19 : decode b_Mo_feed 19 = .ok (.iconst 1, 1) := by sorry
theorem d_Mo_feed_20 : decode b_Mo_feed 20 = .ok (.invokevirtual 122, 3) := by sorry
theorem d_Mo_feed_23 : decode b_Mo_feed 23 = .ok (.ifCond .ne 5, 3) := by sorry
theorem d_Mo_feed_26 : decode b_Mo_feed 26 = .ok (.iconst 0, 1) := by sorry
theorem d_Mo_feed_27 : decode b_Mo_feed 27 = .ok (.ireturn, 1) := by sorry
theorem d_Mo_feed_28 : decode b_Mo_feed 28 = .ok (.aload_n 0, 1) := by sorry
theorem d_Mo_feed_29 : decode b_Mo_feed 29 = .ok (.iload_n 1, 1) := by sorry
theorem d_Mo_feed_30 : decode b_Mo_feed 30 = .ok (.invokevirtual 126, 3) := by sorry
theorem d_Mo_feed_33 : decode b_Mo_feed 33 = .ok (.aload_n 0, 1) := by sorry
theorem d_Mo_feed_34 : decode b_Mo_feed 34 = .ok (.iload_n 2, 1) := by sorry
theorem d_Mo_feed_35 : decode b_Mo_feed 35 = .ok (.invokevirtual 126, 3) := by sorry
theorem d_Mo_feed_38 : decode b_Mo_feed 38 = .ok (.aload_n 0, 1) := by sorry
theorem d_Mo_feed_39 : decode b_Mo_feed 39 = .ok (.iload_n 3, 1) := by sorry
theorem d_Mo_feed_40 : decode b_Mo_feed 40 = .ok (.invokevirtual 126, 3) := by sorry
theorem d_Mo_feed_43 : decode b_Mo_feed 43 = .ok (.aload_n 0, 1) := by sorry
theorem d_Mo_feed_44 : decode b_Mo_feed 44 = .ok (.iload 4, 2) := by sorry
theorem d_Mo_feed_46 : decode b_Mo_feed 46 = .ok (.invokevirtual 126, 3) := by sorry
theorem d_Mo_feed_49 : decode b_Mo_feed 49 = .ok (.aload_n 0, 1) := by sorry
theorem d_Mo_feed_50 : decode b_Mo_feed 50 = .ok (.iload 5, 2) := by sorry
theorem d_Mo_feed_52 : decode b_Mo_feed 52 = .ok (.invokevirtual 126, 3) := by sorry
theorem d_Mo_feed_55 : decode b_Mo_feed 55 = .ok (.aload_n 0, 1) := by sorry
theorem d_Mo_feed_56 : decode b_Mo_feed 56 = .ok (.getfield 119, 3) := by sorry
theorem d_Mo_feed_59 : decode b_Mo_feed 59 = .ok (.ireturn, 1) := by sorry
set_option maxHeartbeats 4000000 in
set_option maxRecDepth 100000 in
/-- the reference: feed -/
theorem c_Mo_feed (l : Launch) (dC : Nat → ClassId) (dI : Nat → Nat → Nat) (mo : Nat) (sz : Heap) (v : Nat → Value) (cB : ClassId) (qt : Nat) (f : Nat → Int32) (n : Nat) (a b c_ d e_ : Int32) (hn0 : n ≤ 4096) (h0 : v 0 = .ref qt) (h1 : v 1 = .int (nI n)) : Met l y_Mo_feed (k_Mo_feed :: gtbl) ({ frames := 1, cells := 0, slots := 0, locals := 24 }) (va_Pc [.ref mo, .int a, .int b, .int c_, .int d, .int e_] (mp dC dI [(mo, .inr (13, MF 30 v)), (qt, .inl (cB, 4096, .inl f))] [(cB, .byte)] sz)) (va_Qi (fun (r : Int32) (u : (Nat → Value) × (Nat → Int32)) => (n + 20 ≤ 4096 ∧ r = nI (n + 20) ∧ u = (va_up (va_up v 4 (.int 0)) 1 (.int (nI (n + 20))), feed5 f n a b c_ d e_)) ∨ (¬ n + 20 ≤ 4096 ∧ u = (va_up v 4 (.int 1), f))) (fun u => mz dC dI [(mo, .inr (13, MF 30 u.1)), (qt, .inl (cB, 4096, .inl u.2))] [(cB, .byte)] (va_A [(mo, .inr (13, MF 30 v)), (qt, .inl (cB, 4096, .inl f))] sz.size)) (va_A [(mo, .inr (13, MF 30 v)), (qt, .inl (cB, 4096, .inl f))] sz.size)) 0 0 (va_A [(mo, .inr (13, MF 30 v)), (qt, .inl (cB, 4096, .inl f))] sz.size) := by sorry
end
section
theorem w_15 : (.initialized "java/lang/UnsupportedOperationException" : Cond) ∈ gtbl := by sorry
theorem w_363 : (.instanceMethod ⟨"QueryBench$Tape", "here", "()I"⟩ : Cond) ∈ gtbl := by sorry
theorem w_364 : (.selects "QueryBench$Tape" ⟨"QueryBench$Tape", "here", "()I"⟩ ⟨"QueryBench$Tape", "here", "()I"⟩ : Cond) ∈ gtbl := by sorry
theorem w_371 : (.instanceMethod ⟨"QueryBench$Tape", "fail", "(I)V"⟩ : Cond) ∈ gtbl := by sorry
theorem w_372 : (.selects "QueryBench$Tape" ⟨"QueryBench$Tape", "fail", "(I)V"⟩ ⟨"QueryBench$Tape", "fail", "(I)V"⟩ : Cond) ∈ gtbl := by sorry
theorem w_374 : (.classLink "QueryBench$Tape" 32 "java/lang/UnsupportedOperationException" : Cond) ∈ gtbl := by sorry
theorem w_396 : (.methodLink "QueryBench$Tape" 35 ⟨"QueryBench$Tape", "here", "()I"⟩ : Cond) ∈ gtbl := by sorry
theorem w_413 : (.methodLink "QueryBench$Tape" 39 ⟨"QueryBench$Tape", "fail", "(I)V"⟩ : Cond) ∈ gtbl := by sorry
abbrev b_Tape_fail : ByteArray := prog_10_method_5_code
def y_Tape_fail : MethodName := ⟨"QueryBench$Tape", "fail", "(I)V"⟩
abbrev k_Tape_fail : Cond := .code y_Tape_fail b_Tape_fail 2 none
theorem i_Tape_fail : k_Tape_fail ∈ gtbl := by sorry
theorem d_Tape_fail_0 : decode b_Tape_fail 0 = .ok (.aload_n 0, 1) := by sorry
theorem d_Tape_fail_1 : decode b_Tape_fail 1 = .ok (.iload_n 1, 1) := by sorry
theorem d_Tape_fail_2 : decode b_Tape_fail 2 = .ok (.putfield 19, 3) := by sorry
theorem d_Tape_fail_5 : decode b_Tape_fail 5 = .ok (.new 32, 3) := by sorry
theorem d_Tape_fail_8 : decode b_Tape_fail 8 = .ok (.dup, 1) := by sorry
theorem d_Tape_fail_9 : decode b_Tape_fail 9 = .ok (.invokespecial 34, 3) := by sorry
theorem d_Tape_fail_12 : decode b_Tape_fail 12 = .ok (.athrow, 1) := by sorry
theorem xa_Tape_fail_5 : ∀ w ∈ vx_at0 R_Tape 34 "java/lang/UnsupportedOperationException" ["java/lang/RuntimeException", "java/lang/Exception"], (goodWord w = true ∧ w ∈ lw_tbl) ∨ w ∈ nwl := by sorry
theorem xa_Tape_fail_5_g : ∀ w ∈ Cond.classLink R_Tape 32 "java/lang/UnsupportedOperationException" :: Cond.initialized "java/lang/UnsupportedOperationException" :: vx_at0 R_Tape 34 "java/lang/UnsupportedOperationException" ["java/lang/RuntimeException", "java/lang/Exception"], vx_ot w = true := by sorry
set_option maxHeartbeats 4000000 in
set_option maxRecDepth 100000 in
/-- Tape.fail(where): it throws -/
theorem c_Tape_fail (l : Launch) (hl9 : l.stackTraces = false) (dC : Nat → ClassId) (dI : Nat → Nat → Nat) (cB : ClassId) (h0 qb : Nat) (sz : Heap) (ru : Value) (uc ln en at_ pl : Int32) (f : Nat → Int32) (wh : Int32) : vx_Met l y_Tape_fail (k_Tape_fail :: gtbl) ({ frames := 8, cells := 1, slots := 6, locals := 110 }) (va_Pc [.ref h0, .int wh] (mx dC dI [(h0, .inr (8, [.ref qb, ru, .int uc, .int ln, .int en, .int at_, .int pl])), (qb, .inl (cB, 4096, .inl f))] [(cB, .byte)] sz)) (va_Qv (fun (_ : Unit) => False) (fun _ t => mz dC dI [(h0, .inr (8, [.ref qb, ru, .int uc, .int ln, .int en, .int at_, .int pl])), (qb, .inl (cB, 4096, .inl f))] [(cB, .byte)] (va_A [(h0, .inr (8, [.ref qb, ru, .int uc, .int ln, .int en, .int at_, .int pl])), (qb, .inl (cB, 4096, .inl f))] sz.size) t ∧ szk sz t.heap 0 0) (va_A [(h0, .inr (8, [.ref qb, ru, .int uc, .int ln, .int en, .int at_, .int pl])), (qb, .inl (cB, 4096, .inl f))] sz.size)) (vx_X (fun _ : Unit => True) (fun E _ t => E = "java/lang/UnsupportedOperationException" ∧ mz dC dI [(h0, .inr (8, [.ref qb, ru, .int uc, .int ln, .int en, .int at_, .int wh])), (qb, .inl (cB, 4096, .inl f))] [(cB, .byte)] (va_A [(h0, .inr (8, [.ref qb, ru, .int uc, .int ln, .int en, .int at_, .int pl])), (qb, .inl (cB, 4096, .inl f))] sz.size) t) (va_A [(h0, .inr (8, [.ref qb, ru, .int uc, .int ln, .int en, .int at_, .int pl])), (qb, .inl (cB, 4096, .inl f))] sz.size)) 1 6 (va_A [(h0, .inr (8, [.ref qb, ru, .int uc, .int ln, .int en, .int at_, .int pl])), (qb, .inl (cB, 4096, .inl f))] sz.size) := by sorry
abbrev b_Tape_takeIf : ByteArray := prog_10_method_6_code
def y_Tape_takeIf : MethodName := ⟨"QueryBench$Tape", "takeIf", "(I)Z"⟩
abbrev k_Tape_takeIf : Cond := .code y_Tape_takeIf b_Tape_takeIf 2 (some .boolean)
theorem i_Tape_takeIf : k_Tape_takeIf ∈ gtbl := by sorry
theorem d_Tape_takeIf_0 : decode b_Tape_takeIf 0 = .ok (.aload_n 0, 1) := by sorry
theorem d_Tape_takeIf_1 : decode b_Tape_takeIf 1 = .ok (.invokevirtual 35, 3) := by sorry
theorem d_Tape_takeIf_4 : decode b_Tape_takeIf 4 = .ok (.iload_n 1, 1) := by sorry
theorem d_Tape_takeIf_5 : decode b_Tape_takeIf 5 = .ok (.if_icmp .eq 5, 3) := by sorry
theorem d_Tape_takeIf_8 : decode b_Tape_takeIf 8 = .ok (.iconst 0, 1) := by sorry
theorem d_Tape_takeIf_9 : decode b_Tape_takeIf 9 = .ok (.ireturn, 1) := by sorry
theorem d_Tape_takeIf_10 : decode b_Tape_takeIf 10 = .ok (.aload_n 0, 1) := by sorry
theorem d_Tape_takeIf_11 : decode b_Tape_takeIf 11 = .ok (.dup, 1) := by sorry
theorem d_Tape_takeIf_12 : decode b_Tape_takeIf 12 = .ok (.getfield 29, 3) := by sorry
theorem d_Tape_takeIf_15 : decode b_Tape_takeIf 15 = .ok (.iconst 1, 1) := by sorry
theorem d_Tape_takeIf_16 : decode b_Tape_takeIf 16 = .ok (.iadd, 1) := by sorry
theorem d_Tape_takeIf_17 : decode b_Tape_takeIf 17 = .ok (.putfield 29, 3) := by sorry
theorem d_Tape_takeIf_20 : decode b_Tape_takeIf 20 = .ok (.iconst 1, 1) := by sorry
theorem d_Tape_takeIf_21 : decode b_Tape_takeIf 21 = .ok (.ireturn, 1) := by sorry
set_option maxHeartbeats 4000000 in
set_option maxRecDepth 100000 in
/-- Tape.takeIf -/
theorem c_Tape_takeIf (l : Launch) (dC : Nat → ClassId) (dI : Nat → Nat → Nat) (cB : ClassId) (h0 qb : Nat) (sz : Heap) (ru : Value) (uc ln pl : Int32) (f : Nat → Int32) (n i : Nat) (b : Int32) (hn0 : n ≤ 4096) (hi0 : i ≤ 1000000) : Met l y_Tape_takeIf (k_Tape_takeIf :: gtbl) ({ frames := 1, cells := 0, slots := 0, locals := 20 }) (va_Pc [.ref h0, .int b] (mp dC dI [(h0, .inr (8, [.ref qb, ru, .int uc, .int ln, .int (nI n), .int (nI i), .int pl])), (qb, .inl (cB, 4096, .inl f))] [(cB, .byte)] sz)) (va_Qi (fun (r : Int32) (u : Nat) => (hereV f n i = b ∧ r = 1 ∧ u = i + 1) ∨ (hereV f n i ≠ b ∧ r = 0 ∧ u = i)) (fun u => mz dC dI [(h0, .inr (8, [.ref qb, ru, .int uc, .int ln, .int (nI n), .int (nI u), .int pl])), (qb, .inl (cB, 4096, .inl f))] [(cB, .byte)] (va_A [(h0, .inr (8, [.ref qb, ru, .int uc, .int ln, .int (nI n), .int (nI i), .int pl])), (qb, .inl (cB, 4096, .inl f))] sz.size)) (va_A [(h0, .inr (8, [.ref qb, ru, .int uc, .int ln, .int (nI n), .int (nI i), .int pl])), (qb, .inl (cB, 4096, .inl f))] sz.size)) 0 0 (va_A [(h0, .inr (8, [.ref qb, ru, .int uc, .int ln, .int (nI n), .int (nI i), .int pl])), (qb, .inl (cB, 4096, .inl f))] sz.size) := by sorry
abbrev b_Tape_take : ByteArray := prog_10_method_7_code
def y_Tape_take : MethodName := ⟨"QueryBench$Tape", "take", "(I)V"⟩
abbrev k_Tape_take : Cond := .code y_Tape_take b_Tape_take 2 none
theorem i_Tape_take : k_Tape_take ∈ gtbl := by sorry
theorem d_Tape_take_0 : decode b_Tape_take 0 = .ok (.aload_n 0, 1) := by sorry
theorem d_Tape_take_1 : decode b_Tape_take 1 = .ok (.invokevirtual 35, 3) := by sorry
theorem d_Tape_take_4 : decode b_Tape_take 4 = .ok (.iload_n 1, 1) := by sorry
theorem d_Tape_take_5 : decode b_Tape_take 5 = .ok (.if_icmp .eq 11, 3) := by sorry
theorem d_Tape_take_8 : decode b_Tape_take 8 = .ok (.aload_n 0, 1) := by sorry
theorem d_Tape_take_9 : decode b_Tape_take 9 = .ok (.aload_n 0, 1) := by sorry
theorem d_Tape_take_10 : decode b_Tape_take 10 = .ok (.getfield 29, 3) := by sorry
theorem d_Tape_take_13 : decode b_Tape_take 13 = .ok (.invokevirtual 39, 3) := by sorry
theorem d_Tape_take_16 : decode b_Tape_take 16 = .ok (.aload_n 0, 1) := by sorry
theorem d_Tape_take_17 : decode b_Tape_take 17 = .ok (.dup, 1) := by sorry
theorem d_Tape_take_18 : decode b_Tape_take 18 = .ok (.getfield 29, 3) := by sorry
theorem d_Tape_take_21 : decode b_Tape_take 21 = .ok (.iconst 1, 1) := by sorry
theorem d_Tape_take_22 : decode b_Tape_take 22 = .ok (.iadd, 1) := by sorry
theorem d_Tape_take_23 : decode b_Tape_take 23 = .ok (.putfield 29, 3) := by sorry
theorem d_Tape_take_26 : decode b_Tape_take 26 = .ok (.return_, 1) := by sorry
set_option maxHeartbeats 4000000 in
set_option maxRecDepth 100000 in
/-- Tape.take -/
theorem c_Tape_take (l : Launch) (hl9 : l.stackTraces = false) (dC : Nat → ClassId) (dI : Nat → Nat → Nat) (cB : ClassId) (h0 qb : Nat) (sz : Heap) (ru : Value) (uc ln pl : Int32) (f : Nat → Int32) (n i : Nat) (b : Int32) (hn0 : n ≤ 4096) (hi0 : i ≤ 1000000) : vx_Met l y_Tape_take (k_Tape_take :: gtbl) ({ frames := 9, cells := 1, slots := 6, locals := 131 }) (va_Pc [.ref h0, .int b] (mx dC dI [(h0, .inr (8, [.ref qb, ru, .int uc, .int ln, .int (nI n), .int (nI i), .int pl])), (qb, .inl (cB, 4096, .inl f))] [(cB, .byte)] sz)) (va_Qv (fun (_ : Unit) => hereV f n i = b) (fun _ t => mz dC dI [(h0, .inr (8, [.ref qb, ru, .int uc, .int ln, .int (nI n), .int (nI (i + 1)), .int pl])), (qb, .inl (cB, 4096, .inl f))] [(cB, .byte)] (va_A [(h0, .inr (8, [.ref qb, ru, .int uc, .int ln, .int (nI n), .int (nI i), .int pl])), (qb, .inl (cB, 4096, .inl f))] sz.size) t ∧ szk sz t.heap 0 0) (va_A [(h0, .inr (8, [.ref qb, ru, .int uc, .int ln, .int (nI n), .int (nI i), .int pl])), (qb, .inl (cB, 4096, .inl f))] sz.size)) (vx_X (fun _ : Unit => hereV f n i ≠ b) (fun E _ t => E = "java/lang/UnsupportedOperationException" ∧ mz dC dI [(h0, .inr (8, [.ref qb, ru, .int uc, .int ln, .int (nI n), .int (nI i), .int (nI i)])), (qb, .inl (cB, 4096, .inl f))] [(cB, .byte)] (va_A [(h0, .inr (8, [.ref qb, ru, .int uc, .int ln, .int (nI n), .int (nI i), .int pl])), (qb, .inl (cB, 4096, .inl f))] sz.size) t) (va_A [(h0, .inr (8, [.ref qb, ru, .int uc, .int ln, .int (nI n), .int (nI i), .int pl])), (qb, .inl (cB, 4096, .inl f))] sz.size)) 1 6 (va_A [(h0, .inr (8, [.ref qb, ru, .int uc, .int ln, .int (nI n), .int (nI i), .int pl])), (qb, .inl (cB, 4096, .inl f))] sz.size) := by sorry
end
section
theorem w_45 : (.fieldLink "QueryBench$Tape" 15 "QueryBench$Tape" "units" "[I" : Cond) ∈ gtbl := by sorry
theorem w_46 : (.fieldLink "QueryBench$Tape" 70 "QueryBench$Tape" "unitCount" "I" : Cond) ∈ gtbl := by sorry
/-- a loop: from its head, by a measure that falls -/
theorem w_loop {p : Program} {l : Launch} {e : Env} {R : Room} {s : State} {m : MethodId} {args : Array Value} {below : List Frame} {meth : Method} {c : Code} {Q : State → Prop} {cells slots nL : Nat} {A : Nat → Prop} {H0 : Heap} {D : va_G} {cl : List vw_C} (pc : Nat) {σ : Type} (Inv : σ → Prop) (ms : σ → Nat) (ws : σ → va_W) (lv : σ → List (Nat × Value))
    (step : ∀ (x : σ) (H : Heap) (locs : List Loc) (ls : Array Slot), Inv x → (∀ (y : σ) (H : Heap) (locs : List Loc) (ls : Array Slot), Inv y → ms y < ms x → va_P D cl (ws y) H → va_D A (ws y) → va_S A H0 H locs → lv_has ls nL (lv y) → W p l e R s m args below meth c H locs cells slots Q (F0 m pc ls [])) → va_P D cl (ws x) H → va_D A (ws x) → va_S A H0 H locs → lv_has ls nL (lv x) → W p l e R s m args below meth c H locs cells slots Q (F0 m pc ls []))
    (x : σ) {H : Heap} {locs : List Loc} {ls : Array Slot} (h : Inv x) (hP : va_P D cl (ws x) H) (hD : va_D A (ws x)) (hS : va_S A H0 H locs) (hl : lv_has ls nL (lv x)) : W p l e R s m args below meth c H locs cells slots Q (F0 m pc ls []) := by sorry
def blk (x : Int32) : Bool := x = 32 || x = 9 || x = 10 || x = 13
def skB (f : Nat → Int32) (n : Nat) : Nat → Nat → Nat
  | 0, j => j
  | k + 1, j => if j < n ∧ blk (f j) = true then skB f n k (j + 1) else j
/-- behind the blanks -/
def skipB (f : Nat → Int32) (n i : Nat) : Nat := skB f n (n - i) i
theorem skipB_s {f : Nat → Int32} {n i : Nat} (h : i < n) (hb : blk (f i) = true) : skipB f n i = skipB f n (i + 1) := by sorry
theorem skipB_e {f : Nat → Int32} {n i : Nat} (h : ¬ (i < n ∧ blk (f i) = true)) : skipB f n i = i := by sorry
theorem skB_le (f : Nat → Int32) (n : Nat) : ∀ (k j : Nat), j ≤ skB f n k j ∧ skB f n k j ≤ max j n := by sorry
theorem skipB_le (f : Nat → Int32) (n i : Nat) : i ≤ skipB f n i ∧ skipB f n i ≤ max i n := by sorry
def byteV (f : Nat → Int32) (n i : Nat) : Int32 := if i < n then f i else -1
def hexV (x : Int32) : Int32 := if ¬ x < 48 ∧ ¬ 57 < x then x - 48 else if ¬ x < 97 ∧ ¬ 102 < x then x - 97 + 10 else if ¬ x < 65 ∧ ¬ 70 < x then x - 65 + 10 else -1
def hex4 (f : Nat → Int32) (n : Nat) : Nat → Nat → Int32 → Int32 × Nat
  | 0, j, a => (a, j)
  | k + 1, j, a => if 0 ≤ hexV (byteV f n j) then hex4 f n k (j + 1) (a * 16 + hexV (byteV f n j)) else (-1, j)
theorem hex4_s {f : Nat → Int32} {n k j : Nat} {a d : Int32} (hd : hexV (byteV f n j) = d) (h : 0 ≤ d) : hex4 f n (k + 1) j a = hex4 f n k (j + 1) (a * 16 + d) := by sorry
theorem hex4_f {f : Nat → Int32} {n k j : Nat} {a d : Int32} (hd : hexV (byteV f n j) = d) (h : ¬ 0 ≤ d) : hex4 f n (k + 1) j a = (-1, j) := by sorry
abbrev b_Tape_skipBlanks : ByteArray := prog_10_method_9_code
def y_Tape_skipBlanks : MethodName := ⟨"QueryBench$Tape", "skipBlanks", "()V"⟩
abbrev k_Tape_skipBlanks : Cond := .code y_Tape_skipBlanks b_Tape_skipBlanks 2 none
theorem i_Tape_skipBlanks : k_Tape_skipBlanks ∈ gtbl := by sorry
theorem d_Tape_skipBlanks_0 : decode b_Tape_skipBlanks 0 = .ok (.aload_n 0, 1) := by sorry
theorem d_Tape_skipBlanks_1 : decode b_Tape_skipBlanks 1 = .ok (.getfield 29, 3) := by sorry
theorem d_Tape_skipBlanks_4 : decode b_Tape_skipBlanks 4 = .ok (.aload_n 0, 1) := by sorry
theorem d_Tape_skipBlanks_5 : decode b_Tape_skipBlanks 5 = .ok (.getfield 26, 3) := by sorry
theorem d_Tape_skipBlanks_8 : decode b_Tape_skipBlanks 8 = .ok (.if_icmp .ge 51, 3) := by sorry
theorem d_Tape_skipBlanks_11 : decode b_Tape_skipBlanks 11 = .ok (.aload_n 0, 1) := by sorry
theorem d_Tape_skipBlanks_12 : decode b_Tape_skipBlanks 12 = .ok (.getfield 9, 3) := by sorry
theorem d_Tape_skipBlanks_15 : decode b_Tape_skipBlanks 15 = .ok (.aload_n 0, 1) := by sorry
theorem d_Tape_skipBlanks_16 : decode b_Tape_skipBlanks 16 = .ok (.getfield 29, 3) := by sorry
theorem d_Tape_skipBlanks_19 : decode b_Tape_skipBlanks 19 = .ok (.baload, 1) := by sorry
theorem d_Tape_skipBlanks_20 : decode b_Tape_skipBlanks 20 = .ok (.istore_n 1, 1) := by sorry
theorem d_Tape_skipBlanks_21 : decode b_Tape_skipBlanks 21 = .ok (.iload_n 1, 1) := by sorry
theorem d_Tape_skipBlanks_22 : decode b_Tape_skipBlanks 22 = .ok (.bipush 32, 2) := by sorry
theorem d_Tape_skipBlanks_24 : decode b_Tape_skipBlanks 24 = .ok (.if_icmp .eq 22, 3) := by sorry
theorem d_Tape_skipBlanks_27 : decode b_Tape_skipBlanks 27 = .ok (.iload_n 1, 1) := by sorry
theorem d_Tape_skipBlanks_28 : decode b_Tape_skipBlanks 28 = .ok (.bipush 9, 2) := by sorry
theorem d_Tape_skipBlanks_30 : decode b_Tape_skipBlanks 30 = .ok (.if_icmp .eq 16, 3) := by sorry
theorem d_Tape_skipBlanks_33 : decode b_Tape_skipBlanks 33 = .ok (.iload_n 1, 1) := by sorry
theorem d_Tape_skipBlanks_34 : decode b_Tape_skipBlanks 34 = .ok (.bipush 10, 2) := by sorry
theorem d_Tape_skipBlanks_36 : decode b_Tape_skipBlanks 36 = .ok (.if_icmp .eq 10, 3) := by sorry
theorem d_Tape_skipBlanks_39 : decode b_Tape_skipBlanks 39 = .ok (.iload_n 1, 1) := by sorry
theorem d_Tape_skipBlanks_40 : decode b_Tape_skipBlanks 40 = .ok (.bipush 13, 2) := by sorry
theorem d_Tape_skipBlanks_42 : decode b_Tape_skipBlanks 42 = .ok (.if_icmp .eq 4, 3) := by sorry
theorem d_Tape_skipBlanks_45 : decode b_Tape_skipBlanks 45 = .ok (.return_, 1) := by sorry
theorem d_Tape_skipBlanks_46 : decode b_Tape_skipBlanks 46 = .ok (.aload_n 0, 1) := by sorry
theorem d_Tape_skipBlanks_47 : decode b_Tape_skipBlanks 47 = .ok (.dup, 1) := by sorry
theorem d_Tape_skipBlanks_48 : decode b_Tape_skipBlanks 48 = .ok (.getfield 29, 3) := by sorry
theorem d_Tape_skipBlanks_51 : decode b_Tape_skipBlanks 51 = .ok (.iconst 1, 1) := by sorry
theorem d_Tape_skipBlanks_52 : decode b_Tape_skipBlanks 52 = .ok (.iadd, 1) := by sorry
theorem d_Tape_skipBlanks_53 : decode b_Tape_skipBlanks 53 = .ok (.putfield 29, 3) := by sorry
theorem d_Tape_skipBlanks_56 : decode b_Tape_skipBlanks 56 = .ok (.goto (-56), 3) := by sorry
theorem d_Tape_skipBlanks_59 : decode b_Tape_skipBlanks 59 = .ok (.return_, 1) := by sorry
set_option maxHeartbeats 4000000 in
set_option maxRecDepth 100000 in
/-- Tape.skipBlanks -/
theorem c_Tape_skipBlanks (l : Launch) (dC : Nat → ClassId) (dI : Nat → Nat → Nat) (cB : ClassId) (h0 qb : Nat) (sz : Heap) (ru : Value) (uc ln pl : Int32) (f : Nat → Int32) (n i : Nat) (hn0 : n ≤ 4096) (hi0 : i ≤ 1000000) : Met l y_Tape_skipBlanks (k_Tape_skipBlanks :: gtbl) ({ frames := 0, cells := 0, slots := 0, locals := 0 }) (va_Pc [.ref h0] (mp dC dI [(h0, .inr (8, [.ref qb, ru, .int uc, .int ln, .int (nI n), .int (nI i), .int pl])), (qb, .inl (cB, 4096, .inl f))] [(cB, .byte)] sz)) (va_Qv (fun (_ : Unit) => True) (fun _ => mz dC dI [(h0, .inr (8, [.ref qb, ru, .int uc, .int ln, .int (nI n), .int (nI (skipB f n i)), .int pl])), (qb, .inl (cB, 4096, .inl f))] [(cB, .byte)] (va_A [(h0, .inr (8, [.ref qb, ru, .int uc, .int ln, .int (nI n), .int (nI i), .int pl])), (qb, .inl (cB, 4096, .inl f))] sz.size)) (va_A [(h0, .inr (8, [.ref qb, ru, .int uc, .int ln, .int (nI n), .int (nI i), .int pl])), (qb, .inl (cB, 4096, .inl f))] sz.size)) 0 0 (va_A [(h0, .inr (8, [.ref qb, ru, .int uc, .int ln, .int (nI n), .int (nI i), .int pl])), (qb, .inl (cB, 4096, .inl f))] sz.size) := by sorry
abbrev b_Tape_fourHexDigits : ByteArray := prog_10_method_15_code
def y_Tape_fourHexDigits : MethodName := ⟨"QueryBench$Tape", "fourHexDigits", "()I"⟩
abbrev k_Tape_fourHexDigits : Cond := .code y_Tape_fourHexDigits b_Tape_fourHexDigits 5 (some .int)
theorem i_Tape_fourHexDigits : k_Tape_fourHexDigits ∈ gtbl := by sorry
theorem d_Tape_fourHexDigits_0 : decode b_Tape_fourHexDigits 0 = .ok (.iconst 0, 1) := by sorry
theorem d_Tape_fourHexDigits_1 : decode b_Tape_fourHexDigits 1 = .ok (.istore_n 1, 1) := by sorry
theorem d_Tape_fourHexDigits_2 : decode b_Tape_fourHexDigits 2 = .ok (.iconst 0, 1) := by sorry
theorem d_Tape_fourHexDigits_3 : decode b_Tape_fourHexDigits 3 = .ok (.istore_n 2, 1) := by sorry
theorem d_Tape_fourHexDigits_4 : decode b_Tape_fourHexDigits 4 = .ok (.iload_n 2, 1) := by sorry
theorem d_Tape_fourHexDigits_5 : decode b_Tape_fourHexDigits 5 = .ok (.iconst 4, 1) := by sorry
theorem d_Tape_fourHexDigits_6 : decode b_Tape_fourHexDigits 6 = .ok (.if_icmp .ge 125, 3) := by sorry
theorem d_Tape_fourHexDigits_9 : decode b_Tape_fourHexDigits 9 = .ok (.aload_n 0, 1) := by sorry
theorem d_Tape_fourHexDigits_10 : decode b_Tape_fourHexDigits 10 = .ok (.getfield 29, 3) := by sorry
theorem d_Tape_fourHexDigits_13 : decode b_Tape_fourHexDigits 13 = .ok (.aload_n 0, 1) := by sorry
theorem d_Tape_fourHexDigits_14 : decode b_Tape_fourHexDigits 14 = .ok (.getfield 26, 3) := by sorry
theorem d_Tape_fourHexDigits_17 : decode b_Tape_fourHexDigits 17 = .ok (.if_icmp .ge 15, 3) := by sorry
theorem d_Tape_fourHexDigits_20 : decode b_Tape_fourHexDigits 20 = .ok (.aload_n 0, 1) := by sorry
theorem d_Tape_fourHexDigits_21 : decode b_Tape_fourHexDigits 21 = .ok (.getfield 9, 3) := by sorry
theorem d_Tape_fourHexDigits_24 : decode b_Tape_fourHexDigits 24 = .ok (.aload_n 0, 1) := by sorry
theorem d_Tape_fourHexDigits_25 : decode b_Tape_fourHexDigits 25 = .ok (.getfield 29, 3) := by sorry
theorem d_Tape_fourHexDigits_28 : decode b_Tape_fourHexDigits 28 = .ok (.baload, 1) := by sorry
theorem d_Tape_fourHexDigits_29 : decode b_Tape_fourHexDigits 29 = .ok (.goto 4, 3) := by sorry
theorem d_Tape_fourHexDigits_32 : decode b_Tape_fourHexDigits 32 = .ok (.iconst (-1), 1) := by sorry
theorem d_Tape_fourHexDigits_33 : decode b_Tape_fourHexDigits 33 = .ok (.istore_n 3, 1) := by sorry
theorem d_Tape_fourHexDigits_34 : decode b_Tape_fourHexDigits 34 = .ok (.iload_n 3, 1) := by sorry
theorem d_Tape_fourHexDigits_35 : decode b_Tape_fourHexDigits 35 = .ok (.bipush 48, 2) := by sorry
theorem d_Tape_fourHexDigits_37 : decode b_Tape_fourHexDigits 37 = .ok (.if_icmp .lt 16, 3) := by sorry
theorem d_Tape_fourHexDigits_40 : decode b_Tape_fourHexDigits 40 = .ok (.iload_n 3, 1) := by sorry
theorem d_Tape_fourHexDigits_41 : decode b_Tape_fourHexDigits 41 = .ok (.bipush 57, 2) := by sorry
theorem d_Tape_fourHexDigits_43 : decode b_Tape_fourHexDigits 43 = .ok (.if_icmp .gt 10, 3) := by sorry
theorem d_Tape_fourHexDigits_46 : decode b_Tape_fourHexDigits 46 = .ok (.iload_n 3, 1) := by sorry
theorem d_Tape_fourHexDigits_47 : decode b_Tape_fourHexDigits 47 = .ok (.bipush 48, 2) := by sorry
theorem d_Tape_fourHexDigits_49 : decode b_Tape_fourHexDigits 49 = .ok (.isub, 1) := by sorry
theorem d_Tape_fourHexDigits_50 : decode b_Tape_fourHexDigits 50 = .ok (.goto 48, 3) := by sorry
theorem d_Tape_fourHexDigits_53 : decode b_Tape_fourHexDigits 53 = .ok (.iload_n 3, 1) := by sorry
theorem d_Tape_fourHexDigits_54 : decode b_Tape_fourHexDigits 54 = .ok (.bipush 97, 2) := by sorry
theorem d_Tape_fourHexDigits_56 : decode b_Tape_fourHexDigits 56 = .ok (.if_icmp .lt 19, 3) := by sorry
theorem d_Tape_fourHexDigits_59 : decode b_Tape_fourHexDigits 59 = .ok (.iload_n 3, 1) := by sorry
theorem d_Tape_fourHexDigits_60 : decode b_Tape_fourHexDigits 60 = .ok (.bipush 102, 2) := by sorry
theorem d_Tape_fourHexDigits_62 : decode b_Tape_fourHexDigits 62 = .ok (.if_icmp .gt 13, 3) := by sorry
theorem d_Tape_fourHexDigits_65 : decode b_Tape_fourHexDigits 65 = .ok (.iload_n 3, 1) := by sorry
theorem d_Tape_fourHexDigits_66 : decode b_Tape_fourHexDigits 66 = .ok (.bipush 97, 2) := by sorry
theorem d_Tape_fourHexDigits_68 : decode b_Tape_fourHexDigits 68 = .ok (.isub, 1) := by sorry
theorem d_Tape_fourHexDigits_69 : decode b_Tape_fourHexDigits 69 = .ok (.bipush 10, 2) := by sorry
theorem d_Tape_fourHexDigits_71 : decode b_Tape_fourHexDigits 71 = .ok (.iadd, 1) := by sorry
theorem d_Tape_fourHexDigits_72 : decode b_Tape_fourHexDigits 72 = .ok (.goto 26, 3) := by sorry
theorem d_Tape_fourHexDigits_75 : decode b_Tape_fourHexDigits 75 = .ok (.iload_n 3, 1) := by sorry
theorem d_Tape_fourHexDigits_76 : decode b_Tape_fourHexDigits 76 = .ok (.bipush 65, 2) := by sorry
theorem d_Tape_fourHexDigits_78 : decode b_Tape_fourHexDigits 78 = .ok (.if_icmp .lt 19, 3) := by sorry
theorem d_Tape_fourHexDigits_81 : decode b_Tape_fourHexDigits 81 = .ok (.iload_n 3, 1) := by sorry
theorem d_Tape_fourHexDigits_82 : decode b_Tape_fourHexDigits 82 = .ok (.bipush 70, 2) := by sorry
theorem d_Tape_fourHexDigits_84 : decode b_Tape_fourHexDigits 84 = .ok (.if_icmp .gt 13, 3) := by sorry
theorem d_Tape_fourHexDigits_87 : decode b_Tape_fourHexDigits 87 = .ok (.iload_n 3, 1) := by sorry
theorem d_Tape_fourHexDigits_88 : decode b_Tape_fourHexDigits 88 = .ok (.bipush 65, 2) := by sorry
theorem d_Tape_fourHexDigits_90 : decode b_Tape_fourHexDigits 90 = .ok (.isub, 1) := by sorry
theorem d_Tape_fourHexDigits_91 : decode b_Tape_fourHexDigits 91 = .ok (.bipush 10, 2) := by sorry
theorem d_Tape_fourHexDigits_93 : decode b_Tape_fourHexDigits 93 = .ok (.iadd, 1) := by sorry
theorem d_Tape_fourHexDigits_94 : decode b_Tape_fourHexDigits 94 = .ok (.goto 4, 3) := by sorry
theorem d_Tape_fourHexDigits_97 : decode b_Tape_fourHexDigits 97 = .ok (.iconst (-1), 1) := by sorry
theorem d_Tape_fourHexDigits_98 : decode b_Tape_fourHexDigits 98 = .ok (.istore 4, 2) := by sorry
theorem d_Tape_fourHexDigits_100 : decode b_Tape_fourHexDigits 100 = .ok (.iload 4, 2) := by sorry
theorem d_Tape_fourHexDigits_102 : decode b_Tape_fourHexDigits 102 = .ok (.ifCond .ge 5, 3) := by sorry
theorem d_Tape_fourHexDigits_105 : decode b_Tape_fourHexDigits 105 = .ok (.iconst (-1), 1) := by sorry
theorem d_Tape_fourHexDigits_106 : decode b_Tape_fourHexDigits 106 = .ok (.ireturn, 1) := by sorry
theorem d_Tape_fourHexDigits_107 : decode b_Tape_fourHexDigits 107 = .ok (.iload_n 1, 1) := by sorry
theorem d_Tape_fourHexDigits_108 : decode b_Tape_fourHexDigits 108 = .ok (.bipush 16, 2) := by sorry
theorem d_Tape_fourHexDigits_110 : decode b_Tape_fourHexDigits 110 = .ok (.imul, 1) := by sorry
theorem d_Tape_fourHexDigits_111 : decode b_Tape_fourHexDigits 111 = .ok (.iload 4, 2) := by sorry
theorem d_Tape_fourHexDigits_113 : decode b_Tape_fourHexDigits 113 = .ok (.iadd, 1) := by sorry
theorem d_Tape_fourHexDigits_114 : decode b_Tape_fourHexDigits 114 = .ok (.istore_n 1, 1) := by sorry
theorem d_Tape_fourHexDigits_115 : decode b_Tape_fourHexDigits 115 = .ok (.aload_n 0, 1) := by sorry
theorem d_Tape_fourHexDigits_116 : decode b_Tape_fourHexDigits 116 = .ok (.dup, 1) := by sorry
theorem d_Tape_fourHexDigits_117 : decode b_Tape_fourHexDigits 117 = .ok (.getfield 29, 3) := by sorry
theorem d_Tape_fourHexDigits_120 : decode b_Tape_fourHexDigits 120 = .ok (.iconst 1, 1) := by sorry
theorem d_Tape_fourHexDigits_121 : decode b_Tape_fourHexDigits 121 = .ok (.iadd, 1) := by sorry
theorem d_Tape_fourHexDigits_122 : decode b_Tape_fourHexDigits 122 = .ok (.putfield 29, 3) := by sorry
theorem d_Tape_fourHexDigits_125 : decode b_Tape_fourHexDigits 125 = .ok (.iinc 2 1, 3) := by sorry
theorem d_Tape_fourHexDigits_128 : decode b_Tape_fourHexDigits 128 = .ok (.goto (-124), 3) := by sorry
theorem d_Tape_fourHexDigits_131 : decode b_Tape_fourHexDigits 131 = .ok (.iload_n 1, 1) := by sorry
theorem d_Tape_fourHexDigits_132 : decode b_Tape_fourHexDigits 132 = .ok (.ireturn, 1) := by sorry
set_option maxHeartbeats 4000000 in
set_option maxRecDepth 100000 in
/-- Tape.fourHexDigits -/
theorem c_Tape_fourHexDigits (l : Launch) (dC : Nat → ClassId) (dI : Nat → Nat → Nat) (cB : ClassId) (h0 qb : Nat) (sz : Heap) (ru : Value) (uc ln pl : Int32) (f : Nat → Int32) (n i : Nat) (hn0 : n ≤ 4096) (hi0 : i ≤ 1000000) : Met l y_Tape_fourHexDigits (k_Tape_fourHexDigits :: gtbl) ({ frames := 0, cells := 0, slots := 0, locals := 0 }) (va_Pc [.ref h0] (mp dC dI [(h0, .inr (8, [.ref qb, ru, .int uc, .int ln, .int (nI n), .int (nI i), .int pl])), (qb, .inl (cB, 4096, .inl f))] [(cB, .byte)] sz)) (va_Qi (fun (r : Int32) (u : Nat) => (r, u) = hex4 f n 4 i 0) (fun u => mz dC dI [(h0, .inr (8, [.ref qb, ru, .int uc, .int ln, .int (nI n), .int (nI u), .int pl])), (qb, .inl (cB, 4096, .inl f))] [(cB, .byte)] (va_A [(h0, .inr (8, [.ref qb, ru, .int uc, .int ln, .int (nI n), .int (nI i), .int pl])), (qb, .inl (cB, 4096, .inl f))] sz.size)) (va_A [(h0, .inr (8, [.ref qb, ru, .int uc, .int ln, .int (nI n), .int (nI i), .int pl])), (qb, .inl (cB, 4096, .inl f))] sz.size)) 0 0 (va_A [(h0, .inr (8, [.ref qb, ru, .int uc, .int ln, .int (nI n), .int (nI i), .int pl])), (qb, .inl (cB, 4096, .inl f))] sz.size) := by sorry
abbrev b_Tape_keep : ByteArray := prog_10_method_13_code
def y_Tape_keep : MethodName := ⟨"QueryBench$Tape", "keep", "(I)V"⟩
abbrev k_Tape_keep : Cond := .code y_Tape_keep b_Tape_keep 2 none
theorem i_Tape_keep : k_Tape_keep ∈ gtbl := by sorry
theorem d_Tape_keep_0 : decode b_Tape_keep 0 = .ok (.aload_n 0, 1) := by sorry
theorem d_Tape_keep_1 : decode b_Tape_keep 1 = .ok (.getfield 70, 3) := by sorry
theorem d_Tape_keep_4 : decode b_Tape_keep 4 = .ok (.aload_n 0, 1) := by sorry
theorem d_Tape_keep_5 : decode b_Tape_keep 5 = .ok (.getfield 15, 3) := by sorry
theorem d_Tape_keep_8 : decode b_Tape_keep 8 = .ok (.arraylength, 1) := by sorry
theorem d_Tape_keep_9 : decode b_Tape_keep 9 = .ok (.if_icmp .ge 23, 3) := by sorry
theorem d_Tape_keep_12 : decode b_Tape_keep 12 = .ok (.aload_n 0, 1) := by sorry
theorem d_Tape_keep_13 : decode b_Tape_keep 13 = .ok (.getfield 15, 3) := by sorry
theorem d_Tape_keep_16 : decode b_Tape_keep 16 = .ok (.aload_n 0, 1) := by sorry
theorem d_Tape_keep_17 : decode b_Tape_keep 17 = .ok (.getfield 70, 3) := by sorry
theorem d_Tape_keep_20 : decode b_Tape_keep 20 = .ok (.iload_n 1, 1) := by sorry
theorem d_Tape_keep_21 : decode b_Tape_keep 21 = .ok (.iastore, 1) := by sorry
theorem d_Tape_keep_22 : decode b_Tape_keep 22 = .ok (.aload_n 0, 1) := by sorry
theorem d_Tape_keep_23 : decode b_Tape_keep 23 = .ok (.dup, 1) := by sorry
theorem d_Tape_keep_24 : decode b_Tape_keep 24 = .ok (.getfield 70, 3) := by sorry
theorem d_Tape_keep_27 : decode b_Tape_keep 27 = .ok (.iconst 1, 1) := by sorry
theorem d_Tape_keep_28 : decode b_Tape_keep 28 = .ok (.iadd, 1) := by sorry
theorem d_Tape_keep_29 : decode b_Tape_keep 29 = .ok (.putfield 70, 3) := by sorry
theorem d_Tape_keep_32 : decode b_Tape_keep 32 = .ok (.return_, 1) := by sorry
set_option maxHeartbeats 4000000 in
set_option maxRecDepth 100000 in
/-- Tape.keep -/
theorem c_Tape_keep (l : Launch) (dC : Nat → ClassId) (dI : Nat → Nat → Nat) (cI : ClassId) (h0 qu : Nat) (sz : Heap) (rb : Value) (ln en at_ pl : Int32) (g : Nat → Int32) (k : Nat) (x : Int32) (hk0 : k ≤ 4096) : Met l y_Tape_keep (k_Tape_keep :: gtbl) ({ frames := 0, cells := 0, slots := 0, locals := 0 }) (va_Pc [.ref h0, .int x] (mp dC dI [(h0, .inr (8, [rb, .ref qu, .int (nI k), .int ln, .int en, .int at_, .int pl])), (qu, .inl (cI, 4096, .inl g))] [(cI, .int)] sz)) (va_Qv (fun (u : Nat × (Nat → Int32)) => (k < 4096 ∧ u = (k + 1, upd g k x)) ∨ (4096 ≤ k ∧ u = (k, g))) (fun u => mz dC dI [(h0, .inr (8, [rb, .ref qu, .int (nI u.1), .int ln, .int en, .int at_, .int pl])), (qu, .inl (cI, 4096, .inl u.2))] [(cI, .int)] (va_A [(h0, .inr (8, [rb, .ref qu, .int (nI k), .int ln, .int en, .int at_, .int pl])), (qu, .inl (cI, 4096, .inl g))] sz.size)) (va_A [(h0, .inr (8, [rb, .ref qu, .int (nI k), .int ln, .int en, .int at_, .int pl])), (qu, .inl (cI, 4096, .inl g))] sz.size)) 0 0 (va_A [(h0, .inr (8, [rb, .ref qu, .int (nI k), .int ln, .int en, .int at_, .int pl])), (qu, .inl (cI, 4096, .inl g))] sz.size) := by sorry
end
section
theorem w_422 : (.methodLink "QueryBench$Tape" 95 ⟨"QueryBench$Tape", "fourHexDigits", "()I"⟩ : Cond) ∈ gtbl := by sorry
theorem w_424 : (.instanceMethod ⟨"QueryBench$Tape", "fourHexDigits", "()I"⟩ : Cond) ∈ gtbl := by sorry
def escC (x : Int32) : Int32 := if x = 98 then 8 else if x = 116 then 9 else if x = 110 then 10 else if x = 102 then 12 else if x = 114 then 13 else -1
/-- what a \\ at i stands for (or -1), and where it ends -/
def escV (f : Nat → Int32) (n i : Nat) (q : Int32) : Int32 × Nat := if hereV f n (i + 1) = q ∨ hereV f n (i + 1) = 92 ∨ hereV f n (i + 1) = 47 then (hereV f n (i + 1), i + 1 + 1) else if hereV f n (i + 1) = 117 then hex4 f n 4 (i + 1 + 1) 0 else (escC (hereV f n (i + 1)), i + 1 + 1)
theorem escC_out {x : Int32} (h : x.toInt < 98 ∨ 117 < x.toInt) : escC x = -1 ∧ ¬ x = 117 := by sorry
abbrev b_Tape_escape : ByteArray := prog_10_method_14_code
def y_Tape_escape : MethodName := ⟨"QueryBench$Tape", "escape", "(I)I"⟩
abbrev k_Tape_escape : Cond := .code y_Tape_escape b_Tape_escape 3 (some .int)
theorem i_Tape_escape : k_Tape_escape ∈ gtbl := by sorry
theorem d_Tape_escape_0 : decode b_Tape_escape 0 = .ok (.aload_n 0, 1) := by sorry
theorem d_Tape_escape_1 : decode b_Tape_escape 1 = .ok (.dup, 1) := by sorry
theorem d_Tape_escape_2 : decode b_Tape_escape 2 = .ok (.getfield 29, 3) := by sorry
theorem d_Tape_escape_5 : decode b_Tape_escape 5 = .ok (.iconst 1, 1) := by sorry
theorem d_Tape_escape_6 : decode b_Tape_escape 6 = .ok (.iadd, 1) := by sorry
theorem d_Tape_escape_7 : decode b_Tape_escape 7 = .ok (.putfield 29, 3) := by sorry
theorem d_Tape_escape_10 : decode b_Tape_escape 10 = .ok (.aload_n 0, 1) := by sorry
theorem d_Tape_escape_11 : decode b_Tape_escape 11 = .ok (.invokevirtual 35, 3) := by sorry
theorem d_Tape_escape_14 : decode b_Tape_escape 14 = .ok (.istore_n 2, 1) := by sorry
theorem d_Tape_escape_15 : decode b_Tape_escape 15 = .ok (.aload_n 0, 1) := by sorry
theorem d_Tape_escape_16 : decode b_Tape_escape 16 = .ok (.dup, 1) := by sorry
theorem d_Tape_escape_17 : decode b_Tape_escape 17 = .ok (.getfield 29, 3) := by sorry
theorem d_Tape_escape_20 : decode b_Tape_escape 20 = .ok (.iconst 1, 1) := by sorry
theorem d_Tape_escape_21 : decode b_Tape_escape 21 = .ok (.iadd, 1) := by sorry
theorem d_Tape_escape_22 : decode b_Tape_escape 22 = .ok (.putfield 29, 3) := by sorry
theorem d_Tape_escape_25 : decode b_Tape_escape 25 = .ok (.iload_n 2, 1) := by sorry
theorem d_Tape_escape_26 : decode b_Tape_escape 26 = .ok (.iload_n 1, 1) := by sorry
theorem d_Tape_escape_27 : decode b_Tape_escape 27 = .ok (.if_icmp .eq 15, 3) := by sorry
theorem d_Tape_escape_30 : decode b_Tape_escape 30 = .ok (.iload_n 2, 1) := by sorry
theorem d_Tape_escape_31 : decode b_Tape_escape 31 = .ok (.bipush 92, 2) := by sorry
theorem d_Tape_escape_33 : decode b_Tape_escape 33 = .ok (.if_icmp .eq 9, 3) := by sorry
theorem d_Tape_escape_36 : decode b_Tape_escape 36 = .ok (.iload_n 2, 1) := by sorry
theorem d_Tape_escape_37 : decode b_Tape_escape 37 = .ok (.bipush 47, 2) := by sorry
theorem d_Tape_escape_39 : decode b_Tape_escape 39 = .ok (.if_icmp .ne 5, 3) := by sorry
theorem d_Tape_escape_42 : decode b_Tape_escape 42 = .ok (.iload_n 2, 1) := by sorry
theorem d_Tape_escape_43 : decode b_Tape_escape 43 = .ok (.ireturn, 1) := by sorry
theorem d_Tape_escape_44 : decode b_Tape_escape 44 = .ok (.iload_n 2, 1) := by sorry
theorem d_Tape_escape_45 : decode b_Tape_escape 45 = .ok (.tableswitch 115 98 117 #[95, 115, 115, 115, 104, 115, 115, 115, 115, 115, 115, 115, 101, 115, 115, 115, 107, 115, 98, 110], 95) := by sorry
theorem d_Tape_escape_140 : decode b_Tape_escape 140 = .ok (.bipush 8, 2) := by sorry
theorem d_Tape_escape_142 : decode b_Tape_escape 142 = .ok (.ireturn, 1) := by sorry
theorem d_Tape_escape_143 : decode b_Tape_escape 143 = .ok (.bipush 9, 2) := by sorry
theorem d_Tape_escape_145 : decode b_Tape_escape 145 = .ok (.ireturn, 1) := by sorry
theorem d_Tape_escape_146 : decode b_Tape_escape 146 = .ok (.bipush 10, 2) := by sorry
theorem d_Tape_escape_148 : decode b_Tape_escape 148 = .ok (.ireturn, 1) := by sorry
theorem d_Tape_escape_149 : decode b_Tape_escape 149 = .ok (.bipush 12, 2) := by sorry
theorem d_Tape_escape_151 : decode b_Tape_escape 151 = .ok (.ireturn, 1) := by sorry
theorem d_Tape_escape_152 : decode b_Tape_escape 152 = .ok (.bipush 13, 2) := by sorry
theorem d_Tape_escape_154 : decode b_Tape_escape 154 = .ok (.ireturn, 1) := by sorry
theorem d_Tape_escape_155 : decode b_Tape_escape 155 = .ok (.aload_n 0, 1) := by sorry
theorem d_Tape_escape_156 : decode b_Tape_escape 156 = .ok (.invokevirtual 95, 3) := by sorry
theorem d_Tape_escape_159 : decode b_Tape_escape 159 = .ok (.ireturn, 1) := by sorry
theorem d_Tape_escape_160 : decode b_Tape_escape 160 = .ok (.iconst (-1), 1) := by sorry
theorem d_Tape_escape_161 : decode b_Tape_escape 161 = .ok (.ireturn, 1) := by sorry
set_option maxHeartbeats 4000000 in
set_option maxRecDepth 100000 in
/-- Tape.escape -/
theorem c_Tape_escape (l : Launch) (dC : Nat → ClassId) (dI : Nat → Nat → Nat) (cB : ClassId) (h0 qb : Nat) (sz : Heap) (ru : Value) (uc ln pl : Int32) (f : Nat → Int32) (n i : Nat) (q : Int32) (hn0 : n ≤ 4096) (hi0 : i ≤ 900000) : Met l y_Tape_escape (k_Tape_escape :: gtbl) ({ frames := 1, cells := 0, slots := 0, locals := 24 }) (va_Pc [.ref h0, .int q] (mp dC dI [(h0, .inr (8, [.ref qb, ru, .int uc, .int ln, .int (nI n), .int (nI i), .int pl])), (qb, .inl (cB, 4096, .inl f))] [(cB, .byte)] sz)) (va_Qi (fun (r : Int32) (u : Nat) => (r, u) = escV f n i q) (fun u => mz dC dI [(h0, .inr (8, [.ref qb, ru, .int uc, .int ln, .int (nI n), .int (nI u), .int pl])), (qb, .inl (cB, 4096, .inl f))] [(cB, .byte)] (va_A [(h0, .inr (8, [.ref qb, ru, .int uc, .int ln, .int (nI n), .int (nI i), .int pl])), (qb, .inl (cB, 4096, .inl f))] sz.size)) (va_A [(h0, .inr (8, [.ref qb, ru, .int uc, .int ln, .int (nI n), .int (nI i), .int pl])), (qb, .inl (cB, 4096, .inl f))] sz.size)) 0 0 (va_A [(h0, .inr (8, [.ref qb, ru, .int uc, .int ln, .int (nI n), .int (nI i), .int pl])), (qb, .inl (cB, 4096, .inl f))] sz.size) := by sorry
end
section
theorem w_1 : (.initialized "QueryBench" : Cond) ∈ gtbl := by sorry
theorem w_16 : (.initialized "java/lang/Math" : Cond) ∈ gtbl := by sorry
theorem w_510 : (.static ⟨"QueryBench", "isDigit", "(I)Z"⟩ : Cond) ∈ gtbl := by sorry
theorem w_517 : (.constantLong "QueryBench$Tape" 58 10 : Cond) ∈ gtbl := by sorry
theorem w_518 : (.constantLong "QueryBench$Tape" 60 9007199254740992 : Cond) ∈ gtbl := by sorry
theorem w_519 : (.methodLink "QueryBench$Tape" 62 ⟨"java/lang/Math", "min", "(JJ)J"⟩ : Cond) ∈ gtbl := by sorry
theorem w_520 : (.static ⟨"java/lang/Math", "min", "(JJ)J"⟩ : Cond) ∈ gtbl := by sorry
theorem w_522 : (.constantLong "QueryBench$Tape" 68 9007199254740991 : Cond) ∈ gtbl := by sorry
theorem nl_516 : (.methodLinkNest "QueryBench$Tape" 54 ⟨"QueryBench", "isDigit", "(I)Z"⟩ "QueryBench" : Cond) ∈ nwl := by sorry
def minL (x : Int64) : Int64 := if 9007199254740992 < x then 9007199254740992 else x
def digS (f : Nat → Int32) (n : Nat) : Nat → Nat → Int64 → Int64 × Nat
  | 0, j, a => (a, j)
  | k + 1, j, a => if j < n ∧ 48 ≤ f j ∧ f j ≤ 57 then digS f n k (j + 1) (minL (a * 10 + (f j - 48).toInt64)) else (a, j)
/-- the digits from i on: their number (cut above 2^53 - 1), and where they end -/
def digR (f : Nat → Int32) (n i : Nat) : Int64 × Nat := digS f n (n - i) i 0
theorem digS_s {f : Nat → Int32} {n j : Nat} {a : Int64} (h : j < n) (hd : 48 ≤ f j ∧ f j ≤ 57) : digS f n (n - j) j a = digS f n (n - (j + 1)) (j + 1) (minL (a * 10 + (f j - 48).toInt64)) := by sorry
theorem digS_e {f : Nat → Int32} {n j : Nat} {a : Int64} (h : ¬ (j < n ∧ 48 ≤ f j ∧ f j ≤ 57)) : digS f n (n - j) j a = (a, j) := by sorry
theorem w_minl : Cond.code Lib.MathLoose.min_long.x Lib.MathLoose.min_long.code 4 (some .long) ∈ gtbl := by sorry
abbrev b_Tape_digits : ByteArray := prog_10_method_10_code
def y_Tape_digits : MethodName := ⟨"QueryBench$Tape", "digits", "(I)J"⟩
abbrev k_Tape_digits : Cond := .code y_Tape_digits b_Tape_digits 4 (some .long)
theorem i_Tape_digits : k_Tape_digits ∈ gtbl := by sorry
theorem d_Tape_digits_0 : decode b_Tape_digits 0 = .ok (.lconst 0, 1) := by sorry
theorem d_Tape_digits_1 : decode b_Tape_digits 1 = .ok (.lstore_n 2, 1) := by sorry
theorem d_Tape_digits_2 : decode b_Tape_digits 2 = .ok (.aload_n 0, 1) := by sorry
theorem d_Tape_digits_3 : decode b_Tape_digits 3 = .ok (.getfield 29, 3) := by sorry
theorem d_Tape_digits_6 : decode b_Tape_digits 6 = .ok (.aload_n 0, 1) := by sorry
theorem d_Tape_digits_7 : decode b_Tape_digits 7 = .ok (.getfield 26, 3) := by sorry
theorem d_Tape_digits_10 : decode b_Tape_digits 10 = .ok (.if_icmp .ge 57, 3) := by sorry
theorem d_Tape_digits_13 : decode b_Tape_digits 13 = .ok (.aload_n 0, 1) := by sorry
theorem d_Tape_digits_14 : decode b_Tape_digits 14 = .ok (.getfield 9, 3) := by sorry
theorem d_Tape_digits_17 : decode b_Tape_digits 17 = .ok (.aload_n 0, 1) := by sorry
theorem d_Tape_digits_18 : decode b_Tape_digits 18 = .ok (.getfield 29, 3) := by sorry
theorem d_Tape_digits_21 : decode b_Tape_digits 21 = .ok (.baload, 1) := by sorry
theorem d_Tape_digits_22 : decode b_Tape_digits 22 = .ok (.invokestatic 54, 3) := by sorry
theorem d_Tape_digits_25 : decode b_Tape_digits 25 = .ok (.ifCond .eq 42, 3) := by sorry
theorem d_Tape_digits_28 : decode b_Tape_digits 28 = .ok (.lload_n 2, 1) := by sorry
theorem d_Tape_digits_29 : decode b_Tape_digits 29 = .ok (.ldc2_w 58, 3) := by sorry
theorem d_Tape_digits_32 : decode b_Tape_digits 32 = .ok (.lmul, 1) := by sorry
theorem d_Tape_digits_33 : decode b_Tape_digits 33 = .ok (.aload_n 0, 1) := by sorry
theorem d_Tape_digits_34 : decode b_Tape_digits 34 = .ok (.getfield 9, 3) := by sorry
theorem d_Tape_digits_37 : decode b_Tape_digits 37 = .ok (.aload_n 0, 1) := by sorry
theorem d_Tape_digits_38 : decode b_Tape_digits 38 = .ok (.getfield 29, 3) := by sorry
theorem d_Tape_digits_41 : decode b_Tape_digits 41 = .ok (.baload, 1) := by sorry
theorem d_Tape_digits_42 : decode b_Tape_digits 42 = .ok (.bipush 48, 2) := by sorry
theorem d_Tape_digits_44 : decode b_Tape_digits 44 = .ok (.isub, 1) := by sorry
theorem d_Tape_digits_45 : decode b_Tape_digits 45 = .ok (.i2l, 1) := by sorry
theorem d_Tape_digits_46 : decode b_Tape_digits 46 = .ok (.ladd, 1) := by sorry
theorem d_Tape_digits_47 : decode b_Tape_digits 47 = .ok (.ldc2_w 60, 3) := by sorry
theorem d_Tape_digits_50 : decode b_Tape_digits 50 = .ok (.invokestatic 62, 3) := by sorry
theorem d_Tape_digits_53 : decode b_Tape_digits 53 = .ok (.lstore_n 2, 1) := by sorry
theorem d_Tape_digits_54 : decode b_Tape_digits 54 = .ok (.aload_n 0, 1) := by sorry
theorem d_Tape_digits_55 : decode b_Tape_digits 55 = .ok (.dup, 1) := by sorry
theorem d_Tape_digits_56 : decode b_Tape_digits 56 = .ok (.getfield 29, 3) := by sorry
theorem d_Tape_digits_59 : decode b_Tape_digits 59 = .ok (.iconst 1, 1) := by sorry
theorem d_Tape_digits_60 : decode b_Tape_digits 60 = .ok (.iadd, 1) := by sorry
theorem d_Tape_digits_61 : decode b_Tape_digits 61 = .ok (.putfield 29, 3) := by sorry
theorem d_Tape_digits_64 : decode b_Tape_digits 64 = .ok (.goto (-62), 3) := by sorry
theorem d_Tape_digits_67 : decode b_Tape_digits 67 = .ok (.lload_n 2, 1) := by sorry
theorem d_Tape_digits_68 : decode b_Tape_digits 68 = .ok (.ldc2_w 68, 3) := by sorry
theorem d_Tape_digits_71 : decode b_Tape_digits 71 = .ok (.lcmp, 1) := by sorry
theorem d_Tape_digits_72 : decode b_Tape_digits 72 = .ok (.ifCond .le 8, 3) := by sorry
theorem d_Tape_digits_75 : decode b_Tape_digits 75 = .ok (.aload_n 0, 1) := by sorry
theorem d_Tape_digits_76 : decode b_Tape_digits 76 = .ok (.iload_n 1, 1) := by sorry
theorem d_Tape_digits_77 : decode b_Tape_digits 77 = .ok (.invokevirtual 39, 3) := by sorry
theorem d_Tape_digits_80 : decode b_Tape_digits 80 = .ok (.lload_n 2, 1) := by sorry
theorem d_Tape_digits_81 : decode b_Tape_digits 81 = .ok (.lreturn, 1) := by sorry
set_option maxHeartbeats 4000000 in
set_option maxRecDepth 100000 in
/-- Tape.digits -/
theorem c_Tape_digits (l : Launch) (hl9 : l.stackTraces = false) (dC : Nat → ClassId) (dI : Nat → Nat → Nat) (cB : ClassId) (h0 qb : Nat) (sz : Heap) (ru : Value) (uc ln pl : Int32) (f : Nat → Int32) (n i : Nat) (fst : Int32) (hn0 : n ≤ 4096) (hi0 : i ≤ 900000) : vx_Met l y_Tape_digits (k_Tape_digits :: gtbl) ({ frames := 9, cells := 1, slots := 6, locals := 131 }) (va_Pc [.ref h0, .int fst] (mx dC dI [(h0, .inr (8, [.ref qb, ru, .int uc, .int ln, .int (nI n), .int (nI i), .int pl])), (qb, .inl (cB, 4096, .inl f))] [(cB, .byte)] sz)) (va_Ql (fun (r : Int64) (u : Nat) => (r, u) = digR f n i ∧ r ≤ 9007199254740991) (fun u t => mz dC dI [(h0, .inr (8, [.ref qb, ru, .int uc, .int ln, .int (nI n), .int (nI u), .int pl])), (qb, .inl (cB, 4096, .inl f))] [(cB, .byte)] (va_A [(h0, .inr (8, [.ref qb, ru, .int uc, .int ln, .int (nI n), .int (nI i), .int pl])), (qb, .inl (cB, 4096, .inl f))] sz.size) t ∧ szk sz t.heap 0 0) (va_A [(h0, .inr (8, [.ref qb, ru, .int uc, .int ln, .int (nI n), .int (nI i), .int pl])), (qb, .inl (cB, 4096, .inl f))] sz.size)) (vx_X (fun u : Nat => ∃ r : Int64, (r, u) = digR f n i ∧ ¬ r ≤ 9007199254740991) (fun E u t => E = "java/lang/UnsupportedOperationException" ∧ mz dC dI [(h0, .inr (8, [.ref qb, ru, .int uc, .int ln, .int (nI n), .int (nI u), .int fst])), (qb, .inl (cB, 4096, .inl f))] [(cB, .byte)] (va_A [(h0, .inr (8, [.ref qb, ru, .int uc, .int ln, .int (nI n), .int (nI i), .int pl])), (qb, .inl (cB, 4096, .inl f))] sz.size) t) (va_A [(h0, .inr (8, [.ref qb, ru, .int uc, .int ln, .int (nI n), .int (nI i), .int pl])), (qb, .inl (cB, 4096, .inl f))] sz.size)) 1 6 (va_A [(h0, .inr (8, [.ref qb, ru, .int uc, .int ln, .int (nI n), .int (nI i), .int pl])), (qb, .inl (cB, 4096, .inl f))] sz.size) := by sorry
end
section
theorem w_414 : (.methodLink "QueryBench$Tape" 82 ⟨"QueryBench$Tape", "keep", "(I)V"⟩ : Cond) ∈ gtbl := by sorry
theorem w_416 : (.instanceMethod ⟨"QueryBench$Tape", "keep", "(I)V"⟩ : Cond) ∈ gtbl := by sorry
theorem w_418 : (.methodLink "QueryBench$Tape" 85 ⟨"QueryBench$Tape", "escape", "(I)I"⟩ : Cond) ∈ gtbl := by sorry
theorem w_420 : (.instanceMethod ⟨"QueryBench$Tape", "escape", "(I)I"⟩ : Cond) ∈ gtbl := by sorry
theorem w_427 : (.static ⟨"QueryBench", "isLowUnit", "(I)Z"⟩ : Cond) ∈ gtbl := by sorry
theorem w_432 : (.static ⟨"QueryBench", "isHighUnit", "(I)Z"⟩ : Cond) ∈ gtbl := by sorry
theorem nl_426 : (.methodLinkNest "QueryBench$Tape" 89 ⟨"QueryBench", "isLowUnit", "(I)Z"⟩ "QueryBench" : Cond) ∈ nwl := by sorry
theorem nl_431 : (.methodLinkNest "QueryBench$Tape" 92 ⟨"QueryBench", "isHighUnit", "(I)Z"⟩ "QueryBench" : Cond) ∈ nwl := by sorry
abbrev lowU (x : Int32) : Prop := 56320 ≤ x ∧ x ≤ 57343
abbrev highU (x : Int32) : Prop := 55296 ≤ x ∧ x ≤ 56319
theorem lowU_1 {x r : Int32} (h : r = if 56320 ≤ x ∧ x ≤ 57343 then 1 else 0) (h0 : ¬ r = 0) : lowU x := by sorry
theorem lowU_0 {x r : Int32} (h : r = if 56320 ≤ x ∧ x ≤ 57343 then 1 else 0) (h0 : r = 0) : ¬ lowU x := by sorry
theorem highU_1 {x r : Int32} (h : r = if 55296 ≤ x ∧ x ≤ 56319 then 1 else 0) (h0 : ¬ r = 0) : highU x := by sorry
theorem highU_0 {x r : Int32} (h : r = if 55296 ≤ x ∧ x ≤ 56319 then 1 else 0) (h0 : r = 0) : ¬ highU x := by sorry
/-- a character at i, told as a relation: its units, and where it ends -/
def chR (f : Nat → Int32) (n i : Nat) (q : Int32) (j : Nat) (L : List Int32) : Prop :=
  ¬ hereV f n i < 32 ∧ hereV f n i ≤ 126 ∧ ((¬ hereV f n i = 92 ∧ j = i + 1 ∧ L = [hereV f n i]) ∨
    (hereV f n i = 92 ∧ ∃ u v i1, (u, i1) = escV f n i q ∧ ¬ u < 0 ∧ ¬ lowU u ∧ ((¬ highU u ∧ j = i1 ∧ L = [u]) ∨ (highU u ∧ hereV f n i1 = 92 ∧ (v, j) = escV f n i1 q ∧ lowU v ∧ L = [u, v]))))
/-- no character at i -/
def chN (f : Nat → Int32) (n i : Nat) (q : Int32) : Prop := hereV f n i < 32 ∨ ¬ hereV f n i ≤ 126 ∨
    (hereV f n i = 92 ∧ ∃ u i1, (u, i1) = escV f n i q ∧ (u < 0 ∨ lowU u ∨ (highU u ∧ (¬ hereV f n i1 = 92 ∨ ∃ v j, (v, j) = escV f n i1 q ∧ ¬ lowU v))))
def wrL (g : Nat → Int32) : Nat → List Int32 → (Nat → Int32)
  | _, [] => g
  | k, x :: xs => wrL (upd g k x) (k + 1) xs
theorem hex4_ge (f : Nat → Int32) (n : Nat) : ∀ (k j : Nat) (a : Int32), j ≤ (hex4 f n k j a).2 := by sorry
theorem hex4_le (f : Nat → Int32) (n : Nat) : ∀ (k j : Nat) (a : Int32), (hex4 f n k j a).2 ≤ j + k := by sorry
theorem escV_ge {f : Nat → Int32} {n i j : Nat} {q r : Int32} (h : (r, j) = escV f n i q) : i + 2 ≤ j ∧ j ≤ i + 6 := by sorry
theorem here_lt {f : Nat → Int32} {n i : Nat} (h : ¬ hereV f n i < 32) : i < n := by sorry
theorem here_92 {f : Nat → Int32} {n i : Nat} (h : hereV f n i = 92) : i < n := by sorry
abbrev b_Tape_character : ByteArray := prog_10_method_12_code
def y_Tape_character : MethodName := ⟨"QueryBench$Tape", "character", "(I)V"⟩
abbrev k_Tape_character : Cond := .code y_Tape_character b_Tape_character 6 none
theorem i_Tape_character : k_Tape_character ∈ gtbl := by sorry
theorem d_Tape_character_0 : decode b_Tape_character 0 = .ok (.aload_n 0, 1) := by sorry
theorem d_Tape_character_1 : decode b_Tape_character 1 = .ok (.getfield 29, 3) := by sorry
theorem d_Tape_character_4 : decode b_Tape_character 4 = .ok (.istore_n 2, 1) := by sorry
theorem d_Tape_character_5 : decode b_Tape_character 5 = .ok (.aload_n 0, 1) := by sorry
theorem d_Tape_character_6 : decode b_Tape_character 6 = .ok (.invokevirtual 35, 3) := by sorry
theorem d_Tape_character_9 : decode b_Tape_character 9 = .ok (.istore_n 3, 1) := by sorry
theorem d_Tape_character_10 : decode b_Tape_character 10 = .ok (.iload_n 3, 1) := by sorry
theorem d_Tape_character_11 : decode b_Tape_character 11 = .ok (.bipush 32, 2) := by sorry
theorem d_Tape_character_13 : decode b_Tape_character 13 = .ok (.if_icmp .lt 9, 3) := by sorry
theorem d_Tape_character_16 : decode b_Tape_character 16 = .ok (.iload_n 3, 1) := by sorry
theorem d_Tape_character_17 : decode b_Tape_character 17 = .ok (.bipush 126, 2) := by sorry
theorem d_Tape_character_19 : decode b_Tape_character 19 = .ok (.if_icmp .le 8, 3) := by sorry
theorem d_Tape_character_22 : decode b_Tape_character 22 = .ok (.aload_n 0, 1) := by sorry
theorem d_Tape_character_23 : decode b_Tape_character 23 = .ok (.iload_n 2, 1) := by sorry
theorem d_Tape_character_24 : decode b_Tape_character 24 = .ok (.invokevirtual 39, 3) := by sorry
theorem d_Tape_character_27 : decode b_Tape_character 27 = .ok (.iload_n 3, 1) := by sorry
theorem d_Tape_character_28 : decode b_Tape_character 28 = .ok (.bipush 92, 2) := by sorry
theorem d_Tape_character_30 : decode b_Tape_character 30 = .ok (.if_icmp .eq 19, 3) := by sorry
theorem d_Tape_character_33 : decode b_Tape_character 33 = .ok (.aload_n 0, 1) := by sorry
theorem d_Tape_character_34 : decode b_Tape_character 34 = .ok (.dup, 1) := by sorry
theorem d_Tape_character_35 : decode b_Tape_character 35 = .ok (.getfield 29, 3) := by sorry
theorem d_Tape_character_38 : decode b_Tape_character 38 = .ok (.iconst 1, 1) := by sorry
theorem d_Tape_character_39 : decode b_Tape_character 39 = .ok (.iadd, 1) := by sorry
theorem d_Tape_character_40 : decode b_Tape_character 40 = .ok (.putfield 29, 3) := by sorry
theorem d_Tape_character_43 : decode b_Tape_character 43 = .ok (.aload_n 0, 1) := by sorry
theorem d_Tape_character_44 : decode b_Tape_character 44 = .ok (.iload_n 3, 1) := by sorry
theorem d_Tape_character_45 : decode b_Tape_character 45 = .ok (.invokevirtual 82, 3) := by sorry
theorem d_Tape_character_48 : decode b_Tape_character 48 = .ok (.return_, 1) := by sorry
theorem d_Tape_character_49 : decode b_Tape_character 49 = .ok (.aload_n 0, 1) := by sorry
theorem d_Tape_character_50 : decode b_Tape_character 50 = .ok (.iload_n 1, 1) := by sorry
theorem d_Tape_character_51 : decode b_Tape_character 51 = .ok (.invokevirtual 85, 3) := by sorry
theorem d_Tape_character_54 : decode b_Tape_character 54 = .ok (.istore 4, 2) := by sorry
theorem d_Tape_character_56 : decode b_Tape_character 56 = .ok (.iload 4, 2) := by sorry
theorem d_Tape_character_58 : decode b_Tape_character 58 = .ok (.ifCond .lt 11, 3) := by sorry
theorem d_Tape_character_61 : decode b_Tape_character 61 = .ok (.iload 4, 2) := by sorry
theorem d_Tape_character_63 : decode b_Tape_character 63 = .ok (.invokestatic 89, 3) := by sorry
theorem d_Tape_character_66 : decode b_Tape_character 66 = .ok (.ifCond .eq 8, 3) := by sorry
theorem d_Tape_character_69 : decode b_Tape_character 69 = .ok (.aload_n 0, 1) := by sorry
theorem d_Tape_character_70 : decode b_Tape_character 70 = .ok (.iload_n 2, 1) := by sorry
theorem d_Tape_character_71 : decode b_Tape_character 71 = .ok (.invokevirtual 39, 3) := by sorry
theorem d_Tape_character_74 : decode b_Tape_character 74 = .ok (.aload_n 0, 1) := by sorry
theorem d_Tape_character_75 : decode b_Tape_character 75 = .ok (.iload 4, 2) := by sorry
theorem d_Tape_character_77 : decode b_Tape_character 77 = .ok (.invokevirtual 82, 3) := by sorry
theorem d_Tape_character_80 : decode b_Tape_character 80 = .ok (.iload 4, 2) := by sorry
theorem d_Tape_character_82 : decode b_Tape_character 82 = .ok (.invokestatic 92, 3) := by sorry
theorem d_Tape_character_85 : decode b_Tape_character 85 = .ok (.ifCond .eq 42, 3) := by sorry
theorem d_Tape_character_88 : decode b_Tape_character 88 = .ok (.aload_n 0, 1) := by sorry
theorem d_Tape_character_89 : decode b_Tape_character 89 = .ok (.invokevirtual 35, 3) := by sorry
theorem d_Tape_character_92 : decode b_Tape_character 92 = .ok (.bipush 92, 2) := by sorry
theorem d_Tape_character_94 : decode b_Tape_character 94 = .ok (.if_icmp .ne 11, 3) := by sorry
theorem d_Tape_character_97 : decode b_Tape_character 97 = .ok (.aload_n 0, 1) := by sorry
theorem d_Tape_character_98 : decode b_Tape_character 98 = .ok (.iload_n 1, 1) := by sorry
theorem d_Tape_character_99 : decode b_Tape_character 99 = .ok (.invokevirtual 85, 3) := by sorry
theorem d_Tape_character_102 : decode b_Tape_character 102 = .ok (.goto 4, 3) := by sorry
theorem d_Tape_character_105 : decode b_Tape_character 105 = .ok (.iconst (-1), 1) := by sorry
theorem d_Tape_character_106 : decode b_Tape_character 106 = .ok (.istore 5, 2) := by sorry
theorem d_Tape_character_108 : decode b_Tape_character 108 = .ok (.iload 5, 2) := by sorry
theorem d_Tape_character_110 : decode b_Tape_character 110 = .ok (.invokestatic 89, 3) := by sorry
theorem d_Tape_character_113 : decode b_Tape_character 113 = .ok (.ifCond .ne 8, 3) := by sorry
theorem d_Tape_character_116 : decode b_Tape_character 116 = .ok (.aload_n 0, 1) := by sorry
theorem d_Tape_character_117 : decode b_Tape_character 117 = .ok (.iload_n 2, 1) := by sorry
theorem d_Tape_character_118 : decode b_Tape_character 118 = .ok (.invokevirtual 39, 3) := by sorry
theorem d_Tape_character_121 : decode b_Tape_character 121 = .ok (.aload_n 0, 1) := by sorry
theorem d_Tape_character_122 : decode b_Tape_character 122 = .ok (.iload 5, 2) := by sorry
theorem d_Tape_character_124 : decode b_Tape_character 124 = .ok (.invokevirtual 82, 3) := by sorry
theorem d_Tape_character_127 : decode b_Tape_character 127 = .ok (.return_, 1) := by sorry
set_option maxHeartbeats 4000000 in
set_option maxRecDepth 100000 in
/-- Tape.character -/
theorem c_Tape_character (l : Launch) (hl9 : l.stackTraces = false) (dC : Nat → ClassId) (dI : Nat → Nat → Nat) (cB cI : ClassId) (h0 qb qu : Nat) (sz : Heap) (ln pl : Int32) (f g : Nat → Int32) (n i k : Nat) (q : Int32) (hn0 : n ≤ 4096) (hi0 : i ≤ 800000) (hk0 : k ≤ i) : vx_Met l y_Tape_character (k_Tape_character :: gtbl) ({ frames := 9, cells := 1, slots := 6, locals := 131 }) (va_Pc [.ref h0, .int q] (mx dC dI [(h0, .inr (8, [.ref qb, .ref qu, .int (nI k), .int ln, .int (nI n), .int (nI i), .int pl])), (qb, .inl (cB, 4096, .inl f)), (qu, .inl (cI, 4096, .inl g))] [(cB, .byte), (cI, .int)] sz)) (va_Qv (fun (u : Nat × Nat × (Nat → Int32)) => ∃ L, chR f n i q u.1 L ∧ u.2.1 = k + L.length ∧ u.2.2 = wrL g k L) (fun u t => mz dC dI [(h0, .inr (8, [.ref qb, .ref qu, .int (nI u.2.1), .int ln, .int (nI n), .int (nI u.1), .int pl])), (qb, .inl (cB, 4096, .inl f)), (qu, .inl (cI, 4096, .inl u.2.2))] [(cB, .byte), (cI, .int)] (va_A [(h0, .inr (8, [.ref qb, .ref qu, .int (nI k), .int ln, .int (nI n), .int (nI i), .int pl])), (qb, .inl (cB, 4096, .inl f)), (qu, .inl (cI, 4096, .inl g))] sz.size) t ∧ szk sz t.heap 0 0) (va_A [(h0, .inr (8, [.ref qb, .ref qu, .int (nI k), .int ln, .int (nI n), .int (nI i), .int pl])), (qb, .inl (cB, 4096, .inl f)), (qu, .inl (cI, 4096, .inl g))] sz.size)) (vx_X (fun (u : Int32 × Int32 × (Nat → Int32)) => chN f n i q) (fun E u t => E = "java/lang/UnsupportedOperationException" ∧ mz dC dI [(h0, .inr (8, [.ref qb, .ref qu, .int u.2.1, .int ln, .int (nI n), .int u.1, .int (nI i)])), (qb, .inl (cB, 4096, .inl f)), (qu, .inl (cI, 4096, .inl u.2.2))] [(cB, .byte), (cI, .int)] (va_A [(h0, .inr (8, [.ref qb, .ref qu, .int (nI k), .int ln, .int (nI n), .int (nI i), .int pl])), (qb, .inl (cB, 4096, .inl f)), (qu, .inl (cI, 4096, .inl g))] sz.size) t) (va_A [(h0, .inr (8, [.ref qb, .ref qu, .int (nI k), .int ln, .int (nI n), .int (nI i), .int pl])), (qb, .inl (cB, 4096, .inl f)), (qu, .inl (cI, 4096, .inl g))] sz.size)) 1 6 (va_A [(h0, .inr (8, [.ref qb, .ref qu, .int (nI k), .int ln, .int (nI n), .int (nI i), .int pl])), (qb, .inl (cB, 4096, .inl f)), (qu, .inl (cI, 4096, .inl g))] sz.size) := by sorry
end
section
theorem w_17 : (.initialized "java/lang/System" : Cond) ∈ gtbl := by sorry
theorem w_73 : (.arrayClass FieldType.int : Cond) ∈ gtbl := by sorry
theorem w_409 : (.methodLink "QueryBench$Tape" 73 ⟨"QueryBench$Tape", "character", "(I)V"⟩ : Cond) ∈ gtbl := by sorry
theorem w_411 : (.instanceMethod ⟨"QueryBench$Tape", "character", "(I)V"⟩ : Cond) ∈ gtbl := by sorry
theorem w_436 : (.methodLink "QueryBench$Tape" 51 ⟨"QueryBench$Tape", "take", "(I)V"⟩ : Cond) ∈ gtbl := by sorry
theorem w_437 : (.instanceMethod ⟨"QueryBench$Tape", "take", "(I)V"⟩ : Cond) ∈ gtbl := by sorry
theorem w_438 : (.selects "QueryBench$Tape" ⟨"QueryBench$Tape", "take", "(I)V"⟩ ⟨"QueryBench$Tape", "take", "(I)V"⟩ : Cond) ∈ gtbl := by sorry
theorem w_440 : (.methodLink "QueryBench$Tape" 76 ⟨"java/lang/System", "arraycopy", "(Ljava/lang/Object;ILjava/lang/Object;II)V"⟩ : Cond) ∈ gtbl := by sorry
theorem w_441 : (.static ⟨"java/lang/System", "arraycopy", "(Ljava/lang/Object;ILjava/lang/Object;II)V"⟩ : Cond) ∈ gtbl := by sorry
theorem w_442 : (.native ⟨"java/lang/System", "arraycopy", "(Ljava/lang/Object;ILjava/lang/Object;II)V"⟩ : Cond) ∈ gtbl := by sorry
/-- a character at i: where it ends, and its units -/
def chF (f : Nat → Int32) (n i : Nat) (q : Int32) : Option (Nat × List Int32) :=
  if hereV f n i < 32 ∨ ¬ hereV f n i ≤ 126 then none
  else if hereV f n i = 92 then
    (if (escV f n i q).1 < 0 ∨ lowU (escV f n i q).1 then none
     else if highU (escV f n i q).1 then
       (if hereV f n (escV f n i q).2 = 92 ∧ lowU (escV f n (escV f n i q).2 q).1 then some ((escV f n (escV f n i q).2 q).2, [(escV f n i q).1, (escV f n (escV f n i q).2 q).1]) else none)
     else some ((escV f n i q).2, [(escV f n i q).1]))
  else some (i + 1, [hereV f n i])
theorem chR_F {f : Nat → Int32} {n i j : Nat} {q : Int32} {L : List Int32} (h : chR f n i q j L) : chF f n i q = some (j, L) := by sorry
theorem chN_F {f : Nat → Int32} {n i : Nat} {q : Int32} (h : chN f n i q) : chF f n i q = none := by sorry
theorem chR_b {f : Nat → Int32} {n i j : Nat} {q : Int32} {L : List Int32} (h : chR f n i q j L) : i + L.length ≤ j ∧ j ≤ i + 12 ∧ i < n := by sorry
/-- the characters from j on up to the quote q: where it is, and the units -/
def qtF (f : Nat → Int32) (n : Nat) (q : Int32) : Nat → Nat → List Int32 → Option (Nat × List Int32)
  | 0, j, L => if hereV f n j = q then some (j, L) else none
  | t + 1, j, L => if hereV f n j = q then some (j, L) else (chF f n j q).bind (fun x => qtF f n q t x.1 (L ++ x.2))
theorem qtF_q {f : Nat → Int32} {n : Nat} {q : Int32} {t j : Nat} {L : List Int32} (h : hereV f n j = q) : qtF f n q t j L = some (j, L) := by sorry
theorem qtF_0 {f : Nat → Int32} {n : Nat} {q : Int32} {j : Nat} {L : List Int32} (h : ¬ hereV f n j = q) : qtF f n q 0 j L = none := by sorry
theorem qtF_s {f : Nat → Int32} {n : Nat} {q : Int32} {t j j1 : Nat} {L L1 : List Int32} (h : ¬ hereV f n j = q) (hc : chF f n j q = some (j1, L1)) : qtF f n q (t + 1) j L = qtF f n q t j1 (L ++ L1) := by sorry
theorem qtF_n {f : Nat → Int32} {n : Nat} {q : Int32} {t j : Nat} {L : List Int32} (h : ¬ hereV f n j = q) (hc : chF f n j q = none) : qtF f n q (t + 1) j L = none := by sorry
def qtR (f : Nat → Int32) (n i : Nat) : Option (Nat × List Int32) := qtF f n (hereV f n i) 4096 (i + 1) []
def qtN (f : Nat → Int32) (n i : Nat) : Nat := ((qtR f n i).map (fun x => x.2.length)).getD 0
theorem wrL_app (L1 : List Int32) : ∀ (L : List Int32) (g : Nat → Int32) (k : Nat), wrL g k (L ++ L1) = wrL (wrL g k L) (k + L.length) L1 := by sorry
theorem here_n {f : Nat → Int32} {n i j : Nat} (h : i < n) (e : hereV f n j = hereV f n i) : j < n := by sorry
abbrev b_Tape_quoted : ByteArray := prog_10_method_11_code
def y_Tape_quoted : MethodName := ⟨"QueryBench$Tape", "quoted", "()[I"⟩
abbrev k_Tape_quoted : Cond := .code y_Tape_quoted b_Tape_quoted 3 (some (.array .int))
theorem i_Tape_quoted : k_Tape_quoted ∈ gtbl := by sorry
theorem d_Tape_quoted_0 : decode b_Tape_quoted 0 = .ok (.aload_n 0, 1) := by sorry
theorem d_Tape_quoted_1 : decode b_Tape_quoted 1 = .ok (.invokevirtual 35, 3) := by sorry
theorem d_Tape_quoted_4 : decode b_Tape_quoted 4 = .ok (.istore_n 1, 1) := by sorry
theorem d_Tape_quoted_5 : decode b_Tape_quoted 5 = .ok (.aload_n 0, 1) := by sorry
theorem d_Tape_quoted_6 : decode b_Tape_quoted 6 = .ok (.dup, 1) := by sorry
theorem d_Tape_quoted_7 : decode b_Tape_quoted 7 = .ok (.getfield 29, 3) := by sorry
theorem d_Tape_quoted_10 : decode b_Tape_quoted 10 = .ok (.iconst 1, 1) := by sorry
theorem d_Tape_quoted_11 : decode b_Tape_quoted 11 = .ok (.iadd, 1) := by sorry
theorem d_Tape_quoted_12 : decode b_Tape_quoted 12 = .ok (.putfield 29, 3) := by sorry
theorem d_Tape_quoted_15 : decode b_Tape_quoted 15 = .ok (.aload_n 0, 1) := by sorry
theorem d_Tape_quoted_16 : decode b_Tape_quoted 16 = .ok (.iconst 0, 1) := by sorry
theorem d_Tape_quoted_17 : decode b_Tape_quoted 17 = .ok (.putfield 70, 3) := by sorry
theorem d_Tape_quoted_20 : decode b_Tape_quoted 20 = .ok (.iconst 0, 1) := by sorry
theorem d_Tape_quoted_21 : decode b_Tape_quoted 21 = .ok (.istore_n 2, 1) := by sorry
theorem d_Tape_quoted_22 : decode b_Tape_quoted 22 = .ok (.iload_n 2, 1) := by sorry
theorem d_Tape_quoted_23 : decode b_Tape_quoted 23 = .ok (.sipush 4096, 3) := by sorry
theorem d_Tape_quoted_26 : decode b_Tape_quoted 26 = .ok (.if_icmp .ge 22, 3) := by sorry
theorem d_Tape_quoted_29 : decode b_Tape_quoted 29 = .ok (.aload_n 0, 1) := by sorry
theorem d_Tape_quoted_30 : decode b_Tape_quoted 30 = .ok (.invokevirtual 35, 3) := by sorry
theorem d_Tape_quoted_33 : decode b_Tape_quoted 33 = .ok (.iload_n 1, 1) := by sorry
theorem d_Tape_quoted_34 : decode b_Tape_quoted 34 = .ok (.if_icmp .eq 14, 3) := by sorry
theorem d_Tape_quoted_37 : decode b_Tape_quoted 37 = .ok (.aload_n 0, 1) := by sorry
theorem d_Tape_quoted_38 : decode b_Tape_quoted 38 = .ok (.iload_n 1, 1) := by sorry
theorem d_Tape_quoted_39 : decode b_Tape_quoted 39 = .ok (.invokevirtual 73, 3) := by sorry
theorem d_Tape_quoted_42 : decode b_Tape_quoted 42 = .ok (.iinc 2 1, 3) := by sorry
theorem d_Tape_quoted_45 : decode b_Tape_quoted 45 = .ok (.goto (-23), 3) := by sorry
theorem d_Tape_quoted_48 : decode b_Tape_quoted 48 = .ok (.aload_n 0, 1) := by sorry
theorem d_Tape_quoted_49 : decode b_Tape_quoted 49 = .ok (.iload_n 1, 1) := by sorry
theorem d_Tape_quoted_50 : decode b_Tape_quoted 50 = .ok (.invokevirtual 51, 3) := by sorry
theorem d_Tape_quoted_53 : decode b_Tape_quoted 53 = .ok (.aload_n 0, 1) := by sorry
theorem d_Tape_quoted_54 : decode b_Tape_quoted 54 = .ok (.getfield 70, 3) := by sorry
theorem d_Tape_quoted_57 : decode b_Tape_quoted 57 = .ok (.newarray .int, 2) := by sorry
theorem d_Tape_quoted_59 : decode b_Tape_quoted 59 = .ok (.astore_n 2, 1) := by sorry
theorem d_Tape_quoted_60 : decode b_Tape_quoted 60 = .ok (.aload_n 0, 1) := by sorry
theorem d_Tape_quoted_61 : decode b_Tape_quoted 61 = .ok (.getfield 15, 3) := by sorry
theorem d_Tape_quoted_64 : decode b_Tape_quoted 64 = .ok (.iconst 0, 1) := by sorry
theorem d_Tape_quoted_65 : decode b_Tape_quoted 65 = .ok (.aload_n 2, 1) := by sorry
theorem d_Tape_quoted_66 : decode b_Tape_quoted 66 = .ok (.iconst 0, 1) := by sorry
theorem d_Tape_quoted_67 : decode b_Tape_quoted 67 = .ok (.aload_n 0, 1) := by sorry
theorem d_Tape_quoted_68 : decode b_Tape_quoted 68 = .ok (.getfield 70, 3) := by sorry
theorem d_Tape_quoted_71 : decode b_Tape_quoted 71 = .ok (.invokestatic 76, 3) := by sorry
theorem d_Tape_quoted_74 : decode b_Tape_quoted 74 = .ok (.aload_n 2, 1) := by sorry
theorem d_Tape_quoted_75 : decode b_Tape_quoted 75 = .ok (.areturn, 1) := by sorry
set_option maxHeartbeats 4000000 in
set_option maxRecDepth 100000 in
/-- Tape.quoted -/
theorem c_Tape_quoted (l : Launch) (hl9 : l.stackTraces = false) (dC : Nat → ClassId) (dI : Nat → Nat → Nat) (cB cI : ClassId) (h0 qb qu : Nat) (sz : Heap) (uc ln pl : Int32) (f g : Nat → Int32) (n i : Nat) (hn0 : n ≤ 4096) (hin : i < n) : vx_Met l y_Tape_quoted (k_Tape_quoted :: gtbl) ({ frames := 10, cells := 1, slots := 6 + qtN f n i, locals := 160 }) (va_Pc [.ref h0] (mx dC dI [(h0, .inr (8, [.ref qb, .ref qu, .int uc, .int ln, .int (nI n), .int (nI i), .int pl])), (qb, .inl (cB, 4096, .inl f)), (qu, .inl (cI, 4096, .inl g))] [(cB, .byte), (cI, .int)] sz)) (va_Qr (fun (u : Nat × List Int32) => qtR f n i = some u) (fun u a t => mz dC dI [(h0, .inr (8, [.ref qb, .ref qu, .int (nI u.2.length), .int ln, .int (nI n), .int (nI (u.1 + 1)), .int pl])), (qb, .inl (cB, 4096, .inl f)), (qu, .inl (cI, 4096, .inl ((wrL g 0 u.2)))), (a, .inl (cI, u.2.length, .inl (va_cpy (wrL g 0 u.2) (fun _ => 0) 0 0 u.2.length)))] [(cB, .byte), (cI, .int)] (va_A [(h0, .inr (8, [.ref qb, .ref qu, .int uc, .int ln, .int (nI n), .int (nI i), .int pl])), (qb, .inl (cB, 4096, .inl f)), (qu, .inl (cI, 4096, .inl g))] sz.size) t ∧ szk sz t.heap 1 u.2.length) (va_A [(h0, .inr (8, [.ref qb, .ref qu, .int uc, .int ln, .int (nI n), .int (nI i), .int pl])), (qb, .inl (cB, 4096, .inl f)), (qu, .inl (cI, 4096, .inl g))] sz.size)) (vx_X (fun u : Int32 × Int32 × Int32 × (Nat → Int32) => qtR f n i = none) (fun E u t => E = "java/lang/UnsupportedOperationException" ∧ mz dC dI [(h0, .inr (8, [.ref qb, .ref qu, .int u.2.1, .int ln, .int (nI n), .int u.1, .int u.2.2.1])), (qb, .inl (cB, 4096, .inl f)), (qu, .inl (cI, 4096, .inl u.2.2.2))] [(cB, .byte), (cI, .int)] (va_A [(h0, .inr (8, [.ref qb, .ref qu, .int uc, .int ln, .int (nI n), .int (nI i), .int pl])), (qb, .inl (cB, 4096, .inl f)), (qu, .inl (cI, 4096, .inl g))] sz.size) t) (va_A [(h0, .inr (8, [.ref qb, .ref qu, .int uc, .int ln, .int (nI n), .int (nI i), .int pl])), (qb, .inl (cB, 4096, .inl f)), (qu, .inl (cI, 4096, .inl g))] sz.size)) 1 (6 + qtN f n i) (va_A [(h0, .inr (8, [.ref qb, .ref qu, .int uc, .int ln, .int (nI n), .int (nI i), .int pl])), (qb, .inl (cB, 4096, .inl f)), (qu, .inl (cI, 4096, .inl g))] sz.size) := by sorry
end
section
theorem w_1092 : (.fieldLink "QueryBenchModel" 130 "QueryBenchModel" "length" "I" : Cond) ∈ gtbl := by sorry
theorem w_1094 : (.fieldLink "QueryBenchModel" 16 "QueryBenchModel" "place" "I" : Cond) ∈ gtbl := by sorry
theorem w_1095 : (.fieldLink "QueryBenchModel" 141 "QueryBenchModel" "text" "[B" : Cond) ∈ gtbl := by sorry
theorem w_1096 : (.fieldLink "QueryBenchModel" 135 "QueryBenchModel" "at" "I" : Cond) ∈ gtbl := by sorry
theorem w_1097 : (.fieldLink "QueryBenchModel" 138 "QueryBenchModel" "stop" "I" : Cond) ∈ gtbl := by sorry
theorem w_1098 : (.fieldLink "QueryBenchModel" 144 "QueryBenchModel" "broken" "I" : Cond) ∈ gtbl := by sorry
abbrev b_Mo_used : ByteArray := prog_14_method_11_code
def y_Mo_used : MethodName := ⟨"QueryBenchModel", "used", "()I"⟩
abbrev k_Mo_used : Cond := .code y_Mo_used b_Mo_used 2 (some .int)
theorem i_Mo_used : k_Mo_used ∈ gtbl := by sorry
theorem d_Mo_used_0 : decode b_Mo_used 0 = .ok (.aload_n 0, 1) := by sorry
theorem d_Mo_used_1 : decode b_Mo_used 1 = .ok (.getfield 119, 3) := by sorry
theorem d_Mo_used_4 : decode b_Mo_used 4 = .ok (.istore_n 1, 1) := by sorry
theorem d_Mo_used_5 : decode b_Mo_used 5 = .ok (.aload_n 0, 1) := by sorry
theorem d_Mo_used_6 : decode b_Mo_used 6 = .ok (.iconst 0, 1) := by sorry
theorem d_Mo_used_7 : decode b_Mo_used 7 = .ok (.putfield 119, 3) := by sorry
theorem d_Mo_used_10 : decode b_Mo_used 10 = .ok (.iload_n 1, 1) := by sorry
theorem d_Mo_used_11 : decode b_Mo_used 11 = .ok (.ireturn, 1) := by sorry
set_option maxHeartbeats 4000000 in
set_option maxRecDepth 100000 in
/-- used() -/
theorem c_Mo_used (l : Launch) (dC : Nat → ClassId) (dI : Nat → Nat → Nat) (mo : Nat) (sz : Heap) (v : Nat → Value) (tv : Int32) (h1 : v 1 = .int tv) : Met l y_Mo_used (k_Mo_used :: gtbl) ({ frames := 0, cells := 0, slots := 0, locals := 0 }) (va_Pc [.ref mo] (mp dC dI [(mo, .inr (13, MF 30 v))] [] sz)) (va_Qi (fun (r : Int32) (u : Nat → Value) => r = tv ∧ u = va_up v 1 (.int 0)) (fun u => mz dC dI [(mo, .inr (13, MF 30 u))] [] (va_A [(mo, .inr (13, MF 30 v))] sz.size)) (va_A [(mo, .inr (13, MF 30 v))] sz.size)) 0 0 (va_A [(mo, .inr (13, MF 30 v))] sz.size) := by sorry
abbrev b_Mo_end : ByteArray := prog_14_method_9_code
def y_Mo_end : MethodName := ⟨"QueryBenchModel", "end", "(I)I"⟩
abbrev k_Mo_end : Cond := .code y_Mo_end b_Mo_end 2 (some .int)
theorem i_Mo_end : k_Mo_end ∈ gtbl := by sorry
theorem d_Mo_end_0 : decode b_Mo_end 0 = .ok (.aload_n 0, 1) := by sorry
theorem d_Mo_end_1 : decode b_Mo_end 1 = .ok (.iload_n 1, 1) := by sorry
theorem d_Mo_end_2 : decode b_Mo_end 2 = .ok (.ifCond .lt 15, 3) := by sorry
theorem d_Mo_end_5 : decode b_Mo_end 5 = .ok (.iload_n 1, 1) := by sorry
theorem d_Mo_end_6 : decode b_Mo_end 6 = .ok (.aload_n 0, 1) := by sorry
theorem d_Mo_end_7 : decode b_Mo_end 7 = .ok (.getfield 119, 3) := by sorry
theorem d_Mo_end_10 : decode b_Mo_end 10 = .ok (.if_icmp .gt 7, 3) := by sorry
theorem d_Mo_end_13 : decode b_Mo_end 13 = .ok (.iconst 1, 1) := by sorry
theorem d_Mo_end_14 : decode b_Mo_end 14 = .ok (.goto 4, 3) := by sorry
theorem d_Mo_end_17 : decode b_Mo_end 17 = .ok (.iconst 0, 1) := by sorry
theorem d_Mo_end_18 : decode b_Mo_end 18 = .ok (.iconst 1, 1) := by sorry
theorem d_Mo_end_19 : decode b_Mo_end 19 = .ok (.invokevirtual 122, 3) := by sorry
theorem d_Mo_end_22 : decode b_Mo_end 22 = .ok (.ifCond .ne 5, 3) := by sorry
theorem d_Mo_end_25 : decode b_Mo_end 25 = .ok (.iconst 0, 1) := by sorry
theorem d_Mo_end_26 : decode b_Mo_end 26 = .ok (.ireturn, 1) := by sorry
theorem d_Mo_end_27 : decode b_Mo_end 27 = .ok (.aload_n 0, 1) := by sorry
theorem d_Mo_end_28 : decode b_Mo_end 28 = .ok (.iload_n 1, 1) := by sorry
theorem d_Mo_end_29 : decode b_Mo_end 29 = .ok (.putfield 119, 3) := by sorry
theorem d_Mo_end_32 : decode b_Mo_end 32 = .ok (.iload_n 1, 1) := by sorry
theorem d_Mo_end_33 : decode b_Mo_end 33 = .ok (.ireturn, 1) := by sorry
set_option maxHeartbeats 4000000 in
set_option maxRecDepth 100000 in
/-- the reference: end -/
theorem c_Mo_end (l : Launch) (dC : Nat → ClassId) (dI : Nat → Nat → Nat) (mo : Nat) (sz : Heap) (v : Nat → Value) (tv nn : Int32) (h1 : v 1 = .int tv) : Met l y_Mo_end (k_Mo_end :: gtbl) ({ frames := 1, cells := 0, slots := 0, locals := 24 }) (va_Pc [.ref mo, .int nn] (mp dC dI [(mo, .inr (13, MF 30 v))] [] sz)) (va_Qi (fun (r : Int32) (u : Nat → Value) => ((¬ nn < 0 ∧ nn ≤ tv) ∧ r = nn ∧ u = va_up (va_up v 4 (.int 0)) 1 (.int nn)) ∨ (¬ (¬ nn < 0 ∧ nn ≤ tv) ∧ r = 0 ∧ u = va_up v 4 (.int 1))) (fun u => mz dC dI [(mo, .inr (13, MF 30 u))] [] (va_A [(mo, .inr (13, MF 30 v))] sz.size)) (va_A [(mo, .inr (13, MF 30 v))] sz.size)) 0 0 (va_A [(mo, .inr (13, MF 30 v))] sz.size) := by sorry
abbrev b_Mo_count : ByteArray := prog_14_method_12_code
def y_Mo_count : MethodName := ⟨"QueryBenchModel", "count", "(I)I"⟩
abbrev k_Mo_count : Cond := .code y_Mo_count b_Mo_count 2 (some .int)
theorem i_Mo_count : k_Mo_count ∈ gtbl := by sorry
theorem d_Mo_count_0 : decode b_Mo_count 0 = .ok (.aload_n 0, 1) := by sorry
theorem d_Mo_count_1 : decode b_Mo_count 1 = .ok (.iload_n 1, 1) := by sorry
theorem d_Mo_count_2 : decode b_Mo_count 2 = .ok (.ifCond .lt 12, 3) := by sorry
theorem d_Mo_count_5 : decode b_Mo_count 5 = .ok (.iload_n 1, 1) := by sorry
theorem d_Mo_count_6 : decode b_Mo_count 6 = .ok (.iconst 2, 1) := by sorry
theorem d_Mo_count_7 : decode b_Mo_count 7 = .ok (.if_icmp .gt 7, 3) := by sorry
theorem d_Mo_count_10 : decode b_Mo_count 10 = .ok (.iconst 1, 1) := by sorry
theorem d_Mo_count_11 : decode b_Mo_count 11 = .ok (.goto 4, 3) := by sorry
theorem d_Mo_count_14 : decode b_Mo_count 14 = .ok (.iconst 0, 1) := by sorry
theorem d_Mo_count_15 : decode b_Mo_count 15 = .ok (.iconst 1, 1) := by sorry
theorem d_Mo_count_16 : decode b_Mo_count 16 = .ok (.invokevirtual 122, 3) := by sorry
theorem d_Mo_count_19 : decode b_Mo_count 19 = .ok (.ifCond .ne 5, 3) := by sorry
theorem d_Mo_count_22 : decode b_Mo_count 22 = .ok (.iconst 0, 1) := by sorry
theorem d_Mo_count_23 : decode b_Mo_count 23 = .ok (.ireturn, 1) := by sorry
theorem d_Mo_count_24 : decode b_Mo_count 24 = .ok (.iload_n 1, 1) := by sorry
theorem d_Mo_count_25 : decode b_Mo_count 25 = .ok (.ifCond .ne 10, 3) := by sorry
theorem d_Mo_count_28 : decode b_Mo_count 28 = .ok (.aload_n 0, 1) := by sorry
theorem d_Mo_count_29 : decode b_Mo_count 29 = .ok (.getfield 119, 3) := by sorry
theorem d_Mo_count_32 : decode b_Mo_count 32 = .ok (.goto 19, 3) := by sorry
theorem d_Mo_count_35 : decode b_Mo_count 35 = .ok (.iload_n 1, 1) := by sorry
theorem d_Mo_count_36 : decode b_Mo_count 36 = .ok (.iconst 1, 1) := by sorry
theorem d_Mo_count_37 : decode b_Mo_count 37 = .ok (.if_icmp .ne 10, 3) := by sorry
theorem d_Mo_count_40 : decode b_Mo_count 40 = .ok (.aload_n 0, 1) := by sorry
theorem d_Mo_count_41 : decode b_Mo_count 41 = .ok (.getfield 130, 3) := by sorry
theorem d_Mo_count_44 : decode b_Mo_count 44 = .ok (.goto 7, 3) := by sorry
theorem d_Mo_count_47 : decode b_Mo_count 47 = .ok (.aload_n 0, 1) := by sorry
theorem d_Mo_count_48 : decode b_Mo_count 48 = .ok (.getfield 16, 3) := by sorry
theorem d_Mo_count_51 : decode b_Mo_count 51 = .ok (.ireturn, 1) := by sorry
set_option maxHeartbeats 4000000 in
set_option maxRecDepth 100000 in
/-- the reference: count -/
theorem c_Mo_count (l : Launch) (dC : Nat → ClassId) (dI : Nat → Nat → Nat) (mo : Nat) (sz : Heap) (v : Nat → Value) (tv lv_ pv nn : Int32) (h1 : v 1 = .int tv) (h3 : v 3 = .int lv_) (h5 : v 5 = .int pv) : Met l y_Mo_count (k_Mo_count :: gtbl) ({ frames := 1, cells := 0, slots := 0, locals := 24 }) (va_Pc [.ref mo, .int nn] (mp dC dI [(mo, .inr (13, MF 30 v))] [] sz)) (va_Qi (fun (r : Int32) (u : Nat → Value) => ((¬ nn < 0 ∧ nn ≤ 2) ∧ r = (if nn = 0 then tv else if nn = 1 then lv_ else pv) ∧ u = va_up v 4 (.int 0)) ∨ (¬ (¬ nn < 0 ∧ nn ≤ 2) ∧ r = 0 ∧ u = va_up v 4 (.int 1))) (fun u => mz dC dI [(mo, .inr (13, MF 30 u))] [] (va_A [(mo, .inr (13, MF 30 v))] sz.size)) (va_A [(mo, .inr (13, MF 30 v))] sz.size)) 0 0 (va_A [(mo, .inr (13, MF 30 v))] sz.size) := by sorry
abbrev b_Mo_c : ByteArray := prog_14_method_13_code
def y_Mo_c : MethodName := ⟨"QueryBenchModel", "c", "()I"⟩
abbrev k_Mo_c : Cond := .code y_Mo_c b_Mo_c 1 (some .int)
theorem i_Mo_c : k_Mo_c ∈ gtbl := by sorry
theorem d_Mo_c_0 : decode b_Mo_c 0 = .ok (.aload_n 0, 1) := by sorry
theorem d_Mo_c_1 : decode b_Mo_c 1 = .ok (.getfield 135, 3) := by sorry
theorem d_Mo_c_4 : decode b_Mo_c 4 = .ok (.aload_n 0, 1) := by sorry
theorem d_Mo_c_5 : decode b_Mo_c 5 = .ok (.getfield 138, 3) := by sorry
theorem d_Mo_c_8 : decode b_Mo_c 8 = .ok (.if_icmp .ge 19, 3) := by sorry
theorem d_Mo_c_11 : decode b_Mo_c 11 = .ok (.aload_n 0, 1) := by sorry
theorem d_Mo_c_12 : decode b_Mo_c 12 = .ok (.getfield 141, 3) := by sorry
theorem d_Mo_c_15 : decode b_Mo_c 15 = .ok (.aload_n 0, 1) := by sorry
theorem d_Mo_c_16 : decode b_Mo_c 16 = .ok (.getfield 135, 3) := by sorry
theorem d_Mo_c_19 : decode b_Mo_c 19 = .ok (.baload, 1) := by sorry
theorem d_Mo_c_20 : decode b_Mo_c 20 = .ok (.sipush 255, 3) := by sorry
theorem d_Mo_c_23 : decode b_Mo_c 23 = .ok (.iand, 1) := by sorry
theorem d_Mo_c_24 : decode b_Mo_c 24 = .ok (.goto 4, 3) := by sorry
theorem d_Mo_c_27 : decode b_Mo_c 27 = .ok (.iconst (-1), 1) := by sorry
theorem d_Mo_c_28 : decode b_Mo_c 28 = .ok (.ireturn, 1) := by sorry
set_option maxHeartbeats 4000000 in
set_option maxRecDepth 100000 in
/-- the reference: c() -/
theorem c_Mo_c (l : Launch) (dC : Nat → ClassId) (dI : Nat → Nat → Nat) (mo : Nat) (sz : Heap) (v : Nat → Value) (cB : ClassId) (qx NN : Nat) (f : Nat → Int32) (n i : Nat) (hnN : n ≤ NN) (hNN : NN ≤ 1000000) (hi0 : i ≤ 1000000) (h6 : v 6 = .ref qx) (h7 : v 7 = .int (nI i)) (h8 : v 8 = .int (nI n)) : Met l y_Mo_c (k_Mo_c :: gtbl) ({ frames := 0, cells := 0, slots := 0, locals := 0 }) (va_Pc [.ref mo] (mp dC dI [(mo, .inr (13, MF 30 v)), (qx, .inl (cB, NN, .inl f))] [(cB, .byte)] sz)) (va_Qi (fun (r : Int32) (_ : Unit) => r = hereV f n i) (fun _ => mz dC dI [(mo, .inr (13, MF 30 v)), (qx, .inl (cB, NN, .inl f))] [(cB, .byte)] (va_A [(mo, .inr (13, MF 30 v)), (qx, .inl (cB, NN, .inl f))] sz.size)) (va_A [(mo, .inr (13, MF 30 v)), (qx, .inl (cB, NN, .inl f))] sz.size)) 0 0 (va_A [(mo, .inr (13, MF 30 v)), (qx, .inl (cB, NN, .inl f))] sz.size) := by sorry
abbrev b_Mo_fail : ByteArray := prog_14_method_14_code
def y_Mo_fail : MethodName := ⟨"QueryBenchModel", "fail", "(I)Z"⟩
abbrev k_Mo_fail : Cond := .code y_Mo_fail b_Mo_fail 2 (some .boolean)
theorem i_Mo_fail : k_Mo_fail ∈ gtbl := by sorry
theorem d_Mo_fail_0 : decode b_Mo_fail 0 = .ok (.aload_n 0, 1) := by sorry
theorem d_Mo_fail_1 : decode b_Mo_fail 1 = .ok (.getfield 144, 3) := by sorry
theorem d_Mo_fail_4 : decode b_Mo_fail 4 = .ok (.ifCond .ge 8, 3) := by sorry
theorem d_Mo_fail_7 : decode b_Mo_fail 7 = .ok (.aload_n 0, 1) := by sorry
theorem d_Mo_fail_8 : decode b_Mo_fail 8 = .ok (.iload_n 1, 1) := by sorry
theorem d_Mo_fail_9 : decode b_Mo_fail 9 = .ok (.putfield 144, 3) := by sorry
theorem d_Mo_fail_12 : decode b_Mo_fail 12 = .ok (.iconst 0, 1) := by sorry
theorem d_Mo_fail_13 : decode b_Mo_fail 13 = .ok (.ireturn, 1) := by sorry
def mfail (v : Nat → Value) (br wh : Int32) : Nat → Value := if br < 0 then va_up v 9 (.int wh) else v
set_option maxHeartbeats 4000000 in
set_option maxRecDepth 100000 in
/-- the reference: fail -/
theorem c_Mo_fail (l : Launch) (dC : Nat → ClassId) (dI : Nat → Nat → Nat) (mo : Nat) (sz : Heap) (v : Nat → Value) (br wh : Int32) (h9 : v 9 = .int br) : Met l y_Mo_fail (k_Mo_fail :: gtbl) ({ frames := 0, cells := 0, slots := 0, locals := 0 }) (va_Pc [.ref mo, .int wh] (mp dC dI [(mo, .inr (13, MF 30 v))] [] sz)) (va_Qi (fun (r : Int32) (u : Nat → Value) => r = 0 ∧ u = mfail v br wh) (fun u => mz dC dI [(mo, .inr (13, MF 30 u))] [] (va_A [(mo, .inr (13, MF 30 v))] sz.size)) (va_A [(mo, .inr (13, MF 30 v))] sz.size)) 0 0 (va_A [(mo, .inr (13, MF 30 v))] sz.size) := by sorry
abbrev b_Mo_digit : ByteArray := prog_14_method_16_code
def y_Mo_digit : MethodName := ⟨"QueryBenchModel", "digit", "(I)Z"⟩
abbrev k_Mo_digit : Cond := .code y_Mo_digit b_Mo_digit 1 (some .boolean)
theorem i_Mo_digit : k_Mo_digit ∈ gtbl := by sorry
theorem d_Mo_digit_0 : decode b_Mo_digit 0 = .ok (.iload_n 0, 1) := by sorry
theorem d_Mo_digit_1 : decode b_Mo_digit 1 = .ok (.bipush 48, 2) := by sorry
theorem d_Mo_digit_3 : decode b_Mo_digit 3 = .ok (.if_icmp .lt 13, 3) := by sorry
theorem d_Mo_digit_6 : decode b_Mo_digit 6 = .ok (.iload_n 0, 1) := by sorry
theorem d_Mo_digit_7 : decode b_Mo_digit 7 = .ok (.bipush 57, 2) := by sorry
theorem d_Mo_digit_9 : decode b_Mo_digit 9 = .ok (.if_icmp .gt 7, 3) := by sorry
theorem d_Mo_digit_12 : decode b_Mo_digit 12 = .ok (.iconst 1, 1) := by sorry
theorem d_Mo_digit_13 : decode b_Mo_digit 13 = .ok (.goto 4, 3) := by sorry
theorem d_Mo_digit_16 : decode b_Mo_digit 16 = .ok (.iconst 0, 1) := by sorry
theorem d_Mo_digit_17 : decode b_Mo_digit 17 = .ok (.ireturn, 1) := by sorry
set_option maxHeartbeats 4000000 in
set_option maxRecDepth 100000 in
/-- the reference: digit -/
theorem c_Mo_digit (l : Launch) (dC : Nat → ClassId) (dI : Nat → Nat → Nat) (sz : Heap) (x : Int32) : Met l y_Mo_digit (k_Mo_digit :: gtbl) ({ frames := 0, cells := 0, slots := 0, locals := 0 }) (va_Pc [.int x] (mp dC dI [] [] sz)) (va_Qi (fun (r : Int32) (_ : Unit) => r = if 48 ≤ x ∧ x ≤ 57 then 1 else 0) (fun _ => mz dC dI [] [] (va_A [] sz.size)) (va_A [] sz.size)) 0 0 (va_A [] sz.size) := by sorry
end
section
theorem w_1100 : (.fieldLink "QueryBenchModel" 232 "QueryBenchModel" "written" "I" : Cond) ∈ gtbl := by sorry
theorem w_1101 : (.fieldLink "QueryBenchModel" 235 "QueryBenchModel" "over" "Z" : Cond) ∈ gtbl := by sorry
theorem w_1108 : (.fieldLink "QueryBenchModel" 49 "QueryBenchModel" "q" "[I" : Cond) ∈ gtbl := by sorry
theorem w_1112 : (.fieldLink "QueryBenchModel" 266 "QueryBenchModel" "opened" "I" : Cond) ∈ gtbl := by sorry
theorem w_1233 : (.methodLink "QueryBenchModel" 147 ⟨"QueryBenchModel", "c", "()I"⟩ : Cond) ∈ gtbl := by sorry
theorem w_1235 : (.instanceMethod ⟨"QueryBenchModel", "c", "()I"⟩ : Cond) ∈ gtbl := by sorry
theorem w_1250 : (.methodLink "QueryBenchModel" 151 ⟨"QueryBenchModel", "fail", "(I)Z"⟩ : Cond) ∈ gtbl := by sorry
theorem w_1252 : (.instanceMethod ⟨"QueryBenchModel", "fail", "(I)Z"⟩ : Cond) ∈ gtbl := by sorry
theorem va_up_id {v : Nat → Value} {k : Nat} {x : Value} (h : v k = x) : va_up v k x = v := by sorry
abbrev blkH (x : Int32) : Prop := x = 32 ∨ x = 9 ∨ x = 10 ∨ x = 13
theorem blkH_lt {f : Nat → Int32} {n i : Nat} (h : blkH (hereV f n i)) : i < n := by sorry
def skH (f : Nat → Int32) (n : Nat) : Nat → Nat → Nat
  | 0, j => j
  | k + 1, j => if blkH (hereV f n j) then skH f n k (j + 1) else j
/-- behind the blanks, as the reference goes -/
def skipH (f : Nat → Int32) (n i : Nat) : Nat := skH f n (n - i) i
theorem skipH_s {f : Nat → Int32} {n i : Nat} (hb : blkH (hereV f n i)) : skipH f n i = skipH f n (i + 1) := by sorry
theorem skipH_e {f : Nat → Int32} {n i : Nat} (h : ¬ blkH (hereV f n i)) : skipH f n i = i := by sorry
theorem skH_le (f : Nat → Int32) (n : Nat) : ∀ (k j : Nat), j ≤ skH f n k j ∧ skH f n k j ≤ max j n := by sorry
theorem skipH_le (f : Nat → Int32) (n i : Nat) : i ≤ skipH f n i ∧ skipH f n i ≤ max i n := by sorry
abbrev letH (x : Int32) : Prop := (¬ x < 97 ∧ x ≤ 122) ∨ (¬ x < 65 ∧ x ≤ 90) ∨ x = 95
abbrev opH (x : Int32) : Prop := x = 61 ∨ x = 33 ∨ x = 60 ∨ x = 62
abbrev b_Mo_take : ByteArray := prog_14_method_17_code
def y_Mo_take : MethodName := ⟨"QueryBenchModel", "take", "(I)Z"⟩
abbrev k_Mo_take : Cond := .code y_Mo_take b_Mo_take 2 (some .boolean)
theorem i_Mo_take : k_Mo_take ∈ gtbl := by sorry
theorem d_Mo_take_0 : decode b_Mo_take 0 = .ok (.aload_n 0, 1) := by sorry
theorem d_Mo_take_1 : decode b_Mo_take 1 = .ok (.invokevirtual 147, 3) := by sorry
theorem d_Mo_take_4 : decode b_Mo_take 4 = .ok (.iload_n 1, 1) := by sorry
theorem d_Mo_take_5 : decode b_Mo_take 5 = .ok (.if_icmp .eq 12, 3) := by sorry
theorem d_Mo_take_8 : decode b_Mo_take 8 = .ok (.aload_n 0, 1) := by sorry
theorem d_Mo_take_9 : decode b_Mo_take 9 = .ok (.aload_n 0, 1) := by sorry
theorem d_Mo_take_10 : decode b_Mo_take 10 = .ok (.getfield 135, 3) := by sorry
theorem d_Mo_take_13 : decode b_Mo_take 13 = .ok (.invokevirtual 151, 3) := by sorry
theorem d_Mo_take_16 : decode b_Mo_take 16 = .ok (.ireturn, 1) := by sorry
theorem d_Mo_take_17 : decode b_Mo_take 17 = .ok (.aload_n 0, 1) := by sorry
theorem d_Mo_take_18 : decode b_Mo_take 18 = .ok (.dup, 1) := by sorry
theorem d_Mo_take_19 : decode b_Mo_take 19 = .ok (.getfield 135, 3) := by sorry
theorem d_Mo_take_22 : decode b_Mo_take 22 = .ok (.iconst 1, 1) := by sorry
theorem d_Mo_take_23 : decode b_Mo_take 23 = .ok (.iadd, 1) := by sorry
theorem d_Mo_take_24 : decode b_Mo_take 24 = .ok (.putfield 135, 3) := by sorry
theorem d_Mo_take_27 : decode b_Mo_take 27 = .ok (.iconst 1, 1) := by sorry
theorem d_Mo_take_28 : decode b_Mo_take 28 = .ok (.ireturn, 1) := by sorry
set_option maxHeartbeats 4000000 in
set_option maxRecDepth 100000 in
/-- the reference: take -/
theorem c_Mo_take (l : Launch) (dC : Nat → ClassId) (dI : Nat → Nat → Nat) (mo : Nat) (sz : Heap) (v : Nat → Value) (cB : ClassId) (qx NN : Nat) (f : Nat → Int32) (n i : Nat) (hnN : n ≤ NN) (hNN : NN ≤ 1000000) (hi0 : i ≤ 1000000) (h6 : v 6 = .ref qx) (h7 : v 7 = .int (nI i)) (h8 : v 8 = .int (nI n)) (br : Int32) (h9 : v 9 = .int br) (ch : Int32) : Met l y_Mo_take (k_Mo_take :: gtbl) ({ frames := 1, cells := 0, slots := 0, locals := 24 }) (va_Pc [.ref mo, .int ch] (mp dC dI [(mo, .inr (13, MF 30 v)), (qx, .inl (cB, NN, .inl f))] [(cB, .byte)] sz)) (va_Qi (fun (r : Int32) (u : Nat → Value) => (hereV f n i = ch ∧ r = 1 ∧ u = va_up v 7 (.int (nI (i + 1)))) ∨ (¬ hereV f n i = ch ∧ r = 0 ∧ u = mfail v br (nI i))) (fun u => mz dC dI [(mo, .inr (13, MF 30 u)), (qx, .inl (cB, NN, .inl f))] [(cB, .byte)] (va_A [(mo, .inr (13, MF 30 v)), (qx, .inl (cB, NN, .inl f))] sz.size)) (va_A [(mo, .inr (13, MF 30 v)), (qx, .inl (cB, NN, .inl f))] sz.size)) 0 0 (va_A [(mo, .inr (13, MF 30 v)), (qx, .inl (cB, NN, .inl f))] sz.size) := by sorry
abbrev b_Mo_blanks : ByteArray := prog_14_method_15_code
def y_Mo_blanks : MethodName := ⟨"QueryBenchModel", "blanks", "()V"⟩
abbrev k_Mo_blanks : Cond := .code y_Mo_blanks b_Mo_blanks 1 none
theorem i_Mo_blanks : k_Mo_blanks ∈ gtbl := by sorry
theorem d_Mo_blanks_0 : decode b_Mo_blanks 0 = .ok (.aload_n 0, 1) := by sorry
theorem d_Mo_blanks_1 : decode b_Mo_blanks 1 = .ok (.invokevirtual 147, 3) := by sorry
theorem d_Mo_blanks_4 : decode b_Mo_blanks 4 = .ok (.bipush 32, 2) := by sorry
theorem d_Mo_blanks_6 : decode b_Mo_blanks 6 = .ok (.if_icmp .eq 30, 3) := by sorry
theorem d_Mo_blanks_9 : decode b_Mo_blanks 9 = .ok (.aload_n 0, 1) := by sorry
theorem d_Mo_blanks_10 : decode b_Mo_blanks 10 = .ok (.invokevirtual 147, 3) := by sorry
theorem d_Mo_blanks_13 : decode b_Mo_blanks 13 = .ok (.bipush 9, 2) := by sorry
theorem d_Mo_blanks_15 : decode b_Mo_blanks 15 = .ok (.if_icmp .eq 21, 3) := by sorry
theorem d_Mo_blanks_18 : decode b_Mo_blanks 18 = .ok (.aload_n 0, 1) := by sorry
theorem d_Mo_blanks_19 : decode b_Mo_blanks 19 = .ok (.invokevirtual 147, 3) := by sorry
theorem d_Mo_blanks_22 : decode b_Mo_blanks 22 = .ok (.bipush 10, 2) := by sorry
theorem d_Mo_blanks_24 : decode b_Mo_blanks 24 = .ok (.if_icmp .eq 12, 3) := by sorry
theorem d_Mo_blanks_27 : decode b_Mo_blanks 27 = .ok (.aload_n 0, 1) := by sorry
theorem d_Mo_blanks_28 : decode b_Mo_blanks 28 = .ok (.invokevirtual 147, 3) := by sorry
theorem d_Mo_blanks_31 : decode b_Mo_blanks 31 = .ok (.bipush 13, 2) := by sorry
theorem d_Mo_blanks_33 : decode b_Mo_blanks 33 = .ok (.if_icmp .ne 16, 3) := by sorry
theorem d_Mo_blanks_36 : decode b_Mo_blanks 36 = .ok (.aload_n 0, 1) := by sorry
theorem d_Mo_blanks_37 : decode b_Mo_blanks 37 = .ok (.dup, 1) := by sorry
theorem d_Mo_blanks_38 : decode b_Mo_blanks 38 = .ok (.getfield 135, 3) := by sorry
theorem d_Mo_blanks_41 : decode b_Mo_blanks 41 = .ok (.iconst 1, 1) := by sorry
theorem d_Mo_blanks_42 : decode b_Mo_blanks 42 = .ok (.iadd, 1) := by sorry
theorem d_Mo_blanks_43 : decode b_Mo_blanks 43 = .ok (.putfield 135, 3) := by sorry
theorem d_Mo_blanks_46 : decode b_Mo_blanks 46 = .ok (.goto (-46), 3) := by sorry
theorem d_Mo_blanks_49 : decode b_Mo_blanks 49 = .ok (.return_, 1) := by sorry
set_option maxHeartbeats 4000000 in
set_option maxRecDepth 100000 in
/-- the reference: blanks -/
theorem c_Mo_blanks (l : Launch) (dC : Nat → ClassId) (dI : Nat → Nat → Nat) (mo : Nat) (sz : Heap) (v : Nat → Value) (cB : ClassId) (qx NN : Nat) (f : Nat → Int32) (n i : Nat) (hnN : n ≤ NN) (hNN : NN ≤ 1000000) (hi0 : i ≤ 900000) (h6 : v 6 = .ref qx) (h7 : v 7 = .int (nI i)) (h8 : v 8 = .int (nI n)) : Met l y_Mo_blanks (k_Mo_blanks :: gtbl) ({ frames := 1, cells := 0, slots := 0, locals := 24 }) (va_Pc [.ref mo] (mp dC dI [(mo, .inr (13, MF 30 v)), (qx, .inl (cB, NN, .inl f))] [(cB, .byte)] sz)) (va_Qv (fun (_ : Unit) => True) (fun _ => mz dC dI [(mo, .inr (13, MF 30 (va_up v 7 (.int (nI (skipH f n i)))))), (qx, .inl (cB, NN, .inl f))] [(cB, .byte)] (va_A [(mo, .inr (13, MF 30 v)), (qx, .inl (cB, NN, .inl f))] sz.size)) (va_A [(mo, .inr (13, MF 30 v)), (qx, .inl (cB, NN, .inl f))] sz.size)) 0 0 (va_A [(mo, .inr (13, MF 30 v)), (qx, .inl (cB, NN, .inl f))] sz.size) := by sorry
abbrev b_Mo_letter : ByteArray := prog_14_method_36_code
def y_Mo_letter : MethodName := ⟨"QueryBenchModel", "letter", "(I)Z"⟩
abbrev k_Mo_letter : Cond := .code y_Mo_letter b_Mo_letter 1 (some .boolean)
theorem i_Mo_letter : k_Mo_letter ∈ gtbl := by sorry
theorem d_Mo_letter_0 : decode b_Mo_letter 0 = .ok (.iload_n 0, 1) := by sorry
theorem d_Mo_letter_1 : decode b_Mo_letter 1 = .ok (.bipush 97, 2) := by sorry
theorem d_Mo_letter_3 : decode b_Mo_letter 3 = .ok (.if_icmp .lt 9, 3) := by sorry
theorem d_Mo_letter_6 : decode b_Mo_letter 6 = .ok (.iload_n 0, 1) := by sorry
theorem d_Mo_letter_7 : decode b_Mo_letter 7 = .ok (.bipush 122, 2) := by sorry
theorem d_Mo_letter_9 : decode b_Mo_letter 9 = .ok (.if_icmp .le 21, 3) := by sorry
theorem d_Mo_letter_12 : decode b_Mo_letter 12 = .ok (.iload_n 0, 1) := by sorry
theorem d_Mo_letter_13 : decode b_Mo_letter 13 = .ok (.bipush 65, 2) := by sorry
theorem d_Mo_letter_15 : decode b_Mo_letter 15 = .ok (.if_icmp .lt 9, 3) := by sorry
theorem d_Mo_letter_18 : decode b_Mo_letter 18 = .ok (.iload_n 0, 1) := by sorry
theorem d_Mo_letter_19 : decode b_Mo_letter 19 = .ok (.bipush 90, 2) := by sorry
theorem d_Mo_letter_21 : decode b_Mo_letter 21 = .ok (.if_icmp .le 9, 3) := by sorry
theorem d_Mo_letter_24 : decode b_Mo_letter 24 = .ok (.iload_n 0, 1) := by sorry
theorem d_Mo_letter_25 : decode b_Mo_letter 25 = .ok (.bipush 95, 2) := by sorry
theorem d_Mo_letter_27 : decode b_Mo_letter 27 = .ok (.if_icmp .ne 7, 3) := by sorry
theorem d_Mo_letter_30 : decode b_Mo_letter 30 = .ok (.iconst 1, 1) := by sorry
theorem d_Mo_letter_31 : decode b_Mo_letter 31 = .ok (.goto 4, 3) := by sorry
theorem d_Mo_letter_34 : decode b_Mo_letter 34 = .ok (.iconst 0, 1) := by sorry
theorem d_Mo_letter_35 : decode b_Mo_letter 35 = .ok (.ireturn, 1) := by sorry
set_option maxHeartbeats 4000000 in
set_option maxRecDepth 100000 in
/-- the reference: letter -/
theorem c_Mo_letter (l : Launch) (dC : Nat → ClassId) (dI : Nat → Nat → Nat) (sz : Heap) (x : Int32) : Met l y_Mo_letter (k_Mo_letter :: gtbl) ({ frames := 0, cells := 0, slots := 0, locals := 0 }) (va_Pc [.int x] (mp dC dI [] [] sz)) (va_Qi (fun (r : Int32) (_ : Unit) => r = if letH x then 1 else 0) (fun _ => mz dC dI [] [] (va_A [] sz.size)) (va_A [] sz.size)) 0 0 (va_A [] sz.size) := by sorry
abbrev b_Mo_operator : ByteArray := prog_14_method_48_code
def y_Mo_operator : MethodName := ⟨"QueryBenchModel", "operator", "()Z"⟩
abbrev k_Mo_operator : Cond := .code y_Mo_operator b_Mo_operator 1 (some .boolean)
theorem i_Mo_operator : k_Mo_operator ∈ gtbl := by sorry
theorem d_Mo_operator_0 : decode b_Mo_operator 0 = .ok (.aload_n 0, 1) := by sorry
theorem d_Mo_operator_1 : decode b_Mo_operator 1 = .ok (.invokevirtual 147, 3) := by sorry
theorem d_Mo_operator_4 : decode b_Mo_operator 4 = .ok (.bipush 61, 2) := by sorry
theorem d_Mo_operator_6 : decode b_Mo_operator 6 = .ok (.if_icmp .eq 30, 3) := by sorry
theorem d_Mo_operator_9 : decode b_Mo_operator 9 = .ok (.aload_n 0, 1) := by sorry
theorem d_Mo_operator_10 : decode b_Mo_operator 10 = .ok (.invokevirtual 147, 3) := by sorry
theorem d_Mo_operator_13 : decode b_Mo_operator 13 = .ok (.bipush 33, 2) := by sorry
theorem d_Mo_operator_15 : decode b_Mo_operator 15 = .ok (.if_icmp .eq 21, 3) := by sorry
theorem d_Mo_operator_18 : decode b_Mo_operator 18 = .ok (.aload_n 0, 1) := by sorry
theorem d_Mo_operator_19 : decode b_Mo_operator 19 = .ok (.invokevirtual 147, 3) := by sorry
theorem d_Mo_operator_22 : decode b_Mo_operator 22 = .ok (.bipush 60, 2) := by sorry
theorem d_Mo_operator_24 : decode b_Mo_operator 24 = .ok (.if_icmp .eq 12, 3) := by sorry
theorem d_Mo_operator_27 : decode b_Mo_operator 27 = .ok (.aload_n 0, 1) := by sorry
theorem d_Mo_operator_28 : decode b_Mo_operator 28 = .ok (.invokevirtual 147, 3) := by sorry
theorem d_Mo_operator_31 : decode b_Mo_operator 31 = .ok (.bipush 62, 2) := by sorry
theorem d_Mo_operator_33 : decode b_Mo_operator 33 = .ok (.if_icmp .ne 7, 3) := by sorry
theorem d_Mo_operator_36 : decode b_Mo_operator 36 = .ok (.iconst 1, 1) := by sorry
theorem d_Mo_operator_37 : decode b_Mo_operator 37 = .ok (.goto 4, 3) := by sorry
theorem d_Mo_operator_40 : decode b_Mo_operator 40 = .ok (.iconst 0, 1) := by sorry
theorem d_Mo_operator_41 : decode b_Mo_operator 41 = .ok (.ireturn, 1) := by sorry
set_option maxHeartbeats 4000000 in
set_option maxRecDepth 100000 in
/-- the reference: operator -/
theorem c_Mo_operator (l : Launch) (dC : Nat → ClassId) (dI : Nat → Nat → Nat) (mo : Nat) (sz : Heap) (v : Nat → Value) (cB : ClassId) (qx NN : Nat) (f : Nat → Int32) (n i : Nat) (hnN : n ≤ NN) (hNN : NN ≤ 1000000) (hi0 : i ≤ 1000000) (h6 : v 6 = .ref qx) (h7 : v 7 = .int (nI i)) (h8 : v 8 = .int (nI n)) : Met l y_Mo_operator (k_Mo_operator :: gtbl) ({ frames := 1, cells := 0, slots := 0, locals := 24 }) (va_Pc [.ref mo] (mp dC dI [(mo, .inr (13, MF 30 v)), (qx, .inl (cB, NN, .inl f))] [(cB, .byte)] sz)) (va_Qi (fun (r : Int32) (_ : Unit) => r = if opH (hereV f n i) then 1 else 0) (fun _ => mz dC dI [(mo, .inr (13, MF 30 v)), (qx, .inl (cB, NN, .inl f))] [(cB, .byte)] (va_A [(mo, .inr (13, MF 30 v)), (qx, .inl (cB, NN, .inl f))] sz.size)) (va_A [(mo, .inr (13, MF 30 v)), (qx, .inl (cB, NN, .inl f))] sz.size)) 0 0 (va_A [(mo, .inr (13, MF 30 v)), (qx, .inl (cB, NN, .inl f))] sz.size) := by sorry
abbrev b_Mo_enter : ByteArray := prog_14_method_37_code
def y_Mo_enter : MethodName := ⟨"QueryBenchModel", "enter", "(I)Z"⟩
abbrev k_Mo_enter : Cond := .code y_Mo_enter b_Mo_enter 2 (some .boolean)
theorem i_Mo_enter : k_Mo_enter ∈ gtbl := by sorry
theorem d_Mo_enter_0 : decode b_Mo_enter 0 = .ok (.aload_n 0, 1) := by sorry
theorem d_Mo_enter_1 : decode b_Mo_enter 1 = .ok (.invokevirtual 147, 3) := by sorry
theorem d_Mo_enter_4 : decode b_Mo_enter 4 = .ok (.iload_n 1, 1) := by sorry
theorem d_Mo_enter_5 : decode b_Mo_enter 5 = .ok (.if_icmp .ne 12, 3) := by sorry
theorem d_Mo_enter_8 : decode b_Mo_enter 8 = .ok (.aload_n 0, 1) := by sorry
theorem d_Mo_enter_9 : decode b_Mo_enter 9 = .ok (.getfield 266, 3) := by sorry
theorem d_Mo_enter_12 : decode b_Mo_enter 12 = .ok (.bipush 16, 2) := by sorry
theorem d_Mo_enter_14 : decode b_Mo_enter 14 = .ok (.if_icmp .ne 12, 3) := by sorry
theorem d_Mo_enter_17 : decode b_Mo_enter 17 = .ok (.aload_n 0, 1) := by sorry
theorem d_Mo_enter_18 : decode b_Mo_enter 18 = .ok (.aload_n 0, 1) := by sorry
theorem d_Mo_enter_19 : decode b_Mo_enter 19 = .ok (.getfield 135, 3) := by sorry
theorem d_Mo_enter_22 : decode b_Mo_enter 22 = .ok (.invokevirtual 151, 3) := by sorry
theorem d_Mo_enter_25 : decode b_Mo_enter 25 = .ok (.ireturn, 1) := by sorry
theorem d_Mo_enter_26 : decode b_Mo_enter 26 = .ok (.aload_n 0, 1) := by sorry
theorem d_Mo_enter_27 : decode b_Mo_enter 27 = .ok (.dup, 1) := by sorry
theorem d_Mo_enter_28 : decode b_Mo_enter 28 = .ok (.getfield 266, 3) := by sorry
theorem d_Mo_enter_31 : decode b_Mo_enter 31 = .ok (.iconst 1, 1) := by sorry
theorem d_Mo_enter_32 : decode b_Mo_enter 32 = .ok (.iadd, 1) := by sorry
theorem d_Mo_enter_33 : decode b_Mo_enter 33 = .ok (.putfield 266, 3) := by sorry
theorem d_Mo_enter_36 : decode b_Mo_enter 36 = .ok (.aload_n 0, 1) := by sorry
theorem d_Mo_enter_37 : decode b_Mo_enter 37 = .ok (.dup, 1) := by sorry
theorem d_Mo_enter_38 : decode b_Mo_enter 38 = .ok (.getfield 135, 3) := by sorry
theorem d_Mo_enter_41 : decode b_Mo_enter 41 = .ok (.iconst 1, 1) := by sorry
theorem d_Mo_enter_42 : decode b_Mo_enter 42 = .ok (.iadd, 1) := by sorry
theorem d_Mo_enter_43 : decode b_Mo_enter 43 = .ok (.putfield 135, 3) := by sorry
theorem d_Mo_enter_46 : decode b_Mo_enter 46 = .ok (.iconst 1, 1) := by sorry
theorem d_Mo_enter_47 : decode b_Mo_enter 47 = .ok (.ireturn, 1) := by sorry
set_option maxHeartbeats 4000000 in
set_option maxRecDepth 100000 in
/-- the reference: enter -/
theorem c_Mo_enter (l : Launch) (dC : Nat → ClassId) (dI : Nat → Nat → Nat) (mo : Nat) (sz : Heap) (v : Nat → Value) (cB : ClassId) (qx NN : Nat) (f : Nat → Int32) (n i : Nat) (hnN : n ≤ NN) (hNN : NN ≤ 1000000) (hi0 : i ≤ 1000000) (h6 : v 6 = .ref qx) (h7 : v 7 = .int (nI i)) (h8 : v 8 = .int (nI n)) (br : Int32) (h9 : v 9 = .int br) (ch : Int32) (o : Nat) (ho : o ≤ 1000) (h23 : v 23 = .int (nI o)) : Met l y_Mo_enter (k_Mo_enter :: gtbl) ({ frames := 1, cells := 0, slots := 0, locals := 24 }) (va_Pc [.ref mo, .int ch] (mp dC dI [(mo, .inr (13, MF 30 v)), (qx, .inl (cB, NN, .inl f))] [(cB, .byte)] sz)) (va_Qi (fun (r : Int32) (u : Nat → Value) => ((hereV f n i = ch ∧ ¬ o = 16) ∧ r = 1 ∧ u = va_up (va_up v 23 (.int (nI (o + 1)))) 7 (.int (nI (i + 1)))) ∨ (¬ (hereV f n i = ch ∧ ¬ o = 16) ∧ r = 0 ∧ u = mfail v br (nI i))) (fun u => mz dC dI [(mo, .inr (13, MF 30 u)), (qx, .inl (cB, NN, .inl f))] [(cB, .byte)] (va_A [(mo, .inr (13, MF 30 v)), (qx, .inl (cB, NN, .inl f))] sz.size)) (va_A [(mo, .inr (13, MF 30 v)), (qx, .inl (cB, NN, .inl f))] sz.size)) 0 0 (va_A [(mo, .inr (13, MF 30 v)), (qx, .inl (cB, NN, .inl f))] sz.size) := by sorry
abbrev b_Mo_begin : ByteArray := prog_14_method_31_code
def y_Mo_begin : MethodName := ⟨"QueryBenchModel", "begin", "()V"⟩
abbrev k_Mo_begin : Cond := .code y_Mo_begin b_Mo_begin 1 none
theorem i_Mo_begin : k_Mo_begin ∈ gtbl := by sorry
theorem d_Mo_begin_0 : decode b_Mo_begin 0 = .ok (.aload_n 0, 1) := by sorry
theorem d_Mo_begin_1 : decode b_Mo_begin 1 = .ok (.iconst 0, 1) := by sorry
theorem d_Mo_begin_2 : decode b_Mo_begin 2 = .ok (.putfield 232, 3) := by sorry
theorem d_Mo_begin_5 : decode b_Mo_begin 5 = .ok (.aload_n 0, 1) := by sorry
theorem d_Mo_begin_6 : decode b_Mo_begin 6 = .ok (.iconst 0, 1) := by sorry
theorem d_Mo_begin_7 : decode b_Mo_begin 7 = .ok (.putfield 235, 3) := by sorry
theorem d_Mo_begin_10 : decode b_Mo_begin 10 = .ok (.return_, 1) := by sorry
set_option maxHeartbeats 4000000 in
set_option maxRecDepth 100000 in
/-- the reference: begin -/
theorem c_Mo_begin (l : Launch) (dC : Nat → ClassId) (dI : Nat → Nat → Nat) (mo : Nat) (sz : Heap) (v : Nat → Value)  : Met l y_Mo_begin (k_Mo_begin :: gtbl) ({ frames := 0, cells := 0, slots := 0, locals := 0 }) (va_Pc [.ref mo] (mp dC dI [(mo, .inr (13, MF 30 v))] [] sz)) (va_Qv (fun (_ : Unit) => True) (fun _ => mz dC dI [(mo, .inr (13, MF 30 (va_up (va_up v 11 (.int 0)) 12 (.int 0))))] [] (va_A [(mo, .inr (13, MF 30 v))] sz.size)) (va_A [(mo, .inr (13, MF 30 v))] sz.size)) 0 0 (va_A [(mo, .inr (13, MF 30 v))] sz.size) := by sorry
abbrev b_Mo_field : ByteArray := prog_14_method_34_code
def y_Mo_field : MethodName := ⟨"QueryBenchModel", "field", "(II)I"⟩
abbrev k_Mo_field : Cond := .code y_Mo_field b_Mo_field 3 (some .int)
theorem i_Mo_field : k_Mo_field ∈ gtbl := by sorry
theorem d_Mo_field_0 : decode b_Mo_field 0 = .ok (.aload_n 0, 1) := by sorry
theorem d_Mo_field_1 : decode b_Mo_field 1 = .ok (.getfield 49, 3) := by sorry
theorem d_Mo_field_4 : decode b_Mo_field 4 = .ok (.bipush 8, 2) := by sorry
theorem d_Mo_field_6 : decode b_Mo_field 6 = .ok (.iload_n 1, 1) := by sorry
theorem d_Mo_field_7 : decode b_Mo_field 7 = .ok (.imul, 1) := by sorry
theorem d_Mo_field_8 : decode b_Mo_field 8 = .ok (.iload_n 2, 1) := by sorry
theorem d_Mo_field_9 : decode b_Mo_field 9 = .ok (.iadd, 1) := by sorry
theorem d_Mo_field_10 : decode b_Mo_field 10 = .ok (.iaload, 1) := by sorry
theorem d_Mo_field_11 : decode b_Mo_field 11 = .ok (.ireturn, 1) := by sorry
set_option maxHeartbeats 4000000 in
set_option maxRecDepth 100000 in
/-- the reference: field -/
theorem c_Mo_field (l : Launch) (dC : Nat → ClassId) (dI : Nat → Nat → Nat) (mo : Nat) (sz : Heap) (v : Nat → Value) (cI : ClassId) (qq NQ : Nat) (g : Nat → Int32) (a b : Nat) (hab : 8 * a + b < NQ) (hNQ : NQ ≤ 100000000) (h19 : v 19 = .ref qq) : Met l y_Mo_field (k_Mo_field :: gtbl) ({ frames := 0, cells := 0, slots := 0, locals := 0 }) (va_Pc [.ref mo, .int (nI a), .int (nI b)] (mp dC dI [(mo, .inr (13, MF 30 v)), (qq, .inl (cI, NQ, .inl g))] [(cI, .int)] sz)) (va_Qi (fun (r : Int32) (_ : Unit) => r = g (8 * a + b)) (fun _ => mz dC dI [(mo, .inr (13, MF 30 v)), (qq, .inl (cI, NQ, .inl g))] [(cI, .int)] (va_A [(mo, .inr (13, MF 30 v)), (qq, .inl (cI, NQ, .inl g))] sz.size)) (va_A [(mo, .inr (13, MF 30 v)), (qq, .inl (cI, NQ, .inl g))] sz.size)) 0 0 (va_A [(mo, .inr (13, MF 30 v)), (qq, .inl (cI, NQ, .inl g))] sz.size) := by sorry
abbrev b_Mo_set : ByteArray := prog_14_method_35_code
def y_Mo_set : MethodName := ⟨"QueryBenchModel", "set", "(III)V"⟩
abbrev k_Mo_set : Cond := .code y_Mo_set b_Mo_set 4 none
theorem i_Mo_set : k_Mo_set ∈ gtbl := by sorry
theorem d_Mo_set_0 : decode b_Mo_set 0 = .ok (.aload_n 0, 1) := by sorry
theorem d_Mo_set_1 : decode b_Mo_set 1 = .ok (.getfield 49, 3) := by sorry
theorem d_Mo_set_4 : decode b_Mo_set 4 = .ok (.bipush 8, 2) := by sorry
theorem d_Mo_set_6 : decode b_Mo_set 6 = .ok (.iload_n 1, 1) := by sorry
theorem d_Mo_set_7 : decode b_Mo_set 7 = .ok (.imul, 1) := by sorry
theorem d_Mo_set_8 : decode b_Mo_set 8 = .ok (.iload_n 2, 1) := by sorry
theorem d_Mo_set_9 : decode b_Mo_set 9 = .ok (.iadd, 1) := by sorry
theorem d_Mo_set_10 : decode b_Mo_set 10 = .ok (.iload_n 3, 1) := by sorry
theorem d_Mo_set_11 : decode b_Mo_set 11 = .ok (.iastore, 1) := by sorry
theorem d_Mo_set_12 : decode b_Mo_set 12 = .ok (.return_, 1) := by sorry
set_option maxHeartbeats 4000000 in
set_option maxRecDepth 100000 in
/-- the reference: set -/
theorem c_Mo_set (l : Launch) (dC : Nat → ClassId) (dI : Nat → Nat → Nat) (mo : Nat) (sz : Heap) (v : Nat → Value) (cI : ClassId) (qq NQ : Nat) (g : Nat → Int32) (a b : Nat) (y : Int32) (hab : 8 * a + b < NQ) (hNQ : NQ ≤ 100000000) (h19 : v 19 = .ref qq) : Met l y_Mo_set (k_Mo_set :: gtbl) ({ frames := 0, cells := 0, slots := 0, locals := 0 }) (va_Pc [.ref mo, .int (nI a), .int (nI b), .int y] (mp dC dI [(mo, .inr (13, MF 30 v)), (qq, .inl (cI, NQ, .inl g))] [(cI, .int)] sz)) (va_Qv (fun (_ : Unit) => True) (fun _ => mz dC dI [(mo, .inr (13, MF 30 v)), (qq, .inl (cI, NQ, .inl (upd g (8 * a + b) y)))] [(cI, .int)] (va_A [(mo, .inr (13, MF 30 v)), (qq, .inl (cI, NQ, .inl g))] sz.size)) (va_A [(mo, .inr (13, MF 30 v)), (qq, .inl (cI, NQ, .inl g))] sz.size)) 0 0 (va_A [(mo, .inr (13, MF 30 v)), (qq, .inl (cI, NQ, .inl g))] sz.size) := by sorry
end
section
theorem w_18 : (.initialized "java/lang/String" : Cond) ∈ gtbl := by sorry
theorem w_19 : (.initialized "java/lang/StringLatin1" : Cond) ∈ gtbl := by sorry
theorem w_20 : (.initialized "jdk/internal/util/Preconditions" : Cond) ∈ gtbl := by sorry
theorem w_459 : (.methodLink "java/lang/String" 335 ⟨"java/lang/String", "coder", "()B"⟩ : Cond) ∈ gtbl := by sorry
theorem w_460 : (.instanceMethod ⟨"java/lang/String", "coder", "()B"⟩ : Cond) ∈ gtbl := by sorry
theorem w_461 : (.selects "java/lang/String" ⟨"java/lang/String", "coder", "()B"⟩ ⟨"java/lang/String", "coder", "()B"⟩ : Cond) ∈ gtbl := by sorry
theorem w_463 : (.fieldLink "java/lang/String" 38 "java/lang/String" "COMPACT_STRINGS" "Z" : Cond) ∈ gtbl := by sorry
theorem w_469 : (.methodLink "java/lang/String" 492 ⟨"java/lang/String", "isLatin1", "()Z"⟩ : Cond) ∈ gtbl := by sorry
theorem w_470 : (.instanceMethod ⟨"java/lang/String", "isLatin1", "()Z"⟩ : Cond) ∈ gtbl := by sorry
theorem w_471 : (.selects "java/lang/String" ⟨"java/lang/String", "isLatin1", "()Z"⟩ ⟨"java/lang/String", "isLatin1", "()Z"⟩ : Cond) ∈ gtbl := by sorry
theorem w_473 : (.methodLink "java/lang/String" 495 ⟨"java/lang/StringLatin1", "charAt", "([BI)C"⟩ : Cond) ∈ gtbl := by sorry
theorem w_474 : (.static ⟨"java/lang/StringLatin1", "charAt", "([BI)C"⟩ : Cond) ∈ gtbl := by sorry
theorem w_476 : (.methodLink "java/lang/StringLatin1" 9 ⟨"java/lang/String", "checkIndex", "(II)V"⟩ : Cond) ∈ gtbl := by sorry
theorem w_477 : (.static ⟨"java/lang/String", "checkIndex", "(II)V"⟩ : Cond) ∈ gtbl := by sorry
theorem w_479 : (.fieldLink "java/lang/String" 1053 "jdk/internal/util/Preconditions" "SIOOBE_FORMATTER" "Ljava/util/function/BiFunction;" : Cond) ∈ gtbl := by sorry
theorem w_481 : (.methodLink "java/lang/String" 1059 ⟨"jdk/internal/util/Preconditions", "checkIndex", "(IILjava/util/function/BiFunction;)I"⟩ : Cond) ∈ gtbl := by sorry
theorem w_482 : (.static ⟨"jdk/internal/util/Preconditions", "checkIndex", "(IILjava/util/function/BiFunction;)I"⟩ : Cond) ∈ gtbl := by sorry
theorem w_1574 : (.fieldLink "java/lang/String" 9 "java/lang/String" "value" "[B" : Cond) ∈ gtbl := by sorry
theorem w_1575 : (.fieldLink "java/lang/String" 15 "java/lang/String" "coder" "B" : Cond) ∈ gtbl := by sorry
def R_Str : String := "java/lang/String"
def R_Lat : String := "java/lang/StringLatin1"
def R_Pre : String := "jdk/internal/util/Preconditions"
abbrev FMT (A : Nat → Prop) (U : State) (H : Heap) : Prop := va_Zq "jdk/internal/util/Preconditions" "SIOOBE_FORMATTER" "Ljava/util/function/BiFunction;" A U H
/-- a text: an object of String with one byte for each sign -/
abbrev SX (sa av len : Nat) (b : Nat → Int32) (A : Nat → Prop) (U : State) (H : Heap) : Prop := va_O "java/lang/String" sa A U H ∧ va_OF "java/lang/String" "coder" "B" (.int 0) sa A U H ∧ va_OF "java/lang/String" "value" "[B" (.ref av) sa A U H ∧ va_T .byte av len (fun j => .int (b j)) A U H ∧ va_Z "java/lang/String" "COMPACT_STRINGS" "Z" (.int 1) A U H ∧ FMT A U H
theorem SX.moved' {sa av len : Nat} {b : Nat → Int32} {A : Nat → Prop} {u U : State} {H : Heap} (hvm : u.vm.Alike U.vm) (h : SX sa av len b A u H) : SX sa av len b A U H := by sorry
theorem SX.kept' {sa av len : Nat} {b : Nat → Int32} {A : Nat → Prop} {U : State} {H H1 : Heap} (h : SX sa av len b A U H) (hq : ∀ a : Nat, a < H.size → ¬ A a → H1[a]? = H[a]?) : SX sa av len b A U H1 := by sorry
theorem SX.narrow' {sa av len : Nat} {b : Nat → Int32} {A B : Nat → Prop} {U : State} {H : Heap} (h : SX sa av len b A U H) (hAB : ∀ q, B q → A q) : SX sa av len b B U H := by sorry
abbrev mstr (sa av len : Nat) (b : Nat → Int32) (dC : Nat → ClassId) (dI : Nat → Nat → Nat) (ws : va_W) (tys : List (ClassId × FieldType)) (sz : Heap) (U : State) : Prop := mp dC dI ws tys sz U ∧ SX sa av len b (va_A ws sz.size) U U.heap
theorem mstr_blind {sa av len : Nat} {b : Nat → Int32} {dC : Nat → ClassId} {dI : Nat → Nat → Nat} {ws : va_W} {tys : List (ClassId × FieldType)} {sz : Heap} {vs : List Value} : FrameBlind (va_Pc vs (mstr sa av len b dC dI ws tys sz)) := by sorry
abbrev mpre (dC : Nat → ClassId) (dI : Nat → Nat → Nat) (ws : va_W) (tys : List (ClassId × FieldType)) (sz : Heap) (U : State) : Prop := mp dC dI ws tys sz U ∧ FMT (va_A ws sz.size) U U.heap
theorem mpre_blind {dC : Nat → ClassId} {dI : Nat → Nat → Nat} {ws : va_W} {tys : List (ClassId × FieldType)} {sz : Heap} {vs : List Value} : FrameBlind (va_Pc vs (mpre dC dI ws tys sz)) := by sorry
abbrev marr (av len : Nat) (b : Nat → Int32) (dC : Nat → ClassId) (dI : Nat → Nat → Nat) (ws : va_W) (tys : List (ClassId × FieldType)) (sz : Heap) (U : State) : Prop := mp dC dI ws tys sz U ∧ va_T .byte av len (fun j => .int (b j)) (va_A ws sz.size) U U.heap ∧ FMT (va_A ws sz.size) U U.heap
theorem marr_blind {av len : Nat} {b : Nat → Int32} {dC : Nat → ClassId} {dI : Nat → Nat → Nat} {ws : va_W} {tys : List (ClassId × FieldType)} {sz : Heap} {vs : List Value} : FrameBlind (va_Pc vs (marr av len b dC dI ws tys sz)) := by sorry
theorem ch255 (x : Int32) : ((x &&& 255).toUInt32 % 65536).toInt32 = x &&& 255 := by sorry
abbrev b_Str_coder : ByteArray := prog_23_method_152_code
def y_Str_coder : MethodName := ⟨"java/lang/String", "coder", "()B"⟩
abbrev k_Str_coder : Cond := .code y_Str_coder b_Str_coder 1 (some .byte)
theorem i_Str_coder : k_Str_coder ∈ gtbl := by sorry
theorem d_Str_coder_0 : decode b_Str_coder 0 = .ok (.getstatic 38, 3) := by sorry
theorem d_Str_coder_3 : decode b_Str_coder 3 = .ok (.ifCond .eq 10, 3) := by sorry
theorem d_Str_coder_6 : decode b_Str_coder 6 = .ok (.aload_n 0, 1) := by sorry
theorem d_Str_coder_7 : decode b_Str_coder 7 = .ok (.getfield 15, 3) := by sorry
theorem d_Str_coder_10 : decode b_Str_coder 10 = .ok (.goto 4, 3) := by sorry
theorem d_Str_coder_14 : decode b_Str_coder 14 = .ok (.ireturn, 1) := by sorry
set_option maxHeartbeats 4000000 in
set_option maxRecDepth 100000 in
/-- String.coder -/
theorem c_Str_coder (l : Launch) (dC : Nat → ClassId) (dI : Nat → Nat → Nat) (sz : Heap) (sa av len : Nat) (b : Nat → Int32)  : Met l y_Str_coder (k_Str_coder :: gtbl) ({ frames := 0, cells := 0, slots := 0, locals := 0 }) (va_Pc [.ref sa] (mstr sa av len b dC dI [] [] sz)) (va_Qi (fun (r : Int32) (_ : Unit) => r = 0) (fun _ => mz dC dI [] [] (va_A [] sz.size)) (va_A [] sz.size)) 0 0 (va_A [] sz.size) := by sorry
abbrev b_Str_isLatin1 : ByteArray := prog_23_method_154_code
def y_Str_isLatin1 : MethodName := ⟨"java/lang/String", "isLatin1", "()Z"⟩
abbrev k_Str_isLatin1 : Cond := .code y_Str_isLatin1 b_Str_isLatin1 1 (some .boolean)
theorem i_Str_isLatin1 : k_Str_isLatin1 ∈ gtbl := by sorry
theorem d_Str_isLatin1_0 : decode b_Str_isLatin1 0 = .ok (.getstatic 38, 3) := by sorry
theorem d_Str_isLatin1_3 : decode b_Str_isLatin1 3 = .ok (.ifCond .eq 14, 3) := by sorry
theorem d_Str_isLatin1_6 : decode b_Str_isLatin1 6 = .ok (.aload_n 0, 1) := by sorry
theorem d_Str_isLatin1_7 : decode b_Str_isLatin1 7 = .ok (.getfield 15, 3) := by sorry
theorem d_Str_isLatin1_10 : decode b_Str_isLatin1 10 = .ok (.ifCond .ne 7, 3) := by sorry
theorem d_Str_isLatin1_13 : decode b_Str_isLatin1 13 = .ok (.iconst 1, 1) := by sorry
theorem d_Str_isLatin1_14 : decode b_Str_isLatin1 14 = .ok (.goto 4, 3) := by sorry
theorem d_Str_isLatin1_18 : decode b_Str_isLatin1 18 = .ok (.ireturn, 1) := by sorry
set_option maxHeartbeats 4000000 in
set_option maxRecDepth 100000 in
/-- String.isLatin1 -/
theorem c_Str_isLatin1 (l : Launch) (dC : Nat → ClassId) (dI : Nat → Nat → Nat) (sz : Heap) (sa av len : Nat) (b : Nat → Int32)  : Met l y_Str_isLatin1 (k_Str_isLatin1 :: gtbl) ({ frames := 0, cells := 0, slots := 0, locals := 0 }) (va_Pc [.ref sa] (mstr sa av len b dC dI [] [] sz)) (va_Qi (fun (r : Int32) (_ : Unit) => r = 1) (fun _ => mz dC dI [] [] (va_A [] sz.size)) (va_A [] sz.size)) 0 0 (va_A [] sz.size) := by sorry
abbrev b_Str_length : ByteArray := prog_23_method_54_code
def y_Str_length : MethodName := ⟨"java/lang/String", "length", "()I"⟩
abbrev k_Str_length : Cond := .code y_Str_length b_Str_length 1 (some .int)
theorem i_Str_length : k_Str_length ∈ gtbl := by sorry
theorem d_Str_length_0 : decode b_Str_length 0 = .ok (.aload_n 0, 1) := by sorry
theorem d_Str_length_1 : decode b_Str_length 1 = .ok (.getfield 9, 3) := by sorry
theorem d_Str_length_4 : decode b_Str_length 4 = .ok (.arraylength, 1) := by sorry
theorem d_Str_length_5 : decode b_Str_length 5 = .ok (.aload_n 0, 1) := by sorry
theorem d_Str_length_6 : decode b_Str_length 6 = .ok (.invokevirtual 335, 3) := by sorry
theorem d_Str_length_9 : decode b_Str_length 9 = .ok (.ishr, 1) := by sorry
theorem d_Str_length_10 : decode b_Str_length 10 = .ok (.ireturn, 1) := by sorry
set_option maxHeartbeats 4000000 in
set_option maxRecDepth 100000 in
/-- String.length -/
theorem c_Str_length (l : Launch) (dC : Nat → ClassId) (dI : Nat → Nat → Nat) (sz : Heap) (sa av len : Nat) (b : Nat → Int32)  : Met l y_Str_length (k_Str_length :: gtbl) ({ frames := 1, cells := 0, slots := 0, locals := 20 }) (va_Pc [.ref sa] (mstr sa av len b dC dI [] [] sz)) (va_Qi (fun (r : Int32) (_ : Unit) => r = nI len) (fun _ => mz dC dI [] [] (va_A [] sz.size)) (va_A [] sz.size)) 0 0 (va_A [] sz.size) := by sorry
abbrev b_Pre_checkIndex : ByteArray := prog_29_method_11_code
def y_Pre_checkIndex : MethodName := ⟨"jdk/internal/util/Preconditions", "checkIndex", "(IILjava/util/function/BiFunction;)I"⟩
abbrev k_Pre_checkIndex : Cond := .code y_Pre_checkIndex b_Pre_checkIndex 3 (some .int)
theorem i_Pre_checkIndex : k_Pre_checkIndex ∈ gtbl := by sorry
theorem d_Pre_checkIndex_0 : decode b_Pre_checkIndex 0 = .ok (.iload_n 0, 1) := by sorry
theorem d_Pre_checkIndex_1 : decode b_Pre_checkIndex 1 = .ok (.ifCond .lt 8, 3) := by sorry
theorem d_Pre_checkIndex_4 : decode b_Pre_checkIndex 4 = .ok (.iload_n 0, 1) := by sorry
theorem d_Pre_checkIndex_5 : decode b_Pre_checkIndex 5 = .ok (.iload_n 1, 1) := by sorry
theorem d_Pre_checkIndex_6 : decode b_Pre_checkIndex 6 = .ok (.if_icmp .lt 10, 3) := by sorry
theorem d_Pre_checkIndex_16 : decode b_Pre_checkIndex 16 = .ok (.iload_n 0, 1) := by sorry
theorem d_Pre_checkIndex_17 : decode b_Pre_checkIndex 17 = .ok (.ireturn, 1) := by sorry
set_option maxHeartbeats 4000000 in
set_option maxRecDepth 100000 in
/-- Preconditions.checkIndex -/
theorem c_Pre_checkIndexN (l : Launch) (dC : Nat → ClassId) (dI : Nat → Nat → Nat) (sz : Heap) (i k : Nat) (hik : i < k) (hk : k ≤ 1000000) : Met l y_Pre_checkIndex (k_Pre_checkIndex :: gtbl) ({ frames := 0, cells := 0, slots := 0, locals := 0 }) (va_Pc [.int (nI i), .int (nI k), .null] (mp dC dI [] [] sz)) (va_Qi (fun (r : Int32) (_ : Unit) => True) (fun _ => mz dC dI [] [] (va_A [] sz.size)) (va_A [] sz.size)) 0 0 (va_A [] sz.size) := by sorry
set_option maxHeartbeats 4000000 in
set_option maxRecDepth 100000 in
/-- Preconditions.checkIndex -/
theorem c_Pre_checkIndexR (l : Launch) (dC : Nat → ClassId) (dI : Nat → Nat → Nat) (sz : Heap) (i k : Nat) (bf : Nat) (hik : i < k) (hk : k ≤ 1000000) : Met l y_Pre_checkIndex (k_Pre_checkIndex :: gtbl) ({ frames := 0, cells := 0, slots := 0, locals := 0 }) (va_Pc [.int (nI i), .int (nI k), .ref bf] (mp dC dI [] [] sz)) (va_Qi (fun (r : Int32) (_ : Unit) => True) (fun _ => mz dC dI [] [] (va_A [] sz.size)) (va_A [] sz.size)) 0 0 (va_A [] sz.size) := by sorry
abbrev b_Str_checkIndex : ByteArray := prog_23_method_155_code
def y_Str_checkIndex : MethodName := ⟨"java/lang/String", "checkIndex", "(II)V"⟩
abbrev k_Str_checkIndex : Cond := .code y_Str_checkIndex b_Str_checkIndex 2 none
theorem i_Str_checkIndex : k_Str_checkIndex ∈ gtbl := by sorry
theorem d_Str_checkIndex_0 : decode b_Str_checkIndex 0 = .ok (.iload_n 0, 1) := by sorry
theorem d_Str_checkIndex_1 : decode b_Str_checkIndex 1 = .ok (.iload_n 1, 1) := by sorry
theorem d_Str_checkIndex_2 : decode b_Str_checkIndex 2 = .ok (.getstatic 1053, 3) := by sorry
theorem d_Str_checkIndex_5 : decode b_Str_checkIndex 5 = .ok (.invokestatic 1059, 3) := by sorry
theorem d_Str_checkIndex_8 : decode b_Str_checkIndex 8 = .ok (.pop, 1) := by sorry
theorem d_Str_checkIndex_9 : decode b_Str_checkIndex 9 = .ok (.return_, 1) := by sorry
set_option maxHeartbeats 4000000 in
set_option maxRecDepth 100000 in
/-- String.checkIndex -/
theorem c_Str_checkIndex (l : Launch) (dC : Nat → ClassId) (dI : Nat → Nat → Nat) (sz : Heap) (i k : Nat) (hik : i < k) (hk : k ≤ 1000000) : Met l y_Str_checkIndex (k_Str_checkIndex :: gtbl) ({ frames := 1, cells := 0, slots := 0, locals := 22 }) (va_Pc [.int (nI i), .int (nI k)] (mpre dC dI [] [] sz)) (va_Qv (fun (_ : Unit) => True) (fun _ => mz dC dI [] [] (va_A [] sz.size)) (va_A [] sz.size)) 0 0 (va_A [] sz.size) := by sorry
abbrev b_Lat_charAt : ByteArray := prog_24_method_2_code
def y_Lat_charAt : MethodName := ⟨"java/lang/StringLatin1", "charAt", "([BI)C"⟩
abbrev k_Lat_charAt : Cond := .code y_Lat_charAt b_Lat_charAt 2 (some .char)
theorem i_Lat_charAt : k_Lat_charAt ∈ gtbl := by sorry
theorem d_Lat_charAt_0 : decode b_Lat_charAt 0 = .ok (.iload_n 1, 1) := by sorry
theorem d_Lat_charAt_1 : decode b_Lat_charAt 1 = .ok (.aload_n 0, 1) := by sorry
theorem d_Lat_charAt_2 : decode b_Lat_charAt 2 = .ok (.arraylength, 1) := by sorry
theorem d_Lat_charAt_3 : decode b_Lat_charAt 3 = .ok (.invokestatic 9, 3) := by sorry
theorem d_Lat_charAt_6 : decode b_Lat_charAt 6 = .ok (.aload_n 0, 1) := by sorry
theorem d_Lat_charAt_7 : decode b_Lat_charAt 7 = .ok (.iload_n 1, 1) := by sorry
theorem d_Lat_charAt_8 : decode b_Lat_charAt 8 = .ok (.baload, 1) := by sorry
theorem d_Lat_charAt_9 : decode b_Lat_charAt 9 = .ok (.sipush 255, 3) := by sorry
theorem d_Lat_charAt_12 : decode b_Lat_charAt 12 = .ok (.iand, 1) := by sorry
theorem d_Lat_charAt_13 : decode b_Lat_charAt 13 = .ok (.i2c, 1) := by sorry
theorem d_Lat_charAt_14 : decode b_Lat_charAt 14 = .ok (.ireturn, 1) := by sorry
set_option maxHeartbeats 4000000 in
set_option maxRecDepth 100000 in
/-- StringLatin1.charAt -/
theorem c_Lat_charAt (l : Launch) (dC : Nat → ClassId) (dI : Nat → Nat → Nat) (sz : Heap) (av len : Nat) (b : Nat → Int32) (i : Nat) (hil : i < len) (hlen : len ≤ 1000000) : Met l y_Lat_charAt (k_Lat_charAt :: gtbl) ({ frames := 2, cells := 0, slots := 0, locals := 43 }) (va_Pc [.ref av, .int (nI i)] (marr av len b dC dI [] [] sz)) (va_Qi (fun (r : Int32) (_ : Unit) => r = b i &&& 255) (fun _ => mz dC dI [] [] (va_A [] sz.size)) (va_A [] sz.size)) 0 0 (va_A [] sz.size) := by sorry
abbrev b_Str_charAt : ByteArray := prog_23_method_56_code
def y_Str_charAt : MethodName := ⟨"java/lang/String", "charAt", "(I)C"⟩
abbrev k_Str_charAt : Cond := .code y_Str_charAt b_Str_charAt 2 (some .char)
theorem i_Str_charAt : k_Str_charAt ∈ gtbl := by sorry
theorem d_Str_charAt_0 : decode b_Str_charAt 0 = .ok (.aload_n 0, 1) := by sorry
theorem d_Str_charAt_1 : decode b_Str_charAt 1 = .ok (.invokevirtual 492, 3) := by sorry
theorem d_Str_charAt_4 : decode b_Str_charAt 4 = .ok (.ifCond .eq 12, 3) := by sorry
theorem d_Str_charAt_7 : decode b_Str_charAt 7 = .ok (.aload_n 0, 1) := by sorry
theorem d_Str_charAt_8 : decode b_Str_charAt 8 = .ok (.getfield 9, 3) := by sorry
theorem d_Str_charAt_11 : decode b_Str_charAt 11 = .ok (.iload_n 1, 1) := by sorry
theorem d_Str_charAt_12 : decode b_Str_charAt 12 = .ok (.invokestatic 495, 3) := by sorry
theorem d_Str_charAt_15 : decode b_Str_charAt 15 = .ok (.ireturn, 1) := by sorry
set_option maxHeartbeats 4000000 in
set_option maxRecDepth 100000 in
/-- String.charAt -/
theorem c_Str_charAt (l : Launch) (dC : Nat → ClassId) (dI : Nat → Nat → Nat) (sz : Heap) (sa av len : Nat) (b : Nat → Int32) (i : Nat) (hil : i < len) (hlen : len ≤ 1000000) : Met l y_Str_charAt (k_Str_charAt :: gtbl) ({ frames := 3, cells := 0, slots := 0, locals := 64 }) (va_Pc [.ref sa, .int (nI i)] (mstr sa av len b dC dI [] [] sz)) (va_Qi (fun (r : Int32) (_ : Unit) => r = b i &&& 255) (fun _ => mz dC dI [] [] (va_A [] sz.size)) (va_A [] sz.size)) 0 0 (va_A [] sz.size) := by sorry
end
section
theorem w_455 : (.methodLink "QueryBench$Tape" 43 ⟨"java/lang/String", "length", "()I"⟩ : Cond) ∈ gtbl := by sorry
theorem w_456 : (.instanceMethod ⟨"java/lang/String", "length", "()I"⟩ : Cond) ∈ gtbl := by sorry
theorem w_457 : (.selects "java/lang/String" ⟨"java/lang/String", "length", "()I"⟩ ⟨"java/lang/String", "length", "()I"⟩ : Cond) ∈ gtbl := by sorry
theorem w_465 : (.methodLink "QueryBench$Tape" 47 ⟨"java/lang/String", "charAt", "(I)C"⟩ : Cond) ∈ gtbl := by sorry
theorem w_466 : (.instanceMethod ⟨"java/lang/String", "charAt", "(I)C"⟩ : Cond) ∈ gtbl := by sorry
theorem w_467 : (.selects "java/lang/String" ⟨"java/lang/String", "charAt", "(I)C"⟩ ⟨"java/lang/String", "charAt", "(I)C"⟩ : Cond) ∈ gtbl := by sorry
theorem w_1244 : (.methodLink "QueryBenchModel" 155 ⟨"java/lang/String", "length", "()I"⟩ : Cond) ∈ gtbl := by sorry
theorem w_1245 : (.methodLink "QueryBenchModel" 159 ⟨"java/lang/String", "charAt", "(I)C"⟩ : Cond) ∈ gtbl := by sorry
theorem w_1246 : (.methodLink "QueryBenchModel" 163 ⟨"QueryBenchModel", "take", "(I)Z"⟩ : Cond) ∈ gtbl := by sorry
theorem w_1248 : (.instanceMethod ⟨"QueryBenchModel", "take", "(I)Z"⟩ : Cond) ∈ gtbl := by sorry
theorem w_1332 : (.methodLink "QueryBenchModel" 166 ⟨"QueryBenchModel", "digit", "(I)Z"⟩ : Cond) ∈ gtbl := by sorry
theorem w_1333 : (.static ⟨"QueryBenchModel", "digit", "(I)Z"⟩ : Cond) ∈ gtbl := by sorry
abbrev mt (sa av len : Nat) (b : Nat → Int32) (dC : Nat → ClassId) (dI : Nat → Nat → Nat) (ws : va_W) (tys : List (ClassId × FieldType)) (sz : Heap) (U : State) : Prop := mp dC dI ws tys sz U ∧ NW U ∧ ZX (va_A ws sz.size) U U.heap ∧ SX sa av len b (va_A ws sz.size) U U.heap
theorem mt_blind {sa av len : Nat} {b : Nat → Int32} {dC : Nat → ClassId} {dI : Nat → Nat → Nat} {ws : va_W} {tys : List (ClassId × FieldType)} {sz : Heap} {vs : List Value} : FrameBlind (va_Pc vs (mt sa av len b dC dI ws tys sz)) := by sorry
/-- the text stands at i -/
def mtch (f : Nat → Int32) (n i : Nat) (b : Nat → Int32) (len : Nat) : Prop := ∀ j, j < len → hereV f n (i + j) = b j &&& 255
def wrS (g : Nat → Int32) (k : Nat) (b : Nat → Int32) : Nat → (Nat → Int32)
  | 0 => g
  | j + 1 => upd (wrS g k b j) (k + j) (vp_nar .byte ((b j &&& 255).toInt8.toInt32))
abbrev b_Tape_takeLetters : ByteArray := prog_10_method_8_code
def y_Tape_takeLetters : MethodName := ⟨"QueryBench$Tape", "takeLetters", "(Ljava/lang/String;)V"⟩
abbrev k_Tape_takeLetters : Cond := .code y_Tape_takeLetters b_Tape_takeLetters 3 none
theorem i_Tape_takeLetters : k_Tape_takeLetters ∈ gtbl := by sorry
theorem d_Tape_takeLetters_0 : decode b_Tape_takeLetters 0 = .ok (.iconst 0, 1) := by sorry
theorem d_Tape_takeLetters_1 : decode b_Tape_takeLetters 1 = .ok (.istore_n 2, 1) := by sorry
theorem d_Tape_takeLetters_2 : decode b_Tape_takeLetters 2 = .ok (.iload_n 2, 1) := by sorry
theorem d_Tape_takeLetters_3 : decode b_Tape_takeLetters 3 = .ok (.aload_n 1, 1) := by sorry
theorem d_Tape_takeLetters_4 : decode b_Tape_takeLetters 4 = .ok (.invokevirtual 43, 3) := by sorry
theorem d_Tape_takeLetters_7 : decode b_Tape_takeLetters 7 = .ok (.if_icmp .ge 18, 3) := by sorry
theorem d_Tape_takeLetters_10 : decode b_Tape_takeLetters 10 = .ok (.aload_n 0, 1) := by sorry
theorem d_Tape_takeLetters_11 : decode b_Tape_takeLetters 11 = .ok (.aload_n 1, 1) := by sorry
theorem d_Tape_takeLetters_12 : decode b_Tape_takeLetters 12 = .ok (.iload_n 2, 1) := by sorry
theorem d_Tape_takeLetters_13 : decode b_Tape_takeLetters 13 = .ok (.invokevirtual 47, 3) := by sorry
theorem d_Tape_takeLetters_16 : decode b_Tape_takeLetters 16 = .ok (.invokevirtual 51, 3) := by sorry
theorem d_Tape_takeLetters_19 : decode b_Tape_takeLetters 19 = .ok (.iinc 2 1, 3) := by sorry
theorem d_Tape_takeLetters_22 : decode b_Tape_takeLetters 22 = .ok (.goto (-20), 3) := by sorry
theorem d_Tape_takeLetters_25 : decode b_Tape_takeLetters 25 = .ok (.return_, 1) := by sorry
set_option maxHeartbeats 4000000 in
set_option maxRecDepth 100000 in
/-- Tape.takeLetters -/
theorem c_Tape_takeLetters (l : Launch) (hl9 : l.stackTraces = false) (dC : Nat → ClassId) (dI : Nat → Nat → Nat) (cB : ClassId) (h0 qb : Nat) (sz : Heap) (ru : Value) (sa av len : Nat) (b : Nat → Int32) (uc ln pl : Int32) (f : Nat → Int32) (n i : Nat) (hn0 : n ≤ 4096) (hi0 : i ≤ 900000) (hlen : len ≤ 1000) : vx_Met l y_Tape_takeLetters (k_Tape_takeLetters :: gtbl) ({ frames := 10, cells := 1, slots := 6, locals := 152 }) (va_Pc [.ref h0, .ref sa] (mt sa av len b dC dI [(h0, .inr (8, [.ref qb, ru, .int uc, .int ln, .int (nI n), .int (nI i), .int pl])), (qb, .inl (cB, 4096, .inl f))] [(cB, .byte)] sz)) (va_Qv (fun (_ : Unit) => mtch f n i b len) (fun _ t => mz dC dI [(h0, .inr (8, [.ref qb, ru, .int uc, .int ln, .int (nI n), .int (nI (i + len)), .int pl])), (qb, .inl (cB, 4096, .inl f))] [(cB, .byte)] (va_A [(h0, .inr (8, [.ref qb, ru, .int uc, .int ln, .int (nI n), .int (nI i), .int pl])), (qb, .inl (cB, 4096, .inl f))] sz.size) t ∧ szk sz t.heap 0 0) (va_A [(h0, .inr (8, [.ref qb, ru, .int uc, .int ln, .int (nI n), .int (nI i), .int pl])), (qb, .inl (cB, 4096, .inl f))] sz.size)) (vx_X (fun u : Nat => ¬ mtch f n i b len) (fun E u t => E = "java/lang/UnsupportedOperationException" ∧ mz dC dI [(h0, .inr (8, [.ref qb, ru, .int uc, .int ln, .int (nI n), .int (nI u), .int (nI u)])), (qb, .inl (cB, 4096, .inl f))] [(cB, .byte)] (va_A [(h0, .inr (8, [.ref qb, ru, .int uc, .int ln, .int (nI n), .int (nI i), .int pl])), (qb, .inl (cB, 4096, .inl f))] sz.size) t) (va_A [(h0, .inr (8, [.ref qb, ru, .int uc, .int ln, .int (nI n), .int (nI i), .int pl])), (qb, .inl (cB, 4096, .inl f))] sz.size)) 1 6 (va_A [(h0, .inr (8, [.ref qb, ru, .int uc, .int ln, .int (nI n), .int (nI i), .int pl])), (qb, .inl (cB, 4096, .inl f))] sz.size) := by sorry
abbrev b_Mo_hex : ByteArray := prog_14_method_19_code
def y_Mo_hex : MethodName := ⟨"QueryBenchModel", "hex", "(I)I"⟩
abbrev k_Mo_hex : Cond := .code y_Mo_hex b_Mo_hex 1 (some .int)
theorem i_Mo_hex : k_Mo_hex ∈ gtbl := by sorry
theorem d_Mo_hex_0 : decode b_Mo_hex 0 = .ok (.iload_n 0, 1) := by sorry
theorem d_Mo_hex_1 : decode b_Mo_hex 1 = .ok (.invokestatic 166, 3) := by sorry
theorem d_Mo_hex_4 : decode b_Mo_hex 4 = .ok (.ifCond .eq 10, 3) := by sorry
theorem d_Mo_hex_7 : decode b_Mo_hex 7 = .ok (.iload_n 0, 1) := by sorry
theorem d_Mo_hex_8 : decode b_Mo_hex 8 = .ok (.bipush 48, 2) := by sorry
theorem d_Mo_hex_10 : decode b_Mo_hex 10 = .ok (.isub, 1) := by sorry
theorem d_Mo_hex_11 : decode b_Mo_hex 11 = .ok (.goto 48, 3) := by sorry
theorem d_Mo_hex_14 : decode b_Mo_hex 14 = .ok (.iload_n 0, 1) := by sorry
theorem d_Mo_hex_15 : decode b_Mo_hex 15 = .ok (.bipush 97, 2) := by sorry
theorem d_Mo_hex_17 : decode b_Mo_hex 17 = .ok (.if_icmp .lt 19, 3) := by sorry
theorem d_Mo_hex_20 : decode b_Mo_hex 20 = .ok (.iload_n 0, 1) := by sorry
theorem d_Mo_hex_21 : decode b_Mo_hex 21 = .ok (.bipush 102, 2) := by sorry
theorem d_Mo_hex_23 : decode b_Mo_hex 23 = .ok (.if_icmp .gt 13, 3) := by sorry
theorem d_Mo_hex_26 : decode b_Mo_hex 26 = .ok (.iload_n 0, 1) := by sorry
theorem d_Mo_hex_27 : decode b_Mo_hex 27 = .ok (.bipush 97, 2) := by sorry
theorem d_Mo_hex_29 : decode b_Mo_hex 29 = .ok (.isub, 1) := by sorry
theorem d_Mo_hex_30 : decode b_Mo_hex 30 = .ok (.bipush 10, 2) := by sorry
theorem d_Mo_hex_32 : decode b_Mo_hex 32 = .ok (.iadd, 1) := by sorry
theorem d_Mo_hex_33 : decode b_Mo_hex 33 = .ok (.goto 26, 3) := by sorry
theorem d_Mo_hex_36 : decode b_Mo_hex 36 = .ok (.iload_n 0, 1) := by sorry
theorem d_Mo_hex_37 : decode b_Mo_hex 37 = .ok (.bipush 65, 2) := by sorry
theorem d_Mo_hex_39 : decode b_Mo_hex 39 = .ok (.if_icmp .lt 19, 3) := by sorry
theorem d_Mo_hex_42 : decode b_Mo_hex 42 = .ok (.iload_n 0, 1) := by sorry
theorem d_Mo_hex_43 : decode b_Mo_hex 43 = .ok (.bipush 70, 2) := by sorry
theorem d_Mo_hex_45 : decode b_Mo_hex 45 = .ok (.if_icmp .gt 13, 3) := by sorry
theorem d_Mo_hex_48 : decode b_Mo_hex 48 = .ok (.iload_n 0, 1) := by sorry
theorem d_Mo_hex_49 : decode b_Mo_hex 49 = .ok (.bipush 65, 2) := by sorry
theorem d_Mo_hex_51 : decode b_Mo_hex 51 = .ok (.isub, 1) := by sorry
theorem d_Mo_hex_52 : decode b_Mo_hex 52 = .ok (.bipush 10, 2) := by sorry
theorem d_Mo_hex_54 : decode b_Mo_hex 54 = .ok (.iadd, 1) := by sorry
theorem d_Mo_hex_55 : decode b_Mo_hex 55 = .ok (.goto 4, 3) := by sorry
theorem d_Mo_hex_58 : decode b_Mo_hex 58 = .ok (.iconst (-1), 1) := by sorry
theorem d_Mo_hex_59 : decode b_Mo_hex 59 = .ok (.ireturn, 1) := by sorry
set_option maxHeartbeats 4000000 in
set_option maxRecDepth 100000 in
/-- the reference: hex -/
theorem c_Mo_hex (l : Launch) (dC : Nat → ClassId) (dI : Nat → Nat → Nat) (sz : Heap) (x : Int32) : Met l y_Mo_hex (k_Mo_hex :: gtbl) ({ frames := 1, cells := 0, slots := 0, locals := 20 }) (va_Pc [.int x] (mp dC dI [] [] sz)) (va_Qi (fun (r : Int32) (_ : Unit) => r = hexV x) (fun _ => mz dC dI [] [] (va_A [] sz.size)) (va_A [] sz.size)) 0 0 (va_A [] sz.size) := by sorry
abbrev b_Mo_wordS : ByteArray := prog_14_method_18_code
def y_Mo_wordS : MethodName := ⟨"QueryBenchModel", "word", "(Ljava/lang/String;)Z"⟩
abbrev k_Mo_wordS : Cond := .code y_Mo_wordS b_Mo_wordS 3 (some .boolean)
theorem i_Mo_wordS : k_Mo_wordS ∈ gtbl := by sorry
theorem d_Mo_wordS_0 : decode b_Mo_wordS 0 = .ok (.iconst 0, 1) := by sorry
theorem d_Mo_wordS_1 : decode b_Mo_wordS 1 = .ok (.istore_n 2, 1) := by sorry
theorem d_Mo_wordS_2 : decode b_Mo_wordS 2 = .ok (.iload_n 2, 1) := by sorry
theorem d_Mo_wordS_3 : decode b_Mo_wordS 3 = .ok (.aload_n 1, 1) := by sorry
theorem d_Mo_wordS_4 : decode b_Mo_wordS 4 = .ok (.invokevirtual 155, 3) := by sorry
theorem d_Mo_wordS_7 : decode b_Mo_wordS 7 = .ok (.if_icmp .ge 23, 3) := by sorry
theorem d_Mo_wordS_10 : decode b_Mo_wordS 10 = .ok (.aload_n 0, 1) := by sorry
theorem d_Mo_wordS_11 : decode b_Mo_wordS 11 = .ok (.aload_n 1, 1) := by sorry
theorem d_Mo_wordS_12 : decode b_Mo_wordS 12 = .ok (.iload_n 2, 1) := by sorry
theorem d_Mo_wordS_13 : decode b_Mo_wordS 13 = .ok (.invokevirtual 159, 3) := by sorry
theorem d_Mo_wordS_16 : decode b_Mo_wordS 16 = .ok (.invokevirtual 163, 3) := by sorry
theorem d_Mo_wordS_19 : decode b_Mo_wordS 19 = .ok (.ifCond .ne 5, 3) := by sorry
theorem d_Mo_wordS_22 : decode b_Mo_wordS 22 = .ok (.iconst 0, 1) := by sorry
theorem d_Mo_wordS_23 : decode b_Mo_wordS 23 = .ok (.ireturn, 1) := by sorry
theorem d_Mo_wordS_24 : decode b_Mo_wordS 24 = .ok (.iinc 2 1, 3) := by sorry
theorem d_Mo_wordS_27 : decode b_Mo_wordS 27 = .ok (.goto (-25), 3) := by sorry
theorem d_Mo_wordS_30 : decode b_Mo_wordS 30 = .ok (.iconst 1, 1) := by sorry
theorem d_Mo_wordS_31 : decode b_Mo_wordS 31 = .ok (.ireturn, 1) := by sorry
set_option maxHeartbeats 4000000 in
set_option maxRecDepth 100000 in
/-- the reference: word(text) -/
theorem c_Mo_wordS (l : Launch) (dC : Nat → ClassId) (dI : Nat → Nat → Nat) (mo : Nat) (sz : Heap) (v : Nat → Value) (cB : ClassId) (qx NN : Nat) (f : Nat → Int32) (sa av len : Nat) (b : Nat → Int32) (n i : Nat) (hnN : n ≤ NN) (hNN : NN ≤ 1000000) (hi0 : i ≤ 900000) (h6 : v 6 = .ref qx) (h7 : v 7 = .int (nI i)) (h8 : v 8 = .int (nI n)) (br : Int32) (h9 : v 9 = .int br) (hlen : len ≤ 1000) : Met l y_Mo_wordS (k_Mo_wordS :: gtbl) ({ frames := 4, cells := 0, slots := 0, locals := 85 }) (va_Pc [.ref mo, .ref sa] (mstr sa av len b dC dI [(mo, .inr (13, MF 30 v)), (qx, .inl (cB, NN, .inl f))] [(cB, .byte)] sz)) (va_Qi (fun (r : Int32) (u : Nat → Value) => (mtch f n i b len ∧ r = 1 ∧ u = va_up v 7 (.int (nI (i + len)))) ∨ (¬ mtch f n i b len ∧ r = 0 ∧ ∃ k, u = mfail (va_up v 7 (.int (nI k))) br (nI k))) (fun u => mz dC dI [(mo, .inr (13, MF 30 u)), (qx, .inl (cB, NN, .inl f))] [(cB, .byte)] (va_A [(mo, .inr (13, MF 30 v)), (qx, .inl (cB, NN, .inl f))] sz.size)) (va_A [(mo, .inr (13, MF 30 v)), (qx, .inl (cB, NN, .inl f))] sz.size)) 0 0 (va_A [(mo, .inr (13, MF 30 v)), (qx, .inl (cB, NN, .inl f))] sz.size) := by sorry
end
section
theorem w_35 : (.instanceMethod ⟨"java/lang/Object", "<init>", "()V"⟩ : Cond) ∈ gtbl := by sorry
theorem w_42 : (.methodLink "QueryBench$Tape" 3 ⟨"java/lang/Object", "<init>", "()V"⟩ : Cond) ∈ gtbl := by sorry
theorem w_72 : (.arrayClass FieldType.byte : Cond) ∈ gtbl := by sorry
theorem w_79 : (.methodLink "QueryBench$JsonReader" 3 ⟨"java/lang/Object", "<init>", "()V"⟩ : Cond) ∈ gtbl := by sorry
theorem w_80 : (.fieldLink "QueryBench$JsonReader" 9 "QueryBench$JsonReader" "tape" "LQueryBench$Tape;" : Cond) ∈ gtbl := by sorry
theorem w_99 : (.methodLink "QueryBench$QueryReader" 3 ⟨"java/lang/Object", "<init>", "()V"⟩ : Cond) ∈ gtbl := by sorry
theorem w_100 : (.fieldLink "QueryBench$QueryReader" 9 "QueryBench$QueryReader" "tape" "LQueryBench$Tape;" : Cond) ∈ gtbl := by sorry
theorem w_112 : (.methodLink "QueryBench$Walk" 3 ⟨"java/lang/Object", "<init>", "()V"⟩ : Cond) ∈ gtbl := by sorry
theorem w_113 : (.classLink "QueryBench$Walk" 9 "QueryBench$Value" : Cond) ∈ gtbl := by sorry
theorem w_115 : (.fieldLink "QueryBench$Walk" 11 "QueryBench$Walk" "list" "[LQueryBench$Value;" : Cond) ∈ gtbl := by sorry
theorem w_137 : (.methodLink "QueryBench$Printer" 3 ⟨"java/lang/Object", "<init>", "()V"⟩ : Cond) ∈ gtbl := by sorry
theorem w_138 : (.classLink "QueryBench$Printer" 15 "QueryBench$Value" : Cond) ∈ gtbl := by sorry
theorem w_139 : (.fieldLink "QueryBench$Printer" 9 "QueryBench$Printer" "bytes" "[B" : Cond) ∈ gtbl := by sorry
theorem w_143 : (.fieldLink "QueryBench$Printer" 17 "QueryBench$Printer" "steps" "[LQueryBench$Value;" : Cond) ∈ gtbl := by sorry
theorem w_obj : Cond.code Lib.objectInit ⟨#[0xb1]⟩ 1 none ∈ gtbl := by sorry
abbrev VAO (U : State) : Prop := va_AO "QueryBench$Value" U
abbrev mo_ (dC : Nat → ClassId) (dI : Nat → Nat → Nat) (ws : va_W) (tys : List (ClassId × FieldType)) (sz : Heap) (U : State) : Prop := mp dC dI ws tys sz U ∧ VAO U
theorem mo__blind {dC : Nat → ClassId} {dI : Nat → Nat → Nat} {ws : va_W} {tys : List (ClassId × FieldType)} {sz : Heap} {vs : List Value} : FrameBlind (va_Pc vs (mo_ dC dI ws tys sz)) := by sorry
abbrev b_Tape_init : ByteArray := prog_10_method_1_code
def y_Tape_init : MethodName := ⟨"QueryBench$Tape", "<init>", "()V"⟩
abbrev k_Tape_init : Cond := .code y_Tape_init b_Tape_init 1 none
theorem i_Tape_init : k_Tape_init ∈ gtbl := by sorry
theorem d_Tape_init_0 : decode b_Tape_init 0 = .ok (.aload_n 0, 1) := by sorry
theorem d_Tape_init_1 : decode b_Tape_init 1 = .ok (.invokespecial 3, 3) := by sorry
theorem d_Tape_init_4 : decode b_Tape_init 4 = .ok (.aload_n 0, 1) := by sorry
theorem d_Tape_init_5 : decode b_Tape_init 5 = .ok (.sipush 4096, 3) := by sorry
theorem d_Tape_init_8 : decode b_Tape_init 8 = .ok (.newarray .byte, 2) := by sorry
theorem d_Tape_init_10 : decode b_Tape_init 10 = .ok (.putfield 9, 3) := by sorry
theorem d_Tape_init_13 : decode b_Tape_init 13 = .ok (.aload_n 0, 1) := by sorry
theorem d_Tape_init_14 : decode b_Tape_init 14 = .ok (.sipush 4096, 3) := by sorry
theorem d_Tape_init_17 : decode b_Tape_init 17 = .ok (.newarray .int, 2) := by sorry
theorem d_Tape_init_19 : decode b_Tape_init 19 = .ok (.putfield 15, 3) := by sorry
theorem d_Tape_init_22 : decode b_Tape_init 22 = .ok (.aload_n 0, 1) := by sorry
theorem d_Tape_init_23 : decode b_Tape_init 23 = .ok (.iconst (-1), 1) := by sorry
theorem d_Tape_init_24 : decode b_Tape_init 24 = .ok (.putfield 19, 3) := by sorry
theorem d_Tape_init_27 : decode b_Tape_init 27 = .ok (.return_, 1) := by sorry
set_option maxHeartbeats 4000000 in
set_option maxRecDepth 100000 in
/-- Tape() -/
theorem c_Tape_init (l : Launch) (dC : Nat → ClassId) (dI : Nat → Nat → Nat) (h0 : Nat) (sz : Heap)  : Met l y_Tape_init (k_Tape_init :: gtbl) ({ frames := 1, cells := 2, slots := 8192, locals := 16 }) (va_Pc [.ref h0] (mp dC dI [(h0, .inr (8, [.null, .null, .int 0, .int 0, .int 0, .int 0, .int 0]))] [] sz)) (va_Qv (fun (_ : Nat × Nat × ClassId × ClassId) => True) (fun (u : Nat × Nat × ClassId × ClassId) t => match u with | (qb, qu, cB, cI) => mz dC dI [(h0, .inr (8, [.ref qb, .ref qu, .int 0, .int 0, .int 0, .int 0, .int (-1)])), (qb, .inl (cB, 4096, .inl (fun _ => 0))), (qu, .inl (cI, 4096, .inl (fun _ => 0)))] [(cB, .byte), (cI, .int)] (va_A [(h0, .inr (8, [.null, .null, .int 0, .int 0, .int 0, .int 0, .int 0]))] sz.size) t ∧ szk sz t.heap 2 8192) (va_A [(h0, .inr (8, [.null, .null, .int 0, .int 0, .int 0, .int 0, .int 0]))] sz.size)) 2 8192 (va_A [(h0, .inr (8, [.null, .null, .int 0, .int 0, .int 0, .int 0, .int 0]))] sz.size) := by sorry
abbrev b_JsonReader_init : ByteArray := prog_3_method_1_code
def y_JsonReader_init : MethodName := ⟨"QueryBench$JsonReader", "<init>", "(LQueryBench$Tape;)V"⟩
abbrev k_JsonReader_init : Cond := .code y_JsonReader_init b_JsonReader_init 2 none
theorem i_JsonReader_init : k_JsonReader_init ∈ gtbl := by sorry
theorem d_JsonReader_init_0 : decode b_JsonReader_init 0 = .ok (.aload_n 0, 1) := by sorry
theorem d_JsonReader_init_1 : decode b_JsonReader_init 1 = .ok (.invokespecial 3, 3) := by sorry
theorem d_JsonReader_init_4 : decode b_JsonReader_init 4 = .ok (.aload_n 0, 1) := by sorry
theorem d_JsonReader_init_5 : decode b_JsonReader_init 5 = .ok (.aload_n 1, 1) := by sorry
theorem d_JsonReader_init_6 : decode b_JsonReader_init 6 = .ok (.putfield 9, 3) := by sorry
theorem d_JsonReader_init_9 : decode b_JsonReader_init 9 = .ok (.return_, 1) := by sorry
set_option maxHeartbeats 4000000 in
set_option maxRecDepth 100000 in
/-- JsonReader() -/
theorem c_JsonReader_init (l : Launch) (dC : Nat → ClassId) (dI : Nat → Nat → Nat) (jr : Nat) (sz : Heap) (h0 : Nat) : Met l y_JsonReader_init (k_JsonReader_init :: gtbl) ({ frames := 1, cells := 0, slots := 0, locals := 16 }) (va_Pc [.ref jr, .ref h0] (mp dC dI [(jr, .inr (1, [.null, .int 0, .int 0, .null]))] [] sz)) (va_Qv (fun (_ : Unit) => True) (fun (u : Unit) t => match u with | _ => mz dC dI [(jr, .inr (1, [.ref h0, .int 0, .int 0, .null]))] [] (va_A [(jr, .inr (1, [.null, .int 0, .int 0, .null]))] sz.size) t ∧ szk sz t.heap 0 0) (va_A [(jr, .inr (1, [.null, .int 0, .int 0, .null]))] sz.size)) 0 0 (va_A [(jr, .inr (1, [.null, .int 0, .int 0, .null]))] sz.size) := by sorry
abbrev b_QueryReader_init : ByteArray := prog_7_method_1_code
def y_QueryReader_init : MethodName := ⟨"QueryBench$QueryReader", "<init>", "(LQueryBench$Tape;)V"⟩
abbrev k_QueryReader_init : Cond := .code y_QueryReader_init b_QueryReader_init 2 none
theorem i_QueryReader_init : k_QueryReader_init ∈ gtbl := by sorry
theorem d_QueryReader_init_0 : decode b_QueryReader_init 0 = .ok (.aload_n 0, 1) := by sorry
theorem d_QueryReader_init_1 : decode b_QueryReader_init 1 = .ok (.invokespecial 3, 3) := by sorry
theorem d_QueryReader_init_4 : decode b_QueryReader_init 4 = .ok (.aload_n 0, 1) := by sorry
theorem d_QueryReader_init_5 : decode b_QueryReader_init 5 = .ok (.aload_n 1, 1) := by sorry
theorem d_QueryReader_init_6 : decode b_QueryReader_init 6 = .ok (.putfield 9, 3) := by sorry
theorem d_QueryReader_init_9 : decode b_QueryReader_init 9 = .ok (.return_, 1) := by sorry
set_option maxHeartbeats 4000000 in
set_option maxRecDepth 100000 in
/-- QueryReader() -/
theorem c_QueryReader_init (l : Launch) (dC : Nat → ClassId) (dI : Nat → Nat → Nat) (qr : Nat) (sz : Heap) (h0 : Nat) : Met l y_QueryReader_init (k_QueryReader_init :: gtbl) ({ frames := 1, cells := 0, slots := 0, locals := 16 }) (va_Pc [.ref qr, .ref h0] (mp dC dI [(qr, .inr (5, [.null, .int 0]))] [] sz)) (va_Qv (fun (_ : Unit) => True) (fun (u : Unit) t => match u with | _ => mz dC dI [(qr, .inr (5, [.ref h0, .int 0]))] [] (va_A [(qr, .inr (5, [.null, .int 0]))] sz.size) t ∧ szk sz t.heap 0 0) (va_A [(qr, .inr (5, [.null, .int 0]))] sz.size)) 0 0 (va_A [(qr, .inr (5, [.null, .int 0]))] sz.size) := by sorry
abbrev b_Walk_init : ByteArray := prog_12_method_1_code
def y_Walk_init : MethodName := ⟨"QueryBench$Walk", "<init>", "()V"⟩
abbrev k_Walk_init : Cond := .code y_Walk_init b_Walk_init 1 none
theorem i_Walk_init : k_Walk_init ∈ gtbl := by sorry
theorem d_Walk_init_0 : decode b_Walk_init 0 = .ok (.aload_n 0, 1) := by sorry
theorem d_Walk_init_1 : decode b_Walk_init 1 = .ok (.invokespecial 3, 3) := by sorry
theorem d_Walk_init_4 : decode b_Walk_init 4 = .ok (.aload_n 0, 1) := by sorry
theorem d_Walk_init_5 : decode b_Walk_init 5 = .ok (.sipush 10000, 3) := by sorry
theorem d_Walk_init_8 : decode b_Walk_init 8 = .ok (.anewarray 9, 3) := by sorry
theorem d_Walk_init_11 : decode b_Walk_init 11 = .ok (.putfield 11, 3) := by sorry
theorem d_Walk_init_14 : decode b_Walk_init 14 = .ok (.return_, 1) := by sorry
set_option maxHeartbeats 4000000 in
set_option maxRecDepth 100000 in
/-- Walk() -/
theorem c_Walk_init (l : Launch) (dC : Nat → ClassId) (dI : Nat → Nat → Nat) (wk : Nat) (sz : Heap)  : Met l y_Walk_init (k_Walk_init :: gtbl) ({ frames := 1, cells := 1, slots := 10000, locals := 16 }) (va_Pc [.ref wk] (mo_ dC dI [(wk, .inr (10, [.null, .int 0, .int 0, .null]))] [] sz)) (va_Qv (fun (_ : Nat × ClassId) => True) (fun (u : Nat × ClassId) t => match u with | (wl, cV) => mz dC dI [(wk, .inr (10, [.ref wl, .int 0, .int 0, .null])), (wl, .inl (cV, 10000, .inr (.inr (.inr (.inr (fun _ => none))))))] [(cV, .object "QueryBench$Value")] (va_A [(wk, .inr (10, [.null, .int 0, .int 0, .null]))] sz.size) t ∧ szk sz t.heap 1 10000) (va_A [(wk, .inr (10, [.null, .int 0, .int 0, .null]))] sz.size)) 1 10000 (va_A [(wk, .inr (10, [.null, .int 0, .int 0, .null]))] sz.size) := by sorry
abbrev b_Printer_init : ByteArray := prog_5_method_1_code
def y_Printer_init : MethodName := ⟨"QueryBench$Printer", "<init>", "()V"⟩
abbrev k_Printer_init : Cond := .code y_Printer_init b_Printer_init 1 none
theorem i_Printer_init : k_Printer_init ∈ gtbl := by sorry
theorem d_Printer_init_0 : decode b_Printer_init 0 = .ok (.aload_n 0, 1) := by sorry
theorem d_Printer_init_1 : decode b_Printer_init 1 = .ok (.invokespecial 3, 3) := by sorry
theorem d_Printer_init_4 : decode b_Printer_init 4 = .ok (.aload_n 0, 1) := by sorry
theorem d_Printer_init_5 : decode b_Printer_init 5 = .ok (.sipush 16384, 3) := by sorry
theorem d_Printer_init_8 : decode b_Printer_init 8 = .ok (.newarray .byte, 2) := by sorry
theorem d_Printer_init_10 : decode b_Printer_init 10 = .ok (.putfield 9, 3) := by sorry
theorem d_Printer_init_13 : decode b_Printer_init 13 = .ok (.aload_n 0, 1) := by sorry
theorem d_Printer_init_14 : decode b_Printer_init 14 = .ok (.bipush 32, 2) := by sorry
theorem d_Printer_init_16 : decode b_Printer_init 16 = .ok (.anewarray 15, 3) := by sorry
theorem d_Printer_init_19 : decode b_Printer_init 19 = .ok (.putfield 17, 3) := by sorry
theorem d_Printer_init_22 : decode b_Printer_init 22 = .ok (.return_, 1) := by sorry
set_option maxHeartbeats 4000000 in
set_option maxRecDepth 100000 in
/-- Printer() -/
theorem c_Printer_init (l : Launch) (dC : Nat → ClassId) (dI : Nat → Nat → Nat) (pr : Nat) (sz : Heap)  : Met l y_Printer_init (k_Printer_init :: gtbl) ({ frames := 1, cells := 2, slots := 16416, locals := 16 }) (va_Pc [.ref pr] (mo_ dC dI [(pr, .inr (3, [.null, .int 0, .null]))] [] sz)) (va_Qv (fun (_ : Nat × Nat × ClassId × ClassId) => True) (fun (u : Nat × Nat × ClassId × ClassId) t => match u with | (pb, ps, cB, cV) => mz dC dI [(pr, .inr (3, [.ref pb, .int 0, .ref ps])), (pb, .inl (cB, 16384, .inl (fun _ => 0))), (ps, .inl (cV, 32, .inr (.inr (.inr (.inr (fun _ => none))))))] [(cB, .byte), (cV, .object "QueryBench$Value")] (va_A [(pr, .inr (3, [.null, .int 0, .null]))] sz.size) t ∧ szk sz t.heap 2 16416) (va_A [(pr, .inr (3, [.null, .int 0, .null]))] sz.size)) 2 16416 (va_A [(pr, .inr (3, [.null, .int 0, .null]))] sz.size) := by sorry
end
section
theorem w_3 : (.initialized "QueryBench$JsonReader" : Cond) ∈ gtbl := by sorry
theorem w_4 : (.initialized "QueryBench$QueryReader" : Cond) ∈ gtbl := by sorry
theorem w_5 : (.initialized "QueryBench$Walk" : Cond) ∈ gtbl := by sorry
theorem w_6 : (.initialized "QueryBench$Printer" : Cond) ∈ gtbl := by sorry
theorem w_34 : (.methodLink "QueryBench" 1 ⟨"java/lang/Object", "<init>", "()V"⟩ : Cond) ∈ gtbl := by sorry
theorem w_37 : (.classLink "QueryBench" 7 "QueryBench$Tape" : Cond) ∈ gtbl := by sorry
theorem w_38 : (.instantiable "QueryBench$Tape" 7 : Cond) ∈ gtbl := by sorry
theorem w_40 : (.instanceMethod ⟨"QueryBench$Tape", "<init>", "()V"⟩ : Cond) ∈ gtbl := by sorry
theorem w_74 : (.classLink "QueryBench" 16 "QueryBench$JsonReader" : Cond) ∈ gtbl := by sorry
theorem w_75 : (.instantiable "QueryBench$JsonReader" 4 : Cond) ∈ gtbl := by sorry
theorem w_76 : (.methodLink "QueryBench" 18 ⟨"QueryBench$JsonReader", "<init>", "(LQueryBench$Tape;)V"⟩ : Cond) ∈ gtbl := by sorry
theorem w_77 : (.instanceMethod ⟨"QueryBench$JsonReader", "<init>", "(LQueryBench$Tape;)V"⟩ : Cond) ∈ gtbl := by sorry
theorem w_94 : (.classLink "QueryBench" 25 "QueryBench$QueryReader" : Cond) ∈ gtbl := by sorry
theorem w_95 : (.instantiable "QueryBench$QueryReader" 2 : Cond) ∈ gtbl := by sorry
theorem w_96 : (.methodLink "QueryBench" 27 ⟨"QueryBench$QueryReader", "<init>", "(LQueryBench$Tape;)V"⟩ : Cond) ∈ gtbl := by sorry
theorem w_97 : (.instanceMethod ⟨"QueryBench$QueryReader", "<init>", "(LQueryBench$Tape;)V"⟩ : Cond) ∈ gtbl := by sorry
theorem w_107 : (.classLink "QueryBench" 32 "QueryBench$Walk" : Cond) ∈ gtbl := by sorry
theorem w_108 : (.instantiable "QueryBench$Walk" 4 : Cond) ∈ gtbl := by sorry
theorem w_110 : (.instanceMethod ⟨"QueryBench$Walk", "<init>", "()V"⟩ : Cond) ∈ gtbl := by sorry
theorem w_131 : (.classLink "QueryBench" 39 "QueryBench$Value" : Cond) ∈ gtbl := by sorry
theorem w_132 : (.classLink "QueryBench" 45 "QueryBench$Printer" : Cond) ∈ gtbl := by sorry
theorem w_133 : (.instantiable "QueryBench$Printer" 3 : Cond) ∈ gtbl := by sorry
theorem w_135 : (.instanceMethod ⟨"QueryBench$Printer", "<init>", "()V"⟩ : Cond) ∈ gtbl := by sorry
theorem w_152 : (.fieldLink "QueryBench" 21 "QueryBench" "jsonReader" "LQueryBench$JsonReader;" : Cond) ∈ gtbl := by sorry
theorem w_153 : (.fieldLink "QueryBench" 28 "QueryBench" "queryReader" "LQueryBench$QueryReader;" : Cond) ∈ gtbl := by sorry
theorem w_154 : (.fieldLink "QueryBench" 35 "QueryBench" "walk" "LQueryBench$Walk;" : Cond) ∈ gtbl := by sorry
theorem w_155 : (.fieldLink "QueryBench" 41 "QueryBench" "documents" "[LQueryBench$Value;" : Cond) ∈ gtbl := by sorry
theorem w_157 : (.fieldLink "QueryBench" 48 "QueryBench" "result" "LQueryBench$Printer;" : Cond) ∈ gtbl := by sorry
theorem w_158 : (.fieldLink "QueryBench" 52 "QueryBench" "draft" "LQueryBench$Printer;" : Cond) ∈ gtbl := by sorry
theorem nl_39 : (.methodLinkNest "QueryBench" 9 ⟨"QueryBench$Tape", "<init>", "()V"⟩ "QueryBench" : Cond) ∈ nwl := by sorry
theorem nl_109 : (.methodLinkNest "QueryBench" 34 ⟨"QueryBench$Walk", "<init>", "()V"⟩ "QueryBench" : Cond) ∈ nwl := by sorry
theorem nl_134 : (.methodLinkNest "QueryBench" 47 ⟨"QueryBench$Printer", "<init>", "()V"⟩ "QueryBench" : Cond) ∈ nwl := by sorry
abbrev mv (dC : Nat → ClassId) (dI : Nat → Nat → Nat) (ws : va_W) (tys : List (ClassId × FieldType)) (sz : Heap) (U : State) : Prop := mp dC dI ws tys sz U ∧ NW U ∧ VAO U
theorem mv_blind {dC : Nat → ClassId} {dI : Nat → Nat → Nat} {ws : va_W} {tys : List (ClassId × FieldType)} {sz : Heap} {vs : List Value} : FrameBlind (va_Pc vs (mv dC dI ws tys sz)) := by sorry
abbrev b_QB_init : ByteArray := prog_1_method_1_code
def y_QB_init : MethodName := ⟨"QueryBench", "<init>", "()V"⟩
abbrev k_QB_init : Cond := .code y_QB_init b_QB_init 1 none
theorem i_QB_init : k_QB_init ∈ gtbl := by sorry
theorem d_QB_init_0 : decode b_QB_init 0 = .ok (.aload_n 0, 1) := by sorry
theorem d_QB_init_1 : decode b_QB_init 1 = .ok (.invokespecial 1, 3) := by sorry
theorem d_QB_init_4 : decode b_QB_init 4 = .ok (.aload_n 0, 1) := by sorry
theorem d_QB_init_5 : decode b_QB_init 5 = .ok (.new 7, 3) := by sorry
theorem d_QB_init_8 : decode b_QB_init 8 = .ok (.dup, 1) := by sorry
theorem d_QB_init_9 : decode b_QB_init 9 = .ok (.invokespecial 9, 3) := by sorry
theorem d_QB_init_12 : decode b_QB_init 12 = .ok (.putfield 10, 3) := by sorry
theorem d_QB_init_15 : decode b_QB_init 15 = .ok (.aload_n 0, 1) := by sorry
theorem d_QB_init_16 : decode b_QB_init 16 = .ok (.new 16, 3) := by sorry
theorem d_QB_init_19 : decode b_QB_init 19 = .ok (.dup, 1) := by sorry
theorem d_QB_init_20 : decode b_QB_init 20 = .ok (.aload_n 0, 1) := by sorry
theorem d_QB_init_21 : decode b_QB_init 21 = .ok (.getfield 10, 3) := by sorry
theorem d_QB_init_24 : decode b_QB_init 24 = .ok (.invokespecial 18, 3) := by sorry
theorem d_QB_init_27 : decode b_QB_init 27 = .ok (.putfield 21, 3) := by sorry
theorem d_QB_init_30 : decode b_QB_init 30 = .ok (.aload_n 0, 1) := by sorry
theorem d_QB_init_31 : decode b_QB_init 31 = .ok (.new 25, 3) := by sorry
theorem d_QB_init_34 : decode b_QB_init 34 = .ok (.dup, 1) := by sorry
theorem d_QB_init_35 : decode b_QB_init 35 = .ok (.aload_n 0, 1) := by sorry
theorem d_QB_init_36 : decode b_QB_init 36 = .ok (.getfield 10, 3) := by sorry
theorem d_QB_init_39 : decode b_QB_init 39 = .ok (.invokespecial 27, 3) := by sorry
theorem d_QB_init_42 : decode b_QB_init 42 = .ok (.putfield 28, 3) := by sorry
theorem d_QB_init_45 : decode b_QB_init 45 = .ok (.aload_n 0, 1) := by sorry
theorem d_QB_init_46 : decode b_QB_init 46 = .ok (.new 32, 3) := by sorry
theorem d_QB_init_49 : decode b_QB_init 49 = .ok (.dup, 1) := by sorry
theorem d_QB_init_50 : decode b_QB_init 50 = .ok (.invokespecial 34, 3) := by sorry
theorem d_QB_init_53 : decode b_QB_init 53 = .ok (.putfield 35, 3) := by sorry
theorem d_QB_init_56 : decode b_QB_init 56 = .ok (.aload_n 0, 1) := by sorry
theorem d_QB_init_57 : decode b_QB_init 57 = .ok (.iconst 4, 1) := by sorry
theorem d_QB_init_58 : decode b_QB_init 58 = .ok (.anewarray 39, 3) := by sorry
theorem d_QB_init_61 : decode b_QB_init 61 = .ok (.putfield 41, 3) := by sorry
theorem d_QB_init_64 : decode b_QB_init 64 = .ok (.aload_n 0, 1) := by sorry
theorem d_QB_init_65 : decode b_QB_init 65 = .ok (.new 45, 3) := by sorry
theorem d_QB_init_68 : decode b_QB_init 68 = .ok (.dup, 1) := by sorry
theorem d_QB_init_69 : decode b_QB_init 69 = .ok (.invokespecial 47, 3) := by sorry
theorem d_QB_init_72 : decode b_QB_init 72 = .ok (.putfield 48, 3) := by sorry
theorem d_QB_init_75 : decode b_QB_init 75 = .ok (.aload_n 0, 1) := by sorry
theorem d_QB_init_76 : decode b_QB_init 76 = .ok (.new 45, 3) := by sorry
theorem d_QB_init_79 : decode b_QB_init 79 = .ok (.dup, 1) := by sorry
theorem d_QB_init_80 : decode b_QB_init 80 = .ok (.invokespecial 47, 3) := by sorry
theorem d_QB_init_83 : decode b_QB_init 83 = .ok (.putfield 52, 3) := by sorry
theorem d_QB_init_86 : decode b_QB_init 86 = .ok (.return_, 1) := by sorry
set_option maxHeartbeats 4000000 in
set_option maxRecDepth 100000 in
/-- QueryBench() -/
theorem c_QB_init (l : Launch) (dC : Nat → ClassId) (dI : Nat → Nat → Nat) (q0 : Nat) (sz : Heap) : Met l y_QB_init (k_QB_init :: gtbl) ({ frames := 2, cells := 14, slots := 51051, locals := 40 }) (va_Pc [.ref q0] (mv dC dI [(q0, .inr (11, [.null, .null, .null, .null, .null, .null, .null, .null]))] [] sz)) (va_Qv (fun (_ : Unit) => True) (fun _ t => ∃ (h0 qb qu jr qr wk wl ds p1 b1 s1 p2 b2 s2 : Nat) (cB cI cV : ClassId), mz dC dI [(q0, .inr (11, [.ref h0, .ref jr, .ref qr, .ref wk, .ref ds, .null, .ref p1, .ref p2])), (h0, .inr (8, [.ref qb, .ref qu, .int 0, .int 0, .int 0, .int 0, .int (-1)])), (qb, .inl (cB, 4096, .inl (fun _ => 0))), (qu, .inl (cI, 4096, .inl (fun _ => 0))), (jr, .inr (1, [.ref h0, .int 0, .int 0, .null])), (qr, .inr (5, [.ref h0, .int 0])), (wk, .inr (10, [.ref wl, .int 0, .int 0, .null])), (wl, .inl (cV, 10000, .inr (.inr (.inr (.inr (fun _ => none)))))), (ds, .inl (cV, 4, .inr (.inr (.inr (.inr (fun _ => none)))))), (p1, .inr (3, [.ref b1, .int 0, .ref s1])), (b1, .inl (cB, 16384, .inl (fun _ => 0))), (s1, .inl (cV, 32, .inr (.inr (.inr (.inr (fun _ => none)))))), (p2, .inr (3, [.ref b2, .int 0, .ref s2])), (b2, .inl (cB, 16384, .inl (fun _ => 0))), (s2, .inl (cV, 32, .inr (.inr (.inr (.inr (fun _ => none))))))] [(cB, .byte), (cI, .int), (cV, .object "QueryBench$Value")] (va_A [(q0, .inr (11, [.null, .null, .null, .null, .null, .null, .null, .null]))] sz.size) t ∧ szk sz t.heap 14 51051) (va_A [(q0, .inr (11, [.null, .null, .null, .null, .null, .null, .null, .null]))] sz.size)) 14 51051 (va_A [(q0, .inr (11, [.null, .null, .null, .null, .null, .null, .null, .null]))] sz.size) := by sorry
end
section
theorem w_56 : (.fieldLink "QueryBench" 121 "QueryBench$Tape" "place" "I" : Cond) ∈ gtbl := by sorry
theorem w_141 : (.fieldLink "QueryBench$Printer" 33 "QueryBench$Printer" "length" "I" : Cond) ∈ gtbl := by sorry
theorem w_142 : (.fieldLink "QueryBench" 103 "QueryBench$Printer" "length" "I" : Cond) ∈ gtbl := by sorry
theorem w_957 : (.methodLink "QueryBench$Printer" 25 ⟨"QueryBench$Printer", "put", "(I)V"⟩ : Cond) ∈ gtbl := by sorry
theorem w_959 : (.instanceMethod ⟨"QueryBench$Printer", "put", "(I)V"⟩ : Cond) ∈ gtbl := by sorry
theorem w_961 : (.classLink "QueryBench$Printer" 37 "java/lang/IndexOutOfBoundsException" : Cond) ∈ gtbl := by sorry
theorem w_984 : (.methodLink "QueryBench$Printer" 40 ⟨"java/lang/String", "length", "()I"⟩ : Cond) ∈ gtbl := by sorry
theorem w_985 : (.methodLink "QueryBench$Printer" 45 ⟨"java/lang/String", "charAt", "(I)C"⟩ : Cond) ∈ gtbl := by sorry
theorem w_1099 : (.fieldLink "QueryBenchModel" 20 "QueryBenchModel" "out" "[B" : Cond) ∈ gtbl := by sorry
abbrev b_QB_count : ByteArray := prog_1_method_9_code
def y_QB_count : MethodName := ⟨"QueryBench", "count", "(I)I"⟩
abbrev k_QB_count : Cond := .code y_QB_count b_QB_count 2 (some .int)
theorem i_QB_count : k_QB_count ∈ gtbl := by sorry
theorem d_QB_count_0 : decode b_QB_count 0 = .ok (.iload_n 1, 1) := by sorry
theorem d_QB_count_1 : decode b_QB_count 1 = .ok (.ifCond .lt 8, 3) := by sorry
theorem d_QB_count_4 : decode b_QB_count 4 = .ok (.iload_n 1, 1) := by sorry
theorem d_QB_count_5 : decode b_QB_count 5 = .ok (.iconst 2, 1) := by sorry
theorem d_QB_count_6 : decode b_QB_count 6 = .ok (.if_icmp .le 11, 3) := by sorry
theorem d_QB_count_9 : decode b_QB_count 9 = .ok (.new 66, 3) := by sorry
theorem d_QB_count_12 : decode b_QB_count 12 = .ok (.dup, 1) := by sorry
theorem d_QB_count_13 : decode b_QB_count 13 = .ok (.invokespecial 68, 3) := by sorry
theorem d_QB_count_16 : decode b_QB_count 16 = .ok (.athrow, 1) := by sorry
theorem d_QB_count_17 : decode b_QB_count 17 = .ok (.iload_n 1, 1) := by sorry
theorem d_QB_count_18 : decode b_QB_count 18 = .ok (.ifCond .ne 11, 3) := by sorry
theorem d_QB_count_21 : decode b_QB_count 21 = .ok (.aload_n 0, 1) := by sorry
theorem d_QB_count_22 : decode b_QB_count 22 = .ok (.getfield 10, 3) := by sorry
theorem d_QB_count_25 : decode b_QB_count 25 = .ok (.getfield 55, 3) := by sorry
theorem d_QB_count_28 : decode b_QB_count 28 = .ok (.ireturn, 1) := by sorry
theorem d_QB_count_29 : decode b_QB_count 29 = .ok (.iload_n 1, 1) := by sorry
theorem d_QB_count_30 : decode b_QB_count 30 = .ok (.iconst 1, 1) := by sorry
theorem d_QB_count_31 : decode b_QB_count 31 = .ok (.if_icmp .ne 13, 3) := by sorry
theorem d_QB_count_34 : decode b_QB_count 34 = .ok (.aload_n 0, 1) := by sorry
theorem d_QB_count_35 : decode b_QB_count 35 = .ok (.getfield 48, 3) := by sorry
theorem d_QB_count_38 : decode b_QB_count 38 = .ok (.getfield 103, 3) := by sorry
theorem d_QB_count_41 : decode b_QB_count 41 = .ok (.goto 10, 3) := by sorry
theorem d_QB_count_44 : decode b_QB_count 44 = .ok (.aload_n 0, 1) := by sorry
theorem d_QB_count_45 : decode b_QB_count 45 = .ok (.getfield 10, 3) := by sorry
theorem d_QB_count_48 : decode b_QB_count 48 = .ok (.getfield 121, 3) := by sorry
theorem d_QB_count_51 : decode b_QB_count 51 = .ok (.ireturn, 1) := by sorry
theorem xa_QB_count_9 : ∀ w ∈ vx_at0 R_QB 68 "java/lang/IllegalArgumentException" ["java/lang/RuntimeException", "java/lang/Exception"], (goodWord w = true ∧ w ∈ lw_tbl) ∨ w ∈ nwl := by sorry
theorem xa_QB_count_9_g : ∀ w ∈ Cond.classLink R_QB 66 "java/lang/IllegalArgumentException" :: Cond.initialized "java/lang/IllegalArgumentException" :: vx_at0 R_QB 68 "java/lang/IllegalArgumentException" ["java/lang/RuntimeException", "java/lang/Exception"], vx_ot w = true := by sorry
set_option maxHeartbeats 4000000 in
set_option maxRecDepth 100000 in
/-- QueryBench.count -/
theorem c_QB_count (l : Launch) (hl9 : l.stackTraces = false) (dC : Nat → ClassId) (dI : Nat → Nat → Nat) (q0 h0 p1 : Nat) (sz : Heap) (r1 r2 r3 r4 r5 r7 rb ru rpb rps : Value) (uc ln en at_ pl rl nn : Int32) : vx_Met l y_QB_count (k_QB_count :: gtbl) ({ frames := 8, cells := 1, slots := 6, locals := 110 }) (va_Pc [.ref q0, .int nn] (mx dC dI [(q0, .inr (11, [.ref h0, r1, r2, r3, r4, r5, .ref p1, r7])), (h0, .inr (8, [rb, ru, .int uc, .int ln, .int en, .int at_, .int pl])), (p1, .inr (3, [rpb, .int rl, rps]))] [] sz)) (va_Qi (fun (r : Int32) (_ : Unit) => (¬ nn < 0 ∧ nn ≤ 2) ∧ r = if nn = 0 then ln else if nn = 1 then rl else pl) (fun _ t => mz dC dI [(q0, .inr (11, [.ref h0, r1, r2, r3, r4, r5, .ref p1, r7])), (h0, .inr (8, [rb, ru, .int uc, .int ln, .int en, .int at_, .int pl])), (p1, .inr (3, [rpb, .int rl, rps]))] [] (va_A [(q0, .inr (11, [.ref h0, r1, r2, r3, r4, r5, .ref p1, r7])), (h0, .inr (8, [rb, ru, .int uc, .int ln, .int en, .int at_, .int pl])), (p1, .inr (3, [rpb, .int rl, rps]))] sz.size) t ∧ szk sz t.heap 0 0) (va_A [(q0, .inr (11, [.ref h0, r1, r2, r3, r4, r5, .ref p1, r7])), (h0, .inr (8, [rb, ru, .int uc, .int ln, .int en, .int at_, .int pl])), (p1, .inr (3, [rpb, .int rl, rps]))] sz.size)) (vx_X (fun _ : Unit => ¬ (¬ nn < 0 ∧ nn ≤ 2)) (fun E _ t => E = "java/lang/IllegalArgumentException" ∧ mz dC dI [(q0, .inr (11, [.ref h0, r1, r2, r3, r4, r5, .ref p1, r7])), (h0, .inr (8, [rb, ru, .int uc, .int ln, .int en, .int at_, .int pl])), (p1, .inr (3, [rpb, .int rl, rps]))] [] (va_A [(q0, .inr (11, [.ref h0, r1, r2, r3, r4, r5, .ref p1, r7])), (h0, .inr (8, [rb, ru, .int uc, .int ln, .int en, .int at_, .int pl])), (p1, .inr (3, [rpb, .int rl, rps]))] sz.size) t) (va_A [(q0, .inr (11, [.ref h0, r1, r2, r3, r4, r5, .ref p1, r7])), (h0, .inr (8, [rb, ru, .int uc, .int ln, .int en, .int at_, .int pl])), (p1, .inr (3, [rpb, .int rl, rps]))] sz.size)) 1 6 (va_A [(q0, .inr (11, [.ref h0, r1, r2, r3, r4, r5, .ref p1, r7])), (h0, .inr (8, [rb, ru, .int uc, .int ln, .int en, .int at_, .int pl])), (p1, .inr (3, [rpb, .int rl, rps]))] sz.size) := by sorry
abbrev b_Printer_put : ByteArray := prog_5_method_3_code
def y_Printer_put : MethodName := ⟨"QueryBench$Printer", "put", "(I)V"⟩
abbrev k_Printer_put : Cond := .code y_Printer_put b_Printer_put 2 none
theorem i_Printer_put : k_Printer_put ∈ gtbl := by sorry
theorem d_Printer_put_0 : decode b_Printer_put 0 = .ok (.aload_n 0, 1) := by sorry
theorem d_Printer_put_1 : decode b_Printer_put 1 = .ok (.getfield 33, 3) := by sorry
theorem d_Printer_put_4 : decode b_Printer_put 4 = .ok (.sipush 16384, 3) := by sorry
theorem d_Printer_put_7 : decode b_Printer_put 7 = .ok (.if_icmp .lt 11, 3) := by sorry
theorem d_Printer_put_10 : decode b_Printer_put 10 = .ok (.new 37, 3) := by sorry
theorem d_Printer_put_13 : decode b_Printer_put 13 = .ok (.dup, 1) := by sorry
theorem d_Printer_put_14 : decode b_Printer_put 14 = .ok (.invokespecial 39, 3) := by sorry
theorem d_Printer_put_17 : decode b_Printer_put 17 = .ok (.athrow, 1) := by sorry
theorem d_Printer_put_18 : decode b_Printer_put 18 = .ok (.aload_n 0, 1) := by sorry
theorem d_Printer_put_19 : decode b_Printer_put 19 = .ok (.getfield 9, 3) := by sorry
theorem d_Printer_put_22 : decode b_Printer_put 22 = .ok (.aload_n 0, 1) := by sorry
theorem d_Printer_put_23 : decode b_Printer_put 23 = .ok (.getfield 33, 3) := by sorry
theorem d_Printer_put_26 : decode b_Printer_put 26 = .ok (.iload_n 1, 1) := by sorry
theorem d_Printer_put_27 : decode b_Printer_put 27 = .ok (.i2b, 1) := by sorry
theorem d_Printer_put_28 : decode b_Printer_put 28 = .ok (.bastore, 1) := by sorry
theorem d_Printer_put_29 : decode b_Printer_put 29 = .ok (.aload_n 0, 1) := by sorry
theorem d_Printer_put_30 : decode b_Printer_put 30 = .ok (.dup, 1) := by sorry
theorem d_Printer_put_31 : decode b_Printer_put 31 = .ok (.getfield 33, 3) := by sorry
theorem d_Printer_put_34 : decode b_Printer_put 34 = .ok (.iconst 1, 1) := by sorry
theorem d_Printer_put_35 : decode b_Printer_put 35 = .ok (.iadd, 1) := by sorry
theorem d_Printer_put_36 : decode b_Printer_put 36 = .ok (.putfield 33, 3) := by sorry
theorem d_Printer_put_39 : decode b_Printer_put 39 = .ok (.return_, 1) := by sorry
theorem xa_Printer_put_10 : ∀ w ∈ vx_at0 R_Printer 39 "java/lang/IndexOutOfBoundsException" ["java/lang/RuntimeException", "java/lang/Exception"], (goodWord w = true ∧ w ∈ lw_tbl) ∨ w ∈ nwl := by sorry
theorem xa_Printer_put_10_g : ∀ w ∈ Cond.classLink R_Printer 37 "java/lang/IndexOutOfBoundsException" :: Cond.initialized "java/lang/IndexOutOfBoundsException" :: vx_at0 R_Printer 39 "java/lang/IndexOutOfBoundsException" ["java/lang/RuntimeException", "java/lang/Exception"], vx_ot w = true := by sorry
set_option maxHeartbeats 4000000 in
set_option maxRecDepth 100000 in
/-- Printer.put -/
theorem c_Printer_put (l : Launch) (hl9 : l.stackTraces = false) (dC : Nat → ClassId) (dI : Nat → Nat → Nat) (cB : ClassId) (p1 pb : Nat) (sz : Heap) (rps : Value) (f : Nat → Int32) (k : Nat) (x : Int32) (hk0 : k ≤ 16384) : vx_Met l y_Printer_put (k_Printer_put :: gtbl) ({ frames := 8, cells := 1, slots := 6, locals := 110 }) (va_Pc [.ref p1, .int x] (mx dC dI [(p1, .inr (3, [.ref pb, .int (nI k), rps])), (pb, .inl (cB, 16384, .inl f))] [(cB, .byte)] sz)) (va_Qv (fun (_ : Unit) => k < 16384) (fun _ t => mz dC dI [(p1, .inr (3, [.ref pb, .int (nI (k + 1)), rps])), (pb, .inl (cB, 16384, .inl (upd f k (vp_nar .byte (x.toInt8.toInt32)))))] [(cB, .byte)] (va_A [(p1, .inr (3, [.ref pb, .int (nI k), rps])), (pb, .inl (cB, 16384, .inl f))] sz.size) t ∧ szk sz t.heap 0 0) (va_A [(p1, .inr (3, [.ref pb, .int (nI k), rps])), (pb, .inl (cB, 16384, .inl f))] sz.size)) (vx_X (fun _ : Unit => ¬ k < 16384) (fun E _ t => E = "java/lang/IndexOutOfBoundsException" ∧ mz dC dI [(p1, .inr (3, [.ref pb, .int (nI k), rps])), (pb, .inl (cB, 16384, .inl f))] [(cB, .byte)] (va_A [(p1, .inr (3, [.ref pb, .int (nI k), rps])), (pb, .inl (cB, 16384, .inl f))] sz.size) t) (va_A [(p1, .inr (3, [.ref pb, .int (nI k), rps])), (pb, .inl (cB, 16384, .inl f))] sz.size)) 1 6 (va_A [(p1, .inr (3, [.ref pb, .int (nI k), rps])), (pb, .inl (cB, 16384, .inl f))] sz.size) := by sorry
abbrev b_Printer_putLetters : ByteArray := prog_5_method_4_code
def y_Printer_putLetters : MethodName := ⟨"QueryBench$Printer", "putLetters", "(Ljava/lang/String;)V"⟩
abbrev k_Printer_putLetters : Cond := .code y_Printer_putLetters b_Printer_putLetters 3 none
theorem i_Printer_putLetters : k_Printer_putLetters ∈ gtbl := by sorry
theorem d_Printer_putLetters_0 : decode b_Printer_putLetters 0 = .ok (.iconst 0, 1) := by sorry
theorem d_Printer_putLetters_1 : decode b_Printer_putLetters 1 = .ok (.istore_n 2, 1) := by sorry
theorem d_Printer_putLetters_2 : decode b_Printer_putLetters 2 = .ok (.iload_n 2, 1) := by sorry
theorem d_Printer_putLetters_3 : decode b_Printer_putLetters 3 = .ok (.aload_n 1, 1) := by sorry
theorem d_Printer_putLetters_4 : decode b_Printer_putLetters 4 = .ok (.invokevirtual 40, 3) := by sorry
theorem d_Printer_putLetters_7 : decode b_Printer_putLetters 7 = .ok (.if_icmp .ge 18, 3) := by sorry
theorem d_Printer_putLetters_10 : decode b_Printer_putLetters 10 = .ok (.aload_n 0, 1) := by sorry
theorem d_Printer_putLetters_11 : decode b_Printer_putLetters 11 = .ok (.aload_n 1, 1) := by sorry
theorem d_Printer_putLetters_12 : decode b_Printer_putLetters 12 = .ok (.iload_n 2, 1) := by sorry
theorem d_Printer_putLetters_13 : decode b_Printer_putLetters 13 = .ok (.invokevirtual 45, 3) := by sorry
theorem d_Printer_putLetters_16 : decode b_Printer_putLetters 16 = .ok (.invokevirtual 25, 3) := by sorry
theorem d_Printer_putLetters_19 : decode b_Printer_putLetters 19 = .ok (.iinc 2 1, 3) := by sorry
theorem d_Printer_putLetters_22 : decode b_Printer_putLetters 22 = .ok (.goto (-20), 3) := by sorry
theorem d_Printer_putLetters_25 : decode b_Printer_putLetters 25 = .ok (.return_, 1) := by sorry
set_option maxHeartbeats 4000000 in
set_option maxRecDepth 100000 in
/-- Printer.putLetters -/
theorem c_Printer_putLetters (l : Launch) (hl9 : l.stackTraces = false) (dC : Nat → ClassId) (dI : Nat → Nat → Nat) (cB : ClassId) (p1 pb : Nat) (sz : Heap) (rps : Value) (f : Nat → Int32) (k : Nat) (sa av len : Nat) (b : Nat → Int32) (hk0 : k ≤ 16384) (hlen : len ≤ 1000) : vx_Met l y_Printer_putLetters (k_Printer_putLetters :: gtbl) ({ frames := 9, cells := 1, slots := 6, locals := 131 }) (va_Pc [.ref p1, .ref sa] (mt sa av len b dC dI [(p1, .inr (3, [.ref pb, .int (nI k), rps])), (pb, .inl (cB, 16384, .inl f))] [(cB, .byte)] sz)) (va_Qv (fun (_ : Unit) => k + len ≤ 16384) (fun _ t => mz dC dI [(p1, .inr (3, [.ref pb, .int (nI (k + len)), rps])), (pb, .inl (cB, 16384, .inl (wrS f k b len)))] [(cB, .byte)] (va_A [(p1, .inr (3, [.ref pb, .int (nI k), rps])), (pb, .inl (cB, 16384, .inl f))] sz.size) t ∧ szk sz t.heap 0 0) (va_A [(p1, .inr (3, [.ref pb, .int (nI k), rps])), (pb, .inl (cB, 16384, .inl f))] sz.size)) (vx_X (fun u : Nat => u ≤ len ∧ ¬ k + len ≤ 16384) (fun E u t => E = "java/lang/IndexOutOfBoundsException" ∧ mz dC dI [(p1, .inr (3, [.ref pb, .int (nI (k + u)), rps])), (pb, .inl (cB, 16384, .inl (wrS f k b u)))] [(cB, .byte)] (va_A [(p1, .inr (3, [.ref pb, .int (nI k), rps])), (pb, .inl (cB, 16384, .inl f))] sz.size) t) (va_A [(p1, .inr (3, [.ref pb, .int (nI k), rps])), (pb, .inl (cB, 16384, .inl f))] sz.size)) 1 6 (va_A [(p1, .inr (3, [.ref pb, .int (nI k), rps])), (pb, .inl (cB, 16384, .inl f))] sz.size) := by sorry
abbrev b_Mo_write : ByteArray := prog_14_method_26_code
def y_Mo_write : MethodName := ⟨"QueryBenchModel", "write", "(I)V"⟩
abbrev k_Mo_write : Cond := .code y_Mo_write b_Mo_write 2 none
theorem i_Mo_write : k_Mo_write ∈ gtbl := by sorry
theorem d_Mo_write_0 : decode b_Mo_write 0 = .ok (.aload_n 0, 1) := by sorry
theorem d_Mo_write_1 : decode b_Mo_write 1 = .ok (.getfield 232, 3) := by sorry
theorem d_Mo_write_4 : decode b_Mo_write 4 = .ok (.sipush 16384, 3) := by sorry
theorem d_Mo_write_7 : decode b_Mo_write 7 = .ok (.if_icmp .lt 9, 3) := by sorry
theorem d_Mo_write_10 : decode b_Mo_write 10 = .ok (.aload_n 0, 1) := by sorry
theorem d_Mo_write_11 : decode b_Mo_write 11 = .ok (.iconst 1, 1) := by sorry
theorem d_Mo_write_12 : decode b_Mo_write 12 = .ok (.putfield 235, 3) := by sorry
theorem d_Mo_write_15 : decode b_Mo_write 15 = .ok (.return_, 1) := by sorry
theorem d_Mo_write_16 : decode b_Mo_write 16 = .ok (.aload_n 0, 1) := by sorry
theorem d_Mo_write_17 : decode b_Mo_write 17 = .ok (.getfield 20, 3) := by sorry
theorem d_Mo_write_20 : decode b_Mo_write 20 = .ok (.aload_n 0, 1) := by sorry
theorem d_Mo_write_21 : decode b_Mo_write 21 = .ok (.getfield 232, 3) := by sorry
theorem d_Mo_write_24 : decode b_Mo_write 24 = .ok (.iload_n 1, 1) := by sorry
theorem d_Mo_write_25 : decode b_Mo_write 25 = .ok (.i2b, 1) := by sorry
theorem d_Mo_write_26 : decode b_Mo_write 26 = .ok (.bastore, 1) := by sorry
theorem d_Mo_write_27 : decode b_Mo_write 27 = .ok (.aload_n 0, 1) := by sorry
theorem d_Mo_write_28 : decode b_Mo_write 28 = .ok (.dup, 1) := by sorry
theorem d_Mo_write_29 : decode b_Mo_write 29 = .ok (.getfield 232, 3) := by sorry
theorem d_Mo_write_32 : decode b_Mo_write 32 = .ok (.iconst 1, 1) := by sorry
theorem d_Mo_write_33 : decode b_Mo_write 33 = .ok (.iadd, 1) := by sorry
theorem d_Mo_write_34 : decode b_Mo_write 34 = .ok (.putfield 232, 3) := by sorry
theorem d_Mo_write_37 : decode b_Mo_write 37 = .ok (.return_, 1) := by sorry
set_option maxHeartbeats 4000000 in
set_option maxRecDepth 100000 in
/-- the reference: write(b) -/
theorem c_Mo_write (l : Launch) (dC : Nat → ClassId) (dI : Nat → Nat → Nat) (mo : Nat) (sz : Heap) (v : Nat → Value) (cB : ClassId) (qo : Nat) (f : Nat → Int32) (k : Nat) (x : Int32) (hk0 : k ≤ 16384) (h10 : v 10 = .ref qo) (h11 : v 11 = .int (nI k)) : Met l y_Mo_write (k_Mo_write :: gtbl) ({ frames := 0, cells := 0, slots := 0, locals := 0 }) (va_Pc [.ref mo, .int x] (mp dC dI [(mo, .inr (13, MF 30 v)), (qo, .inl (cB, 16392, .inl f))] [(cB, .byte)] sz)) (va_Qv (fun (u : (Nat → Value) × (Nat → Int32)) => (k < 16384 ∧ u = (va_up v 11 (.int (nI (k + 1))), upd f k (vp_nar .byte (x.toInt8.toInt32)))) ∨ (¬ k < 16384 ∧ u = (va_up v 12 (.int 1), f))) (fun u => mz dC dI [(mo, .inr (13, MF 30 u.1)), (qo, .inl (cB, 16392, .inl u.2))] [(cB, .byte)] (va_A [(mo, .inr (13, MF 30 v)), (qo, .inl (cB, 16392, .inl f))] sz.size)) (va_A [(mo, .inr (13, MF 30 v)), (qo, .inl (cB, 16392, .inl f))] sz.size)) 0 0 (va_A [(mo, .inr (13, MF 30 v)), (qo, .inl (cB, 16392, .inl f))] sz.size) := by sorry
abbrev b_Mo_shut : ByteArray := prog_14_method_38_code
def y_Mo_shut : MethodName := ⟨"QueryBenchModel", "shut", "(I)Z"⟩
abbrev k_Mo_shut : Cond := .code y_Mo_shut b_Mo_shut 2 (some .boolean)
theorem i_Mo_shut : k_Mo_shut ∈ gtbl := by sorry
theorem d_Mo_shut_0 : decode b_Mo_shut 0 = .ok (.aload_n 0, 1) := by sorry
theorem d_Mo_shut_1 : decode b_Mo_shut 1 = .ok (.iload_n 1, 1) := by sorry
theorem d_Mo_shut_2 : decode b_Mo_shut 2 = .ok (.invokevirtual 163, 3) := by sorry
theorem d_Mo_shut_5 : decode b_Mo_shut 5 = .ok (.ifCond .ne 5, 3) := by sorry
theorem d_Mo_shut_8 : decode b_Mo_shut 8 = .ok (.iconst 0, 1) := by sorry
theorem d_Mo_shut_9 : decode b_Mo_shut 9 = .ok (.ireturn, 1) := by sorry
theorem d_Mo_shut_10 : decode b_Mo_shut 10 = .ok (.aload_n 0, 1) := by sorry
theorem d_Mo_shut_11 : decode b_Mo_shut 11 = .ok (.dup, 1) := by sorry
theorem d_Mo_shut_12 : decode b_Mo_shut 12 = .ok (.getfield 266, 3) := by sorry
theorem d_Mo_shut_15 : decode b_Mo_shut 15 = .ok (.iconst 1, 1) := by sorry
theorem d_Mo_shut_16 : decode b_Mo_shut 16 = .ok (.isub, 1) := by sorry
theorem d_Mo_shut_17 : decode b_Mo_shut 17 = .ok (.putfield 266, 3) := by sorry
theorem d_Mo_shut_20 : decode b_Mo_shut 20 = .ok (.iconst 1, 1) := by sorry
theorem d_Mo_shut_21 : decode b_Mo_shut 21 = .ok (.ireturn, 1) := by sorry
set_option maxHeartbeats 4000000 in
set_option maxRecDepth 100000 in
/-- the reference: shut -/
theorem c_Mo_shut (l : Launch) (dC : Nat → ClassId) (dI : Nat → Nat → Nat) (mo : Nat) (sz : Heap) (v : Nat → Value) (cB : ClassId) (qx NN : Nat) (f : Nat → Int32) (n i : Nat) (hnN : n ≤ NN) (hNN : NN ≤ 1000000) (hi0 : i ≤ 1000000) (h6 : v 6 = .ref qx) (h7 : v 7 = .int (nI i)) (h8 : v 8 = .int (nI n)) (br : Int32) (h9 : v 9 = .int br) (ch : Int32) (o : Nat) (h23 : v 23 = .int (nI (o + 1))) : Met l y_Mo_shut (k_Mo_shut :: gtbl) ({ frames := 2, cells := 0, slots := 0, locals := 46 }) (va_Pc [.ref mo, .int ch] (mp dC dI [(mo, .inr (13, MF 30 v)), (qx, .inl (cB, NN, .inl f))] [(cB, .byte)] sz)) (va_Qi (fun (r : Int32) (u : Nat → Value) => (hereV f n i = ch ∧ r = 1 ∧ u = va_up (va_up v 7 (.int (nI (i + 1)))) 23 (.int (nI o))) ∨ (¬ hereV f n i = ch ∧ r = 0 ∧ u = mfail v br (nI i))) (fun u => mz dC dI [(mo, .inr (13, MF 30 u)), (qx, .inl (cB, NN, .inl f))] [(cB, .byte)] (va_A [(mo, .inr (13, MF 30 v)), (qx, .inl (cB, NN, .inl f))] sz.size)) (va_A [(mo, .inr (13, MF 30 v)), (qx, .inl (cB, NN, .inl f))] sz.size)) 0 0 (va_A [(mo, .inr (13, MF 30 v)), (qx, .inl (cB, NN, .inl f))] sz.size) := by sorry
end
section
theorem w_1042 : (.fieldLink "QueryBenchModel$Tree" 25 "QueryBenchModel$Tree" "kids" "[I" : Cond) ∈ gtbl := by sorry
theorem w_1044 : (.fieldLink "QueryBenchModel$Tree" 28 "QueryBenchModel$Tree" "nexts" "[I" : Cond) ∈ gtbl := by sorry
theorem w_1053 : (.fieldLink "QueryBenchModel$Tree" 47 "QueryBenchModel$Tree" "count" "I" : Cond) ∈ gtbl := by sorry
theorem w_1057 : (.fieldLink "QueryBenchModel$Tree" 51 "QueryBenchModel$Tree" "used" "I" : Cond) ∈ gtbl := by sorry
/-- the first j of f, then zeros -/
def cpL (f : Nat → Int32) (j : Nat) : Nat → Int32 := fun i => if i < j then f i else 0
theorem cpL_0 (f : Nat → Int32) : cpL f 0 = fun _ => 0 := by sorry
theorem cpL_s (f : Nat → Int32) (j : Nat) : upd (cpL f j) j (f j) = cpL f (j + 1) := by sorry
/-- a chain of nodes: k is its first, nx the next of each -/
def chn (nx : Nat → Int32) (N : Nat) : List Nat → Int32 → Prop
  | [], k => k < 0
  | a :: r, k => k = nI a ∧ a < N ∧ chn nx N r (nx a)
abbrev b_Tree_clear : ByteArray := prog_15_method_2_code
def y_Tree_clear : MethodName := ⟨"QueryBenchModel$Tree", "clear", "()V"⟩
abbrev k_Tree_clear : Cond := .code y_Tree_clear b_Tree_clear 1 none
theorem i_Tree_clear : k_Tree_clear ∈ gtbl := by sorry
theorem d_Tree_clear_0 : decode b_Tree_clear 0 = .ok (.aload_n 0, 1) := by sorry
theorem d_Tree_clear_1 : decode b_Tree_clear 1 = .ok (.iconst 0, 1) := by sorry
theorem d_Tree_clear_2 : decode b_Tree_clear 2 = .ok (.putfield 47, 3) := by sorry
theorem d_Tree_clear_5 : decode b_Tree_clear 5 = .ok (.aload_n 0, 1) := by sorry
theorem d_Tree_clear_6 : decode b_Tree_clear 6 = .ok (.iconst 0, 1) := by sorry
theorem d_Tree_clear_7 : decode b_Tree_clear 7 = .ok (.putfield 51, 3) := by sorry
theorem d_Tree_clear_10 : decode b_Tree_clear 10 = .ok (.return_, 1) := by sorry
set_option maxHeartbeats 4000000 in
set_option maxRecDepth 100000 in
/-- Tree.clear -/
theorem c_Tree_clear (l : Launch) (dC : Nat → ClassId) (dI : Nat → Nat → Nat) (t : Nat) (sz : Heap) (w : Nat → Value)  : Met l y_Tree_clear (k_Tree_clear :: gtbl) ({ frames := 0, cells := 0, slots := 0, locals := 0 }) (va_Pc [.ref t] (mp dC dI [(t, .inr (12, MF 13 w))] [] sz)) (va_Qv (fun (_ : Unit) => True) (fun _ => mz dC dI [(t, .inr (12, MF 13 (va_up (va_up w 10 (.int 0)) 12 (.int 0))))] [] (va_A [(t, .inr (12, MF 13 w))] sz.size)) (va_A [(t, .inr (12, MF 13 w))] sz.size)) 0 0 (va_A [(t, .inr (12, MF 13 w))] sz.size) := by sorry
abbrev b_Tree_longer : ByteArray := prog_15_method_3_code
def y_Tree_longer : MethodName := ⟨"QueryBenchModel$Tree", "longer", "([I)[I"⟩
abbrev k_Tree_longer : Cond := .code y_Tree_longer b_Tree_longer 3 (some (.array .int))
theorem i_Tree_longer : k_Tree_longer ∈ gtbl := by sorry
theorem d_Tree_longer_0 : decode b_Tree_longer 0 = .ok (.iconst 2, 1) := by sorry
theorem d_Tree_longer_1 : decode b_Tree_longer 1 = .ok (.aload_n 0, 1) := by sorry
theorem d_Tree_longer_2 : decode b_Tree_longer 2 = .ok (.arraylength, 1) := by sorry
theorem d_Tree_longer_3 : decode b_Tree_longer 3 = .ok (.imul, 1) := by sorry
theorem d_Tree_longer_4 : decode b_Tree_longer 4 = .ok (.newarray .int, 2) := by sorry
theorem d_Tree_longer_6 : decode b_Tree_longer 6 = .ok (.astore_n 1, 1) := by sorry
theorem d_Tree_longer_7 : decode b_Tree_longer 7 = .ok (.iconst 0, 1) := by sorry
theorem d_Tree_longer_8 : decode b_Tree_longer 8 = .ok (.istore_n 2, 1) := by sorry
theorem d_Tree_longer_9 : decode b_Tree_longer 9 = .ok (.iload_n 2, 1) := by sorry
theorem d_Tree_longer_10 : decode b_Tree_longer 10 = .ok (.aload_n 0, 1) := by sorry
theorem d_Tree_longer_11 : decode b_Tree_longer 11 = .ok (.arraylength, 1) := by sorry
theorem d_Tree_longer_12 : decode b_Tree_longer 12 = .ok (.if_icmp .ge 15, 3) := by sorry
theorem d_Tree_longer_15 : decode b_Tree_longer 15 = .ok (.aload_n 1, 1) := by sorry
theorem d_Tree_longer_16 : decode b_Tree_longer 16 = .ok (.iload_n 2, 1) := by sorry
theorem d_Tree_longer_17 : decode b_Tree_longer 17 = .ok (.aload_n 0, 1) := by sorry
theorem d_Tree_longer_18 : decode b_Tree_longer 18 = .ok (.iload_n 2, 1) := by sorry
theorem d_Tree_longer_19 : decode b_Tree_longer 19 = .ok (.iaload, 1) := by sorry
theorem d_Tree_longer_20 : decode b_Tree_longer 20 = .ok (.iastore, 1) := by sorry
theorem d_Tree_longer_21 : decode b_Tree_longer 21 = .ok (.iinc 2 1, 3) := by sorry
theorem d_Tree_longer_24 : decode b_Tree_longer 24 = .ok (.goto (-15), 3) := by sorry
theorem d_Tree_longer_27 : decode b_Tree_longer 27 = .ok (.aload_n 1, 1) := by sorry
theorem d_Tree_longer_28 : decode b_Tree_longer 28 = .ok (.areturn, 1) := by sorry
set_option maxHeartbeats 4000000 in
set_option maxRecDepth 100000 in
/-- Tree.longer -/
theorem c_Tree_longer (l : Launch) (dC : Nat → ClassId) (dI : Nat → Nat → Nat) (cI : ClassId) (a0 N : Nat) (sz : Heap) (f : Nat → Int32) (hN : N ≤ 10000000) : Met l y_Tree_longer (k_Tree_longer :: gtbl) ({ frames := 0, cells := 1, slots := 2 * N, locals := 0 }) (va_Pc [.ref a0] (mp dC dI [(a0, .inl (cI, N, .inl f))] [(cI, .int)] sz)) (va_Qr (fun (_ : Unit) => True) (fun _ a t => mz dC dI [(a0, .inl (cI, N, .inl f)), (a, .inl (cI, (2 * N), .inl (cpL f N)))] [(cI, .int)] (va_A [(a0, .inl (cI, N, .inl f))] sz.size) t ∧ szk sz t.heap 1 (2 * N)) (va_A [(a0, .inl (cI, N, .inl f))] sz.size)) 1 (2 * N) (va_A [(a0, .inl (cI, N, .inl f))] sz.size) := by sorry
abbrev b_Tree_size : ByteArray := prog_15_method_6_code
def y_Tree_size : MethodName := ⟨"QueryBenchModel$Tree", "size", "(I)I"⟩
abbrev k_Tree_size : Cond := .code y_Tree_size b_Tree_size 4 (some .int)
theorem i_Tree_size : k_Tree_size ∈ gtbl := by sorry
theorem d_Tree_size_0 : decode b_Tree_size 0 = .ok (.iconst 0, 1) := by sorry
theorem d_Tree_size_1 : decode b_Tree_size 1 = .ok (.istore_n 2, 1) := by sorry
theorem d_Tree_size_2 : decode b_Tree_size 2 = .ok (.aload_n 0, 1) := by sorry
theorem d_Tree_size_3 : decode b_Tree_size 3 = .ok (.getfield 25, 3) := by sorry
theorem d_Tree_size_6 : decode b_Tree_size 6 = .ok (.iload_n 1, 1) := by sorry
theorem d_Tree_size_7 : decode b_Tree_size 7 = .ok (.iaload, 1) := by sorry
theorem d_Tree_size_8 : decode b_Tree_size 8 = .ok (.istore_n 3, 1) := by sorry
theorem d_Tree_size_9 : decode b_Tree_size 9 = .ok (.iload_n 3, 1) := by sorry
theorem d_Tree_size_10 : decode b_Tree_size 10 = .ok (.ifCond .lt 16, 3) := by sorry
theorem d_Tree_size_13 : decode b_Tree_size 13 = .ok (.iinc 2 1, 3) := by sorry
theorem d_Tree_size_16 : decode b_Tree_size 16 = .ok (.aload_n 0, 1) := by sorry
theorem d_Tree_size_17 : decode b_Tree_size 17 = .ok (.getfield 28, 3) := by sorry
theorem d_Tree_size_20 : decode b_Tree_size 20 = .ok (.iload_n 3, 1) := by sorry
theorem d_Tree_size_21 : decode b_Tree_size 21 = .ok (.iaload, 1) := by sorry
theorem d_Tree_size_22 : decode b_Tree_size 22 = .ok (.istore_n 3, 1) := by sorry
theorem d_Tree_size_23 : decode b_Tree_size 23 = .ok (.goto (-14), 3) := by sorry
theorem d_Tree_size_26 : decode b_Tree_size 26 = .ok (.iload_n 2, 1) := by sorry
theorem d_Tree_size_27 : decode b_Tree_size 27 = .ok (.ireturn, 1) := by sorry
set_option maxHeartbeats 4000000 in
set_option maxRecDepth 100000 in
/-- Tree.size -/
theorem c_Tree_size (l : Launch) (dC : Nat → ClassId) (dI : Nat → Nat → Nat) (t : Nat) (sz : Heap) (w : Nat → Value) (cI : ClassId) (a4 a5 N nd : Nat) (kd nx : Nat → Int32) (kl : List Nat) (hnd : nd < N) (hN : N ≤ 10000000) (hch : chn nx N kl (kd nd)) (h4 : w 4 = .ref a4) (h5 : w 5 = .ref a5) : Met l y_Tree_size (k_Tree_size :: gtbl) ({ frames := 0, cells := 0, slots := 0, locals := 0 }) (va_Pc [.ref t, .int (nI nd)] (mp dC dI [(t, .inr (12, MF 13 w)), (a4, .inl (cI, N, .inl kd)), (a5, .inl (cI, N, .inl nx))] [(cI, .int)] sz)) (va_Qi (fun (r : Int32) (_ : Unit) => r = nI kl.length) (fun _ => mz dC dI [(t, .inr (12, MF 13 w)), (a4, .inl (cI, N, .inl kd)), (a5, .inl (cI, N, .inl nx))] [(cI, .int)] (va_A [(t, .inr (12, MF 13 w)), (a4, .inl (cI, N, .inl kd)), (a5, .inl (cI, N, .inl nx))] sz.size)) (va_A [(t, .inr (12, MF 13 w)), (a4, .inl (cI, N, .inl kd)), (a5, .inl (cI, N, .inl nx))] sz.size)) 0 0 (va_A [(t, .inr (12, MF 13 w)), (a4, .inl (cI, N, .inl kd)), (a5, .inl (cI, N, .inl nx))] sz.size) := by sorry
end
section
theorem w_1050 : (.fieldLink "QueryBenchModel$Tree" 37 "QueryBenchModel$Tree" "parents" "[I" : Cond) ∈ gtbl := by sorry
theorem w_1055 : (.fieldLink "QueryBenchModel$Tree" 43 "QueryBenchModel$Tree" "units" "[C" : Cond) ∈ gtbl := by sorry
theorem w_1088 : (.arrayClass FieldType.char : Cond) ∈ gtbl := by sorry
/-- a char array's places hold chars -/
def chOK (g : Nat → Int32) : Prop := ∀ j, vp_nar .char (g j) = g j
theorem chOK_upd {g : Nat → Int32} {k : Nat} {x : Int32} (h : chOK g) (hx : vp_nar .char x = x) : chOK (upd g k x) := by sorry
theorem chOK_cp {g : Nat → Int32} (k : Nat) (h : chOK g) : chOK (cpL g k) := by sorry
/-- what a growing row of chars is behind one more -/
def grU (g : Nat → Int32) (U k : Nat) (x : Int32) : Nat → Int32 := upd (if k = U then cpL g k else g) k (x.toUInt32 % 65536).toInt32
def grN (U k : Nat) : Nat := if k = U then 2 * k else U
def grC (U k : Nat) : Nat := if k = U then 1 else 0
def grS (U k : Nat) : Nat := if k = U then 2 * k else 0
abbrev b_Tree_insert : ByteArray := prog_15_method_7_code
def y_Tree_insert : MethodName := ⟨"QueryBenchModel$Tree", "insert", "(III)V"⟩
abbrev k_Tree_insert : Cond := .code y_Tree_insert b_Tree_insert 4 none
theorem i_Tree_insert : k_Tree_insert ∈ gtbl := by sorry
theorem d_Tree_insert_0 : decode b_Tree_insert 0 = .ok (.aload_n 0, 1) := by sorry
theorem d_Tree_insert_1 : decode b_Tree_insert 1 = .ok (.getfield 37, 3) := by sorry
theorem d_Tree_insert_4 : decode b_Tree_insert 4 = .ok (.iload_n 3, 1) := by sorry
theorem d_Tree_insert_5 : decode b_Tree_insert 5 = .ok (.iload_n 1, 1) := by sorry
theorem d_Tree_insert_6 : decode b_Tree_insert 6 = .ok (.iastore, 1) := by sorry
theorem d_Tree_insert_7 : decode b_Tree_insert 7 = .ok (.iload_n 2, 1) := by sorry
theorem d_Tree_insert_8 : decode b_Tree_insert 8 = .ok (.ifCond .ge 25, 3) := by sorry
theorem d_Tree_insert_11 : decode b_Tree_insert 11 = .ok (.aload_n 0, 1) := by sorry
theorem d_Tree_insert_12 : decode b_Tree_insert 12 = .ok (.getfield 28, 3) := by sorry
theorem d_Tree_insert_15 : decode b_Tree_insert 15 = .ok (.iload_n 3, 1) := by sorry
theorem d_Tree_insert_16 : decode b_Tree_insert 16 = .ok (.aload_n 0, 1) := by sorry
theorem d_Tree_insert_17 : decode b_Tree_insert 17 = .ok (.getfield 25, 3) := by sorry
theorem d_Tree_insert_20 : decode b_Tree_insert 20 = .ok (.iload_n 1, 1) := by sorry
theorem d_Tree_insert_21 : decode b_Tree_insert 21 = .ok (.iaload, 1) := by sorry
theorem d_Tree_insert_22 : decode b_Tree_insert 22 = .ok (.iastore, 1) := by sorry
theorem d_Tree_insert_23 : decode b_Tree_insert 23 = .ok (.aload_n 0, 1) := by sorry
theorem d_Tree_insert_24 : decode b_Tree_insert 24 = .ok (.getfield 25, 3) := by sorry
theorem d_Tree_insert_27 : decode b_Tree_insert 27 = .ok (.iload_n 1, 1) := by sorry
theorem d_Tree_insert_28 : decode b_Tree_insert 28 = .ok (.iload_n 3, 1) := by sorry
theorem d_Tree_insert_29 : decode b_Tree_insert 29 = .ok (.iastore, 1) := by sorry
theorem d_Tree_insert_30 : decode b_Tree_insert 30 = .ok (.goto 22, 3) := by sorry
theorem d_Tree_insert_33 : decode b_Tree_insert 33 = .ok (.aload_n 0, 1) := by sorry
theorem d_Tree_insert_34 : decode b_Tree_insert 34 = .ok (.getfield 28, 3) := by sorry
theorem d_Tree_insert_37 : decode b_Tree_insert 37 = .ok (.iload_n 3, 1) := by sorry
theorem d_Tree_insert_38 : decode b_Tree_insert 38 = .ok (.aload_n 0, 1) := by sorry
theorem d_Tree_insert_39 : decode b_Tree_insert 39 = .ok (.getfield 28, 3) := by sorry
theorem d_Tree_insert_42 : decode b_Tree_insert 42 = .ok (.iload_n 2, 1) := by sorry
theorem d_Tree_insert_43 : decode b_Tree_insert 43 = .ok (.iaload, 1) := by sorry
theorem d_Tree_insert_44 : decode b_Tree_insert 44 = .ok (.iastore, 1) := by sorry
theorem d_Tree_insert_45 : decode b_Tree_insert 45 = .ok (.aload_n 0, 1) := by sorry
theorem d_Tree_insert_46 : decode b_Tree_insert 46 = .ok (.getfield 28, 3) := by sorry
theorem d_Tree_insert_49 : decode b_Tree_insert 49 = .ok (.iload_n 2, 1) := by sorry
theorem d_Tree_insert_50 : decode b_Tree_insert 50 = .ok (.iload_n 3, 1) := by sorry
theorem d_Tree_insert_51 : decode b_Tree_insert 51 = .ok (.iastore, 1) := by sorry
theorem d_Tree_insert_52 : decode b_Tree_insert 52 = .ok (.return_, 1) := by sorry
set_option maxHeartbeats 4000000 in
set_option maxRecDepth 100000 in
/-- Tree.insert -/
theorem c_Tree_insertF (l : Launch) (dC : Nat → ClassId) (dI : Nat → Nat → Nat) (t : Nat) (sz : Heap) (w : Nat → Value) (cI : ClassId) (a4 a5 a8 N nd kid : Nat) (kd nx pr : Nat → Int32) (hnd : nd < N) (hkid : kid < N) (hN : N ≤ 10000000) (h4 : w 4 = .ref a4) (h5 : w 5 = .ref a5) (h8 : w 8 = .ref a8) : Met l y_Tree_insert (k_Tree_insert :: gtbl) ({ frames := 0, cells := 0, slots := 0, locals := 0 }) (va_Pc [.ref t, .int (nI nd), .int (-1), .int (nI kid)] (mp dC dI [(t, .inr (12, MF 13 w)), (a4, .inl (cI, N, .inl kd)), (a5, .inl (cI, N, .inl nx)), (a8, .inl (cI, N, .inl pr))] [(cI, .int)] sz)) (va_Qv (fun (_ : Unit) => True) (fun _ => mz dC dI [(t, .inr (12, MF 13 w)), (a4, .inl (cI, N, .inl (upd kd nd (nI kid)))), (a5, .inl (cI, N, .inl (upd nx kid (kd nd)))), (a8, .inl (cI, N, .inl (upd pr kid (nI nd))))] [(cI, .int)] (va_A [(t, .inr (12, MF 13 w)), (a4, .inl (cI, N, .inl kd)), (a5, .inl (cI, N, .inl nx)), (a8, .inl (cI, N, .inl pr))] sz.size)) (va_A [(t, .inr (12, MF 13 w)), (a4, .inl (cI, N, .inl kd)), (a5, .inl (cI, N, .inl nx)), (a8, .inl (cI, N, .inl pr))] sz.size)) 0 0 (va_A [(t, .inr (12, MF 13 w)), (a4, .inl (cI, N, .inl kd)), (a5, .inl (cI, N, .inl nx)), (a8, .inl (cI, N, .inl pr))] sz.size) := by sorry
set_option maxHeartbeats 4000000 in
set_option maxRecDepth 100000 in
/-- Tree.insert -/
theorem c_Tree_insertB (l : Launch) (dC : Nat → ClassId) (dI : Nat → Nat → Nat) (t : Nat) (sz : Heap) (w : Nat → Value) (cI : ClassId) (a4 a5 a8 N nd kid b : Nat) (kd nx pr : Nat → Int32) (hnd : nd < N) (hkid : kid < N) (hb_ : b < N) (hN : N ≤ 10000000) (h4 : w 4 = .ref a4) (h5 : w 5 = .ref a5) (h8 : w 8 = .ref a8) : Met l y_Tree_insert (k_Tree_insert :: gtbl) ({ frames := 0, cells := 0, slots := 0, locals := 0 }) (va_Pc [.ref t, .int (nI nd), .int (nI b), .int (nI kid)] (mp dC dI [(t, .inr (12, MF 13 w)), (a4, .inl (cI, N, .inl kd)), (a5, .inl (cI, N, .inl nx)), (a8, .inl (cI, N, .inl pr))] [(cI, .int)] sz)) (va_Qv (fun (_ : Unit) => True) (fun _ => mz dC dI [(t, .inr (12, MF 13 w)), (a4, .inl (cI, N, .inl kd)), (a5, .inl (cI, N, .inl (upd (upd nx kid (nx b)) b (nI kid)))), (a8, .inl (cI, N, .inl (upd pr kid (nI nd))))] [(cI, .int)] (va_A [(t, .inr (12, MF 13 w)), (a4, .inl (cI, N, .inl kd)), (a5, .inl (cI, N, .inl nx)), (a8, .inl (cI, N, .inl pr))] sz.size)) (va_A [(t, .inr (12, MF 13 w)), (a4, .inl (cI, N, .inl kd)), (a5, .inl (cI, N, .inl nx)), (a8, .inl (cI, N, .inl pr))] sz.size)) 0 0 (va_A [(t, .inr (12, MF 13 w)), (a4, .inl (cI, N, .inl kd)), (a5, .inl (cI, N, .inl nx)), (a8, .inl (cI, N, .inl pr))] sz.size) := by sorry
abbrev b_Tree_unit : ByteArray := prog_15_method_5_code
def y_Tree_unit : MethodName := ⟨"QueryBenchModel$Tree", "unit", "(I)V"⟩
abbrev k_Tree_unit : Cond := .code y_Tree_unit b_Tree_unit 4 none
theorem i_Tree_unit : k_Tree_unit ∈ gtbl := by sorry
theorem d_Tree_unit_0 : decode b_Tree_unit 0 = .ok (.aload_n 0, 1) := by sorry
theorem d_Tree_unit_1 : decode b_Tree_unit 1 = .ok (.getfield 51, 3) := by sorry
theorem d_Tree_unit_4 : decode b_Tree_unit 4 = .ok (.aload_n 0, 1) := by sorry
theorem d_Tree_unit_5 : decode b_Tree_unit 5 = .ok (.getfield 43, 3) := by sorry
theorem d_Tree_unit_8 : decode b_Tree_unit 8 = .ok (.arraylength, 1) := by sorry
theorem d_Tree_unit_9 : decode b_Tree_unit 9 = .ok (.if_icmp .ne 42, 3) := by sorry
theorem d_Tree_unit_12 : decode b_Tree_unit 12 = .ok (.iconst 2, 1) := by sorry
theorem d_Tree_unit_13 : decode b_Tree_unit 13 = .ok (.aload_n 0, 1) := by sorry
theorem d_Tree_unit_14 : decode b_Tree_unit 14 = .ok (.getfield 51, 3) := by sorry
theorem d_Tree_unit_17 : decode b_Tree_unit 17 = .ok (.imul, 1) := by sorry
theorem d_Tree_unit_18 : decode b_Tree_unit 18 = .ok (.newarray .char, 2) := by sorry
theorem d_Tree_unit_20 : decode b_Tree_unit 20 = .ok (.astore_n 2, 1) := by sorry
theorem d_Tree_unit_21 : decode b_Tree_unit 21 = .ok (.iconst 0, 1) := by sorry
theorem d_Tree_unit_22 : decode b_Tree_unit 22 = .ok (.istore_n 3, 1) := by sorry
theorem d_Tree_unit_23 : decode b_Tree_unit 23 = .ok (.iload_n 3, 1) := by sorry
theorem d_Tree_unit_24 : decode b_Tree_unit 24 = .ok (.aload_n 0, 1) := by sorry
theorem d_Tree_unit_25 : decode b_Tree_unit 25 = .ok (.getfield 51, 3) := by sorry
theorem d_Tree_unit_28 : decode b_Tree_unit 28 = .ok (.if_icmp .ge 18, 3) := by sorry
theorem d_Tree_unit_31 : decode b_Tree_unit 31 = .ok (.aload_n 2, 1) := by sorry
theorem d_Tree_unit_32 : decode b_Tree_unit 32 = .ok (.iload_n 3, 1) := by sorry
theorem d_Tree_unit_33 : decode b_Tree_unit 33 = .ok (.aload_n 0, 1) := by sorry
theorem d_Tree_unit_34 : decode b_Tree_unit 34 = .ok (.getfield 43, 3) := by sorry
theorem d_Tree_unit_37 : decode b_Tree_unit 37 = .ok (.iload_n 3, 1) := by sorry
theorem d_Tree_unit_38 : decode b_Tree_unit 38 = .ok (.caload, 1) := by sorry
theorem d_Tree_unit_39 : decode b_Tree_unit 39 = .ok (.castore, 1) := by sorry
theorem d_Tree_unit_40 : decode b_Tree_unit 40 = .ok (.iinc 3 1, 3) := by sorry
theorem d_Tree_unit_43 : decode b_Tree_unit 43 = .ok (.goto (-20), 3) := by sorry
theorem d_Tree_unit_46 : decode b_Tree_unit 46 = .ok (.aload_n 0, 1) := by sorry
theorem d_Tree_unit_47 : decode b_Tree_unit 47 = .ok (.aload_n 2, 1) := by sorry
theorem d_Tree_unit_48 : decode b_Tree_unit 48 = .ok (.putfield 43, 3) := by sorry
theorem d_Tree_unit_51 : decode b_Tree_unit 51 = .ok (.aload_n 0, 1) := by sorry
theorem d_Tree_unit_52 : decode b_Tree_unit 52 = .ok (.getfield 43, 3) := by sorry
theorem d_Tree_unit_55 : decode b_Tree_unit 55 = .ok (.aload_n 0, 1) := by sorry
theorem d_Tree_unit_56 : decode b_Tree_unit 56 = .ok (.getfield 51, 3) := by sorry
theorem d_Tree_unit_59 : decode b_Tree_unit 59 = .ok (.iload_n 1, 1) := by sorry
theorem d_Tree_unit_60 : decode b_Tree_unit 60 = .ok (.i2c, 1) := by sorry
theorem d_Tree_unit_61 : decode b_Tree_unit 61 = .ok (.castore, 1) := by sorry
theorem d_Tree_unit_62 : decode b_Tree_unit 62 = .ok (.aload_n 0, 1) := by sorry
theorem d_Tree_unit_63 : decode b_Tree_unit 63 = .ok (.dup, 1) := by sorry
theorem d_Tree_unit_64 : decode b_Tree_unit 64 = .ok (.getfield 51, 3) := by sorry
theorem d_Tree_unit_67 : decode b_Tree_unit 67 = .ok (.iconst 1, 1) := by sorry
theorem d_Tree_unit_68 : decode b_Tree_unit 68 = .ok (.iadd, 1) := by sorry
theorem d_Tree_unit_69 : decode b_Tree_unit 69 = .ok (.putfield 51, 3) := by sorry
theorem d_Tree_unit_72 : decode b_Tree_unit 72 = .ok (.return_, 1) := by sorry
set_option maxHeartbeats 4000000 in
set_option maxRecDepth 100000 in
/-- Tree.unit -/
theorem c_Tree_unit (l : Launch) (dC : Nat → ClassId) (dI : Nat → Nat → Nat) (t : Nat) (sz : Heap) (w : Nat → Value) (cC : ClassId) (au U k : Nat) (g : Nat → Int32) (x : Int32) (hk0 : k ≤ U) (hU0 : 0 < U) (hU : U ≤ 10000000) (hg : chOK g) (h11 : w 11 = .ref au) (h12 : w 12 = .int (nI k)) : Met l y_Tree_unit (k_Tree_unit :: gtbl) ({ frames := 0, cells := grC U k, slots := grS U k, locals := 0 }) (va_Pc [.ref t, .int x] (mp dC dI [(t, .inr (12, MF 13 w)), (au, .inl (cC, U, .inl g))] [(cC, .char)] sz)) (va_Qv (fun (u : Nat × (Nat → Value)) => u.2 11 = .ref u.1 ∧ u.2 12 = .int (nI (k + 1)) ∧ ∀ j, j ≠ 11 → j ≠ 12 → u.2 j = w j) (fun u t9 => mz dC dI [(t, .inr (12, MF 13 u.2)), (u.1, .inl (cC, grN U k, .inl (grU g U k x)))] [(cC, .char)] (va_A [(t, .inr (12, MF 13 w)), (au, .inl (cC, U, .inl g))] sz.size) t9 ∧ szk sz t9.heap (grC U k) (grS U k)) (va_A [(t, .inr (12, MF 13 w)), (au, .inl (cC, U, .inl g))] sz.size)) (grC U k) (grS U k) (va_A [(t, .inr (12, MF 13 w)), (au, .inl (cC, U, .inl g))] sz.size) := by sorry
end
section
theorem w_390 : (.static ⟨"java/lang/Math", "max", "(II)I"⟩ : Cond) ∈ gtbl := by sorry
theorem w_942 : (.static ⟨"java/lang/Math", "min", "(II)I"⟩ : Cond) ∈ gtbl := by sorry
theorem w_1278 : (.methodLink "java/lang/String" 633 ⟨"java/lang/String", "indexOf", "(II)I"⟩ : Cond) ∈ gtbl := by sorry
theorem w_1279 : (.instanceMethod ⟨"java/lang/String", "indexOf", "(II)I"⟩ : Cond) ∈ gtbl := by sorry
theorem w_1280 : (.selects "java/lang/String" ⟨"java/lang/String", "indexOf", "(II)I"⟩ ⟨"java/lang/String", "indexOf", "(II)I"⟩ : Cond) ∈ gtbl := by sorry
theorem w_1282 : (.methodLink "java/lang/String" 505 ⟨"java/lang/String", "length", "()I"⟩ : Cond) ∈ gtbl := by sorry
theorem w_1283 : (.methodLink "java/lang/String" 637 ⟨"java/lang/StringLatin1", "indexOf", "([BIII)I"⟩ : Cond) ∈ gtbl := by sorry
theorem w_1284 : (.static ⟨"java/lang/StringLatin1", "indexOf", "([BIII)I"⟩ : Cond) ∈ gtbl := by sorry
theorem w_1286 : (.methodLink "java/lang/StringLatin1" 88 ⟨"java/lang/StringLatin1", "canEncode", "(I)Z"⟩ : Cond) ∈ gtbl := by sorry
theorem w_1287 : (.static ⟨"java/lang/StringLatin1", "canEncode", "(I)Z"⟩ : Cond) ∈ gtbl := by sorry
theorem w_1289 : (.methodLink "java/lang/StringLatin1" 92 ⟨"java/lang/Math", "max", "(II)I"⟩ : Cond) ∈ gtbl := by sorry
theorem w_1290 : (.methodLink "java/lang/StringLatin1" 38 ⟨"java/lang/Math", "min", "(II)I"⟩ : Cond) ∈ gtbl := by sorry
theorem w_1291 : (.methodLink "java/lang/StringLatin1" 95 ⟨"java/lang/StringLatin1", "indexOfChar", "([BIII)I"⟩ : Cond) ∈ gtbl := by sorry
theorem w_1292 : (.static ⟨"java/lang/StringLatin1", "indexOfChar", "([BIII)I"⟩ : Cond) ∈ gtbl := by sorry
theorem marr2_blind {av len : Nat} {b : Nat → Int32} {dC : Nat → ClassId} {dI : Nat → Nat → Nat} {ws : va_W} {tys : List (ClassId × FieldType)} {sz : Heap} {vs : List Value} : FrameBlind (va_Pc vs (marr av len b dC dI ws tys sz)) := by sorry
theorem w_maxi : Cond.code Lib.Math.max.name Lib.Math.max.code 2 (some .int) ∈ gtbl := by sorry
theorem w_mini : Cond.code Lib.Math.min.name Lib.Math.min.code 2 (some .int) ∈ gtbl := by sorry
/-- the first of k places from j on that holds c -/
def ixF (b : Nat → Int32) (c : Int32) : Nat → Nat → Int32
  | 0, _ => -1
  | k + 1, j => if b j = c then nI j else ixF b c k (j + 1)
def ixS (b : Nat → Int32) (len : Nat) (ch : Int32) : Int32 := if ¬ ch < 0 ∧ ¬ 255 < ch then ixF b ch.toInt8.toInt32 len 0 else -1
abbrev b_Lat_canEncode : ByteArray := prog_24_method_4_code
def y_Lat_canEncode : MethodName := ⟨"java/lang/StringLatin1", "canEncode", "(I)Z"⟩
abbrev k_Lat_canEncode : Cond := .code y_Lat_canEncode b_Lat_canEncode 1 (some .boolean)
theorem i_Lat_canEncode : k_Lat_canEncode ∈ gtbl := by sorry
theorem d_Lat_canEncode_0 : decode b_Lat_canEncode 0 = .ok (.iload_n 0, 1) := by sorry
theorem d_Lat_canEncode_1 : decode b_Lat_canEncode 1 = .ok (.ifCond .lt 14, 3) := by sorry
theorem d_Lat_canEncode_4 : decode b_Lat_canEncode 4 = .ok (.iload_n 0, 1) := by sorry
theorem d_Lat_canEncode_5 : decode b_Lat_canEncode 5 = .ok (.sipush 255, 3) := by sorry
theorem d_Lat_canEncode_8 : decode b_Lat_canEncode 8 = .ok (.if_icmp .gt 7, 3) := by sorry
theorem d_Lat_canEncode_11 : decode b_Lat_canEncode 11 = .ok (.iconst 1, 1) := by sorry
theorem d_Lat_canEncode_12 : decode b_Lat_canEncode 12 = .ok (.goto 4, 3) := by sorry
theorem d_Lat_canEncode_15 : decode b_Lat_canEncode 15 = .ok (.iconst 0, 1) := by sorry
theorem d_Lat_canEncode_16 : decode b_Lat_canEncode 16 = .ok (.ireturn, 1) := by sorry
set_option maxHeartbeats 4000000 in
set_option maxRecDepth 100000 in
/-- StringLatin1.canEncode -/
theorem c_Lat_canEncode (l : Launch) (dC : Nat → ClassId) (dI : Nat → Nat → Nat) (sz : Heap) (ch : Int32) : Met l y_Lat_canEncode (k_Lat_canEncode :: gtbl) ({ frames := 0, cells := 0, slots := 0, locals := 0 }) (va_Pc [.int ch] (mp dC dI [] [] sz)) (va_Qi (fun (r : Int32) (_ : Unit) => r = if ¬ ch < 0 ∧ ¬ 255 < ch then 1 else 0) (fun _ => mz dC dI [] [] (va_A [] sz.size)) (va_A [] sz.size)) 0 0 (va_A [] sz.size) := by sorry
abbrev b_Lat_indexOfChar : ByteArray := prog_24_method_23_code
def y_Lat_indexOfChar : MethodName := ⟨"java/lang/StringLatin1", "indexOfChar", "([BIII)I"⟩
abbrev k_Lat_indexOfChar : Cond := .code y_Lat_indexOfChar b_Lat_indexOfChar 6 (some .int)
theorem i_Lat_indexOfChar : k_Lat_indexOfChar ∈ gtbl := by sorry
theorem d_Lat_indexOfChar_0 : decode b_Lat_indexOfChar 0 = .ok (.iload_n 1, 1) := by sorry
theorem d_Lat_indexOfChar_1 : decode b_Lat_indexOfChar 1 = .ok (.i2b, 1) := by sorry
theorem d_Lat_indexOfChar_2 : decode b_Lat_indexOfChar 2 = .ok (.istore 4, 2) := by sorry
theorem d_Lat_indexOfChar_4 : decode b_Lat_indexOfChar 4 = .ok (.iload_n 2, 1) := by sorry
theorem d_Lat_indexOfChar_5 : decode b_Lat_indexOfChar 5 = .ok (.istore 5, 2) := by sorry
theorem d_Lat_indexOfChar_7 : decode b_Lat_indexOfChar 7 = .ok (.iload 5, 2) := by sorry
theorem d_Lat_indexOfChar_9 : decode b_Lat_indexOfChar 9 = .ok (.iload_n 3, 1) := by sorry
theorem d_Lat_indexOfChar_10 : decode b_Lat_indexOfChar 10 = .ok (.if_icmp .ge 21, 3) := by sorry
theorem d_Lat_indexOfChar_13 : decode b_Lat_indexOfChar 13 = .ok (.aload_n 0, 1) := by sorry
theorem d_Lat_indexOfChar_14 : decode b_Lat_indexOfChar 14 = .ok (.iload 5, 2) := by sorry
theorem d_Lat_indexOfChar_16 : decode b_Lat_indexOfChar 16 = .ok (.baload, 1) := by sorry
theorem d_Lat_indexOfChar_17 : decode b_Lat_indexOfChar 17 = .ok (.iload 4, 2) := by sorry
theorem d_Lat_indexOfChar_19 : decode b_Lat_indexOfChar 19 = .ok (.if_icmp .ne 6, 3) := by sorry
theorem d_Lat_indexOfChar_22 : decode b_Lat_indexOfChar 22 = .ok (.iload 5, 2) := by sorry
theorem d_Lat_indexOfChar_24 : decode b_Lat_indexOfChar 24 = .ok (.ireturn, 1) := by sorry
theorem d_Lat_indexOfChar_25 : decode b_Lat_indexOfChar 25 = .ok (.iinc 5 1, 3) := by sorry
theorem d_Lat_indexOfChar_28 : decode b_Lat_indexOfChar 28 = .ok (.goto (-21), 3) := by sorry
theorem d_Lat_indexOfChar_31 : decode b_Lat_indexOfChar 31 = .ok (.iconst (-1), 1) := by sorry
theorem d_Lat_indexOfChar_32 : decode b_Lat_indexOfChar 32 = .ok (.ireturn, 1) := by sorry
set_option maxHeartbeats 4000000 in
set_option maxRecDepth 100000 in
/-- StringLatin1.indexOfChar -/
theorem c_Lat_indexOfChar (l : Launch) (dC : Nat → ClassId) (dI : Nat → Nat → Nat) (sz : Heap) (av len : Nat) (b : Nat → Int32) (ch : Int32) (hlen : len ≤ 1000000) : Met l y_Lat_indexOfChar (k_Lat_indexOfChar :: gtbl) ({ frames := 0, cells := 0, slots := 0, locals := 0 }) (va_Pc [.ref av, .int ch, .int 0, .int (nI len)] (marr av len b dC dI [] [] sz)) (va_Qi (fun (r : Int32) (_ : Unit) => r = ixF b ch.toInt8.toInt32 len 0) (fun _ => mz dC dI [] [] (va_A [] sz.size)) (va_A [] sz.size)) 0 0 (va_A [] sz.size) := by sorry
abbrev b_Lat_indexOf : ByteArray := prog_24_method_22_code
def y_Lat_indexOf : MethodName := ⟨"java/lang/StringLatin1", "indexOf", "([BIII)I"⟩
abbrev k_Lat_indexOf : Cond := .code y_Lat_indexOf b_Lat_indexOf 4 (some .int)
theorem i_Lat_indexOf : k_Lat_indexOf ∈ gtbl := by sorry
theorem d_Lat_indexOf_0 : decode b_Lat_indexOf 0 = .ok (.iload_n 1, 1) := by sorry
theorem d_Lat_indexOf_1 : decode b_Lat_indexOf 1 = .ok (.invokestatic 88, 3) := by sorry
theorem d_Lat_indexOf_4 : decode b_Lat_indexOf 4 = .ok (.ifCond .ne 5, 3) := by sorry
theorem d_Lat_indexOf_7 : decode b_Lat_indexOf 7 = .ok (.iconst (-1), 1) := by sorry
theorem d_Lat_indexOf_8 : decode b_Lat_indexOf 8 = .ok (.ireturn, 1) := by sorry
theorem d_Lat_indexOf_9 : decode b_Lat_indexOf 9 = .ok (.iload_n 2, 1) := by sorry
theorem d_Lat_indexOf_10 : decode b_Lat_indexOf 10 = .ok (.iconst 0, 1) := by sorry
theorem d_Lat_indexOf_11 : decode b_Lat_indexOf 11 = .ok (.invokestatic 92, 3) := by sorry
theorem d_Lat_indexOf_14 : decode b_Lat_indexOf 14 = .ok (.istore_n 2, 1) := by sorry
theorem d_Lat_indexOf_15 : decode b_Lat_indexOf 15 = .ok (.iload_n 3, 1) := by sorry
theorem d_Lat_indexOf_16 : decode b_Lat_indexOf 16 = .ok (.aload_n 0, 1) := by sorry
theorem d_Lat_indexOf_17 : decode b_Lat_indexOf 17 = .ok (.arraylength, 1) := by sorry
theorem d_Lat_indexOf_18 : decode b_Lat_indexOf 18 = .ok (.invokestatic 38, 3) := by sorry
theorem d_Lat_indexOf_21 : decode b_Lat_indexOf 21 = .ok (.istore_n 3, 1) := by sorry
theorem d_Lat_indexOf_22 : decode b_Lat_indexOf 22 = .ok (.iload_n 2, 1) := by sorry
theorem d_Lat_indexOf_23 : decode b_Lat_indexOf 23 = .ok (.iload_n 3, 1) := by sorry
theorem d_Lat_indexOf_24 : decode b_Lat_indexOf 24 = .ok (.if_icmp .lt 5, 3) := by sorry
theorem d_Lat_indexOf_27 : decode b_Lat_indexOf 27 = .ok (.iconst (-1), 1) := by sorry
theorem d_Lat_indexOf_28 : decode b_Lat_indexOf 28 = .ok (.ireturn, 1) := by sorry
theorem d_Lat_indexOf_29 : decode b_Lat_indexOf 29 = .ok (.aload_n 0, 1) := by sorry
theorem d_Lat_indexOf_30 : decode b_Lat_indexOf 30 = .ok (.iload_n 1, 1) := by sorry
theorem d_Lat_indexOf_31 : decode b_Lat_indexOf 31 = .ok (.iload_n 2, 1) := by sorry
theorem d_Lat_indexOf_32 : decode b_Lat_indexOf 32 = .ok (.iload_n 3, 1) := by sorry
theorem d_Lat_indexOf_33 : decode b_Lat_indexOf 33 = .ok (.invokestatic 95, 3) := by sorry
theorem d_Lat_indexOf_36 : decode b_Lat_indexOf 36 = .ok (.ireturn, 1) := by sorry
set_option maxHeartbeats 4000000 in
set_option maxRecDepth 100000 in
/-- StringLatin1.indexOf -/
theorem c_Lat_indexOf (l : Launch) (dC : Nat → ClassId) (dI : Nat → Nat → Nat) (sz : Heap) (av len : Nat) (b : Nat → Int32) (ch : Int32) (hlen : len ≤ 1000000) : Met l y_Lat_indexOf (k_Lat_indexOf :: gtbl) ({ frames := 1, cells := 0, slots := 0, locals := 40 }) (va_Pc [.ref av, .int ch, .int 0, .int (nI len)] (marr av len b dC dI [] [] sz)) (va_Qi (fun (r : Int32) (_ : Unit) => r = ixS b len ch) (fun _ => mz dC dI [] [] (va_A [] sz.size)) (va_A [] sz.size)) 0 0 (va_A [] sz.size) := by sorry
abbrev b_Str_indexOf2 : ByteArray := prog_23_method_80_code
def y_Str_indexOf2 : MethodName := ⟨"java/lang/String", "indexOf", "(II)I"⟩
abbrev k_Str_indexOf2 : Cond := .code y_Str_indexOf2 b_Str_indexOf2 3 (some .int)
theorem i_Str_indexOf2 : k_Str_indexOf2 ∈ gtbl := by sorry
theorem d_Str_indexOf2_0 : decode b_Str_indexOf2 0 = .ok (.aload_n 0, 1) := by sorry
theorem d_Str_indexOf2_1 : decode b_Str_indexOf2 1 = .ok (.invokevirtual 492, 3) := by sorry
theorem d_Str_indexOf2_4 : decode b_Str_indexOf2 4 = .ok (.ifCond .eq 19, 3) := by sorry
theorem d_Str_indexOf2_7 : decode b_Str_indexOf2 7 = .ok (.aload_n 0, 1) := by sorry
theorem d_Str_indexOf2_8 : decode b_Str_indexOf2 8 = .ok (.getfield 9, 3) := by sorry
theorem d_Str_indexOf2_11 : decode b_Str_indexOf2 11 = .ok (.iload_n 1, 1) := by sorry
theorem d_Str_indexOf2_12 : decode b_Str_indexOf2 12 = .ok (.iload_n 2, 1) := by sorry
theorem d_Str_indexOf2_13 : decode b_Str_indexOf2 13 = .ok (.aload_n 0, 1) := by sorry
theorem d_Str_indexOf2_14 : decode b_Str_indexOf2 14 = .ok (.invokevirtual 505, 3) := by sorry
theorem d_Str_indexOf2_17 : decode b_Str_indexOf2 17 = .ok (.invokestatic 637, 3) := by sorry
theorem d_Str_indexOf2_20 : decode b_Str_indexOf2 20 = .ok (.goto 16, 3) := by sorry
theorem d_Str_indexOf2_36 : decode b_Str_indexOf2 36 = .ok (.ireturn, 1) := by sorry
set_option maxHeartbeats 4000000 in
set_option maxRecDepth 100000 in
/-- String.indexOf(c, 0) -/
theorem c_Str_indexOf2 (l : Launch) (dC : Nat → ClassId) (dI : Nat → Nat → Nat) (sz : Heap) (sa av len : Nat) (b : Nat → Int32) (ch : Int32) (hlen : len ≤ 1000000) : Met l y_Str_indexOf2 (k_Str_indexOf2 :: gtbl) ({ frames := 2, cells := 0, slots := 0, locals := 64 }) (va_Pc [.ref sa, .int ch, .int 0] (mstr sa av len b dC dI [] [] sz)) (va_Qi (fun (r : Int32) (_ : Unit) => r = ixS b len ch) (fun _ => mz dC dI [] [] (va_A [] sz.size)) (va_A [] sz.size)) 0 0 (va_A [] sz.size) := by sorry
abbrev b_Str_indexOf : ByteArray := prog_23_method_79_code
def y_Str_indexOf : MethodName := ⟨"java/lang/String", "indexOf", "(I)I"⟩
abbrev k_Str_indexOf : Cond := .code y_Str_indexOf b_Str_indexOf 2 (some .int)
theorem i_Str_indexOf : k_Str_indexOf ∈ gtbl := by sorry
theorem d_Str_indexOf_0 : decode b_Str_indexOf 0 = .ok (.aload_n 0, 1) := by sorry
theorem d_Str_indexOf_1 : decode b_Str_indexOf 1 = .ok (.iload_n 1, 1) := by sorry
theorem d_Str_indexOf_2 : decode b_Str_indexOf 2 = .ok (.iconst 0, 1) := by sorry
theorem d_Str_indexOf_3 : decode b_Str_indexOf 3 = .ok (.invokevirtual 633, 3) := by sorry
theorem d_Str_indexOf_6 : decode b_Str_indexOf 6 = .ok (.ireturn, 1) := by sorry
set_option maxHeartbeats 4000000 in
set_option maxRecDepth 100000 in
/-- String.indexOf(c) -/
theorem c_Str_indexOf (l : Launch) (dC : Nat → ClassId) (dI : Nat → Nat → Nat) (sz : Heap) (sa av len : Nat) (b : Nat → Int32) (ch : Int32) (hlen : len ≤ 1000000) : Met l y_Str_indexOf (k_Str_indexOf :: gtbl) ({ frames := 3, cells := 0, slots := 0, locals := 86 }) (va_Pc [.ref sa, .int ch] (mstr sa av len b dC dI [] [] sz)) (va_Qi (fun (r : Int32) (_ : Unit) => r = ixS b len ch) (fun _ => mz dC dI [] [] (va_A [] sz.size)) (va_A [] sz.size)) 0 0 (va_A [] sz.size) := by sorry
end
section
theorem w_1274 : (.methodLink "QueryBenchModel" 171 ⟨"java/lang/String", "indexOf", "(I)I"⟩ : Cond) ∈ gtbl := by sorry
theorem w_1275 : (.instanceMethod ⟨"java/lang/String", "indexOf", "(I)I"⟩ : Cond) ∈ gtbl := by sorry
theorem w_1276 : (.selects "java/lang/String" ⟨"java/lang/String", "indexOf", "(I)I"⟩ ⟨"java/lang/String", "indexOf", "(I)I"⟩ : Cond) ∈ gtbl := by sorry
theorem w_1329 : (.methodLink "QueryBenchModel" 174 ⟨"QueryBenchModel", "hex", "(I)I"⟩ : Cond) ∈ gtbl := by sorry
theorem w_1330 : (.static ⟨"QueryBenchModel", "hex", "(I)I"⟩ : Cond) ∈ gtbl := by sorry
/-- the text of the five letters -/
def bfB (j : Nat) : Int32 := [98, 102, 110, 114, 116].getD j 0
abbrev mbf (sa av : Nat) (dC : Nat → ClassId) (dI : Nat → Nat → Nat) (ws : va_W) (tys : List (ClassId × FieldType)) (sz : Heap) (U : State) : Prop := mp dC dI ws tys sz U ∧ SX sa av 5 bfB (va_A ws sz.size) U U.heap ∧ vk_R "QueryBenchModel" 169 "bfnrt" sa U
theorem mbf_blind {sa av : Nat} {dC : Nat → ClassId} {dI : Nat → Nat → Nat} {ws : va_W} {tys : List (ClassId × FieldType)} {sz : Heap} {vs : List Value} : FrameBlind (va_Pc vs (mbf sa av dC dI ws tys sz)) := by sorry
/-- four hexadecimal digits as the reference goes: the value (or -1), and where it stops -/
def hexM (f : Nat → Int32) (n : Nat) : Nat → Nat → Int32 → Int32 × Nat
  | 0, j, a => (a, j)
  | k + 1, j, a => if hexV (hereV f n j) < 0 then (-1, j) else hexM f n k (j + 1) (16 * a + hexV (hereV f n j))
theorem hexM_s {f : Nat → Int32} {n k j : Nat} {a d : Int32} (hd : d = hexV (hereV f n j)) (h : ¬ d < 0) : hexM f n (k + 1) j a = hexM f n k (j + 1) (16 * a + d) := by sorry
theorem hexM_f {f : Nat → Int32} {n k j : Nat} {a d : Int32} (hd : d = hexV (hereV f n j)) (h : d < 0) : hexM f n (k + 1) j a = (-1, j) := by sorry
def ixV (k : Int32) : Int32 := if k = 0 then 8 else if k = 1 then 12 else if k = 2 then 10 else if k = 3 then 13 else 9
def bfI (x : Int32) : Int32 := if x < 0 then -1 else ixS bfB 5 x
abbrev b_Mo_escaped : ByteArray := prog_14_method_20_code
def y_Mo_escaped : MethodName := ⟨"QueryBenchModel", "escaped", "(I)I"⟩
abbrev k_Mo_escaped : Cond := .code y_Mo_escaped b_Mo_escaped 8 (some .int)
theorem i_Mo_escaped : k_Mo_escaped ∈ gtbl := by sorry
theorem d_Mo_escaped_0 : decode b_Mo_escaped 0 = .ok (.aload_n 0, 1) := by sorry
theorem d_Mo_escaped_1 : decode b_Mo_escaped 1 = .ok (.getfield 135, 3) := by sorry
theorem d_Mo_escaped_4 : decode b_Mo_escaped 4 = .ok (.istore_n 2, 1) := by sorry
theorem d_Mo_escaped_5 : decode b_Mo_escaped 5 = .ok (.aload_n 0, 1) := by sorry
theorem d_Mo_escaped_6 : decode b_Mo_escaped 6 = .ok (.dup, 1) := by sorry
theorem d_Mo_escaped_7 : decode b_Mo_escaped 7 = .ok (.getfield 135, 3) := by sorry
theorem d_Mo_escaped_10 : decode b_Mo_escaped 10 = .ok (.iconst 1, 1) := by sorry
theorem d_Mo_escaped_11 : decode b_Mo_escaped 11 = .ok (.iadd, 1) := by sorry
theorem d_Mo_escaped_12 : decode b_Mo_escaped 12 = .ok (.putfield 135, 3) := by sorry
theorem d_Mo_escaped_15 : decode b_Mo_escaped 15 = .ok (.aload_n 0, 1) := by sorry
theorem d_Mo_escaped_16 : decode b_Mo_escaped 16 = .ok (.invokevirtual 147, 3) := by sorry
theorem d_Mo_escaped_19 : decode b_Mo_escaped 19 = .ok (.istore_n 3, 1) := by sorry
theorem d_Mo_escaped_20 : decode b_Mo_escaped 20 = .ok (.aload_n 0, 1) := by sorry
theorem d_Mo_escaped_21 : decode b_Mo_escaped 21 = .ok (.dup, 1) := by sorry
theorem d_Mo_escaped_22 : decode b_Mo_escaped 22 = .ok (.getfield 135, 3) := by sorry
theorem d_Mo_escaped_25 : decode b_Mo_escaped 25 = .ok (.iconst 1, 1) := by sorry
theorem d_Mo_escaped_26 : decode b_Mo_escaped 26 = .ok (.iadd, 1) := by sorry
theorem d_Mo_escaped_27 : decode b_Mo_escaped 27 = .ok (.putfield 135, 3) := by sorry
theorem d_Mo_escaped_30 : decode b_Mo_escaped 30 = .ok (.iload_n 3, 1) := by sorry
theorem d_Mo_escaped_31 : decode b_Mo_escaped 31 = .ok (.iload_n 1, 1) := by sorry
theorem d_Mo_escaped_32 : decode b_Mo_escaped 32 = .ok (.if_icmp .eq 15, 3) := by sorry
theorem d_Mo_escaped_35 : decode b_Mo_escaped 35 = .ok (.iload_n 3, 1) := by sorry
theorem d_Mo_escaped_36 : decode b_Mo_escaped 36 = .ok (.bipush 92, 2) := by sorry
theorem d_Mo_escaped_38 : decode b_Mo_escaped 38 = .ok (.if_icmp .eq 9, 3) := by sorry
theorem d_Mo_escaped_41 : decode b_Mo_escaped 41 = .ok (.iload_n 3, 1) := by sorry
theorem d_Mo_escaped_42 : decode b_Mo_escaped 42 = .ok (.bipush 47, 2) := by sorry
theorem d_Mo_escaped_44 : decode b_Mo_escaped 44 = .ok (.if_icmp .ne 5, 3) := by sorry
theorem d_Mo_escaped_47 : decode b_Mo_escaped 47 = .ok (.iload_n 3, 1) := by sorry
theorem d_Mo_escaped_48 : decode b_Mo_escaped 48 = .ok (.ireturn, 1) := by sorry
theorem d_Mo_escaped_49 : decode b_Mo_escaped 49 = .ok (.iload_n 3, 1) := by sorry
theorem d_Mo_escaped_50 : decode b_Mo_escaped 50 = .ok (.ifCond .ge 7, 3) := by sorry
theorem d_Mo_escaped_53 : decode b_Mo_escaped 53 = .ok (.iconst (-1), 1) := by sorry
theorem d_Mo_escaped_54 : decode b_Mo_escaped 54 = .ok (.goto 9, 3) := by sorry
theorem d_Mo_escaped_57 : decode b_Mo_escaped 57 = .ok (.ldc 169, 2) := by sorry
theorem d_Mo_escaped_59 : decode b_Mo_escaped 59 = .ok (.iload_n 3, 1) := by sorry
theorem d_Mo_escaped_60 : decode b_Mo_escaped 60 = .ok (.invokevirtual 171, 3) := by sorry
theorem d_Mo_escaped_63 : decode b_Mo_escaped 63 = .ok (.istore 4, 2) := by sorry
theorem d_Mo_escaped_65 : decode b_Mo_escaped 65 = .ok (.iload 4, 2) := by sorry
theorem d_Mo_escaped_67 : decode b_Mo_escaped 67 = .ok (.ifCond .lt 49, 3) := by sorry
theorem d_Mo_escaped_70 : decode b_Mo_escaped 70 = .ok (.iload 4, 2) := by sorry
theorem d_Mo_escaped_72 : decode b_Mo_escaped 72 = .ok (.ifCond .ne 8, 3) := by sorry
theorem d_Mo_escaped_75 : decode b_Mo_escaped 75 = .ok (.bipush 8, 2) := by sorry
theorem d_Mo_escaped_77 : decode b_Mo_escaped 77 = .ok (.goto 38, 3) := by sorry
theorem d_Mo_escaped_80 : decode b_Mo_escaped 80 = .ok (.iload 4, 2) := by sorry
theorem d_Mo_escaped_82 : decode b_Mo_escaped 82 = .ok (.iconst 1, 1) := by sorry
theorem d_Mo_escaped_83 : decode b_Mo_escaped 83 = .ok (.if_icmp .ne 8, 3) := by sorry
theorem d_Mo_escaped_86 : decode b_Mo_escaped 86 = .ok (.bipush 12, 2) := by sorry
theorem d_Mo_escaped_88 : decode b_Mo_escaped 88 = .ok (.goto 27, 3) := by sorry
theorem d_Mo_escaped_91 : decode b_Mo_escaped 91 = .ok (.iload 4, 2) := by sorry
theorem d_Mo_escaped_93 : decode b_Mo_escaped 93 = .ok (.iconst 2, 1) := by sorry
theorem d_Mo_escaped_94 : decode b_Mo_escaped 94 = .ok (.if_icmp .ne 8, 3) := by sorry
theorem d_Mo_escaped_97 : decode b_Mo_escaped 97 = .ok (.bipush 10, 2) := by sorry
theorem d_Mo_escaped_99 : decode b_Mo_escaped 99 = .ok (.goto 16, 3) := by sorry
theorem d_Mo_escaped_102 : decode b_Mo_escaped 102 = .ok (.iload 4, 2) := by sorry
theorem d_Mo_escaped_104 : decode b_Mo_escaped 104 = .ok (.iconst 3, 1) := by sorry
theorem d_Mo_escaped_105 : decode b_Mo_escaped 105 = .ok (.if_icmp .ne 8, 3) := by sorry
theorem d_Mo_escaped_108 : decode b_Mo_escaped 108 = .ok (.bipush 13, 2) := by sorry
theorem d_Mo_escaped_110 : decode b_Mo_escaped 110 = .ok (.goto 5, 3) := by sorry
theorem d_Mo_escaped_113 : decode b_Mo_escaped 113 = .ok (.bipush 9, 2) := by sorry
theorem d_Mo_escaped_115 : decode b_Mo_escaped 115 = .ok (.ireturn, 1) := by sorry
theorem d_Mo_escaped_116 : decode b_Mo_escaped 116 = .ok (.iload_n 3, 1) := by sorry
theorem d_Mo_escaped_117 : decode b_Mo_escaped 117 = .ok (.bipush 117, 2) := by sorry
theorem d_Mo_escaped_119 : decode b_Mo_escaped 119 = .ok (.if_icmp .ne 84, 3) := by sorry
theorem d_Mo_escaped_122 : decode b_Mo_escaped 122 = .ok (.iconst 0, 1) := by sorry
theorem d_Mo_escaped_123 : decode b_Mo_escaped 123 = .ok (.istore 5, 2) := by sorry
theorem d_Mo_escaped_125 : decode b_Mo_escaped 125 = .ok (.iconst 0, 1) := by sorry
theorem d_Mo_escaped_126 : decode b_Mo_escaped 126 = .ok (.istore 6, 2) := by sorry
theorem d_Mo_escaped_128 : decode b_Mo_escaped 128 = .ok (.iload 6, 2) := by sorry
theorem d_Mo_escaped_130 : decode b_Mo_escaped 130 = .ok (.iconst 4, 1) := by sorry
theorem d_Mo_escaped_131 : decode b_Mo_escaped 131 = .ok (.if_icmp .ge 69, 3) := by sorry
theorem d_Mo_escaped_134 : decode b_Mo_escaped 134 = .ok (.aload_n 0, 1) := by sorry
theorem d_Mo_escaped_135 : decode b_Mo_escaped 135 = .ok (.invokevirtual 147, 3) := by sorry
theorem d_Mo_escaped_138 : decode b_Mo_escaped 138 = .ok (.invokestatic 174, 3) := by sorry
theorem d_Mo_escaped_141 : decode b_Mo_escaped 141 = .ok (.istore 7, 2) := by sorry
theorem d_Mo_escaped_143 : decode b_Mo_escaped 143 = .ok (.iload 7, 2) := by sorry
theorem d_Mo_escaped_145 : decode b_Mo_escaped 145 = .ok (.ifCond .ge 29, 3) := by sorry
theorem d_Mo_escaped_148 : decode b_Mo_escaped 148 = .ok (.aload_n 0, 1) := by sorry
theorem d_Mo_escaped_149 : decode b_Mo_escaped 149 = .ok (.aload_n 0, 1) := by sorry
theorem d_Mo_escaped_150 : decode b_Mo_escaped 150 = .ok (.getfield 135, 3) := by sorry
theorem d_Mo_escaped_153 : decode b_Mo_escaped 153 = .ok (.aload_n 0, 1) := by sorry
theorem d_Mo_escaped_154 : decode b_Mo_escaped 154 = .ok (.getfield 138, 3) := by sorry
theorem d_Mo_escaped_157 : decode b_Mo_escaped 157 = .ok (.if_icmp .lt 10, 3) := by sorry
theorem d_Mo_escaped_160 : decode b_Mo_escaped 160 = .ok (.aload_n 0, 1) := by sorry
theorem d_Mo_escaped_161 : decode b_Mo_escaped 161 = .ok (.getfield 138, 3) := by sorry
theorem d_Mo_escaped_164 : decode b_Mo_escaped 164 = .ok (.goto 4, 3) := by sorry
theorem d_Mo_escaped_167 : decode b_Mo_escaped 167 = .ok (.iload_n 2, 1) := by sorry
theorem d_Mo_escaped_168 : decode b_Mo_escaped 168 = .ok (.invokevirtual 151, 3) := by sorry
theorem d_Mo_escaped_171 : decode b_Mo_escaped 171 = .ok (.pop, 1) := by sorry
theorem d_Mo_escaped_172 : decode b_Mo_escaped 172 = .ok (.iconst (-1), 1) := by sorry
theorem d_Mo_escaped_173 : decode b_Mo_escaped 173 = .ok (.ireturn, 1) := by sorry
theorem d_Mo_escaped_174 : decode b_Mo_escaped 174 = .ok (.bipush 16, 2) := by sorry
theorem d_Mo_escaped_176 : decode b_Mo_escaped 176 = .ok (.iload 5, 2) := by sorry
theorem d_Mo_escaped_178 : decode b_Mo_escaped 178 = .ok (.imul, 1) := by sorry
theorem d_Mo_escaped_179 : decode b_Mo_escaped 179 = .ok (.iload 7, 2) := by sorry
theorem d_Mo_escaped_181 : decode b_Mo_escaped 181 = .ok (.iadd, 1) := by sorry
theorem d_Mo_escaped_182 : decode b_Mo_escaped 182 = .ok (.istore 5, 2) := by sorry
theorem d_Mo_escaped_184 : decode b_Mo_escaped 184 = .ok (.aload_n 0, 1) := by sorry
theorem d_Mo_escaped_185 : decode b_Mo_escaped 185 = .ok (.dup, 1) := by sorry
theorem d_Mo_escaped_186 : decode b_Mo_escaped 186 = .ok (.getfield 135, 3) := by sorry
theorem d_Mo_escaped_189 : decode b_Mo_escaped 189 = .ok (.iconst 1, 1) := by sorry
theorem d_Mo_escaped_190 : decode b_Mo_escaped 190 = .ok (.iadd, 1) := by sorry
theorem d_Mo_escaped_191 : decode b_Mo_escaped 191 = .ok (.putfield 135, 3) := by sorry
theorem d_Mo_escaped_194 : decode b_Mo_escaped 194 = .ok (.iinc 6 1, 3) := by sorry
theorem d_Mo_escaped_197 : decode b_Mo_escaped 197 = .ok (.goto (-69), 3) := by sorry
theorem d_Mo_escaped_200 : decode b_Mo_escaped 200 = .ok (.iload 5, 2) := by sorry
theorem d_Mo_escaped_202 : decode b_Mo_escaped 202 = .ok (.ireturn, 1) := by sorry
theorem d_Mo_escaped_203 : decode b_Mo_escaped 203 = .ok (.aload_n 0, 1) := by sorry
theorem d_Mo_escaped_204 : decode b_Mo_escaped 204 = .ok (.iload_n 3, 1) := by sorry
theorem d_Mo_escaped_205 : decode b_Mo_escaped 205 = .ok (.ifCond .ge 10, 3) := by sorry
theorem d_Mo_escaped_208 : decode b_Mo_escaped 208 = .ok (.aload_n 0, 1) := by sorry
theorem d_Mo_escaped_209 : decode b_Mo_escaped 209 = .ok (.getfield 138, 3) := by sorry
theorem d_Mo_escaped_212 : decode b_Mo_escaped 212 = .ok (.goto 4, 3) := by sorry
theorem d_Mo_escaped_215 : decode b_Mo_escaped 215 = .ok (.iload_n 2, 1) := by sorry
theorem d_Mo_escaped_216 : decode b_Mo_escaped 216 = .ok (.invokevirtual 151, 3) := by sorry
theorem d_Mo_escaped_219 : decode b_Mo_escaped 219 = .ok (.pop, 1) := by sorry
theorem d_Mo_escaped_220 : decode b_Mo_escaped 220 = .ok (.iconst (-1), 1) := by sorry
theorem d_Mo_escaped_221 : decode b_Mo_escaped 221 = .ok (.ireturn, 1) := by sorry
set_option maxHeartbeats 4000000 in
set_option maxRecDepth 100000 in
/-- the reference: escaped -/
theorem c_Mo_escaped (l : Launch) (dC : Nat → ClassId) (dI : Nat → Nat → Nat) (mo : Nat) (sz : Heap) (v : Nat → Value) (cB : ClassId) (qx NN : Nat) (f : Nat → Int32) (sa av : Nat) (n i : Nat) (hnN : n ≤ NN) (hNN : NN ≤ 1000000) (hi0 : i ≤ 800000) (h6 : v 6 = .ref qx) (h7 : v 7 = .int (nI i)) (h8 : v 8 = .int (nI n)) (br : Int32) (h9 : v 9 = .int br) (q : Int32) : Met l y_Mo_escaped (k_Mo_escaped :: gtbl) ({ frames := 4, cells := 0, slots := 0, locals := 110 }) (va_Pc [.ref mo, .int q] (mbf sa av dC dI [(mo, .inr (13, MF 30 v)), (qx, .inl (cB, NN, .inl f))] [(cB, .byte)] sz)) (va_Qi (fun (r : Int32) (u : Nat → Value) => (r = hereV f n (i + 1) ∧ (hereV f n (i + 1) = q ∨ hereV f n (i + 1) = 92 ∨ hereV f n (i + 1) = 47) ∧ u = va_up v 7 (.int (nI (i + 1 + 1)))) ∨ (¬ (hereV f n (i + 1) = q ∨ hereV f n (i + 1) = 92 ∨ hereV f n (i + 1) = 47) ∧ ¬ bfI (hereV f n (i + 1)) < 0 ∧ r = ixV (bfI (hereV f n (i + 1))) ∧ u = va_up v 7 (.int (nI (i + 1 + 1)))) ∨ (¬ (hereV f n (i + 1) = q ∨ hereV f n (i + 1) = 92 ∨ hereV f n (i + 1) = 47) ∧ bfI (hereV f n (i + 1)) < 0 ∧ hereV f n (i + 1) = 117 ∧ hexM f n 4 (i + 1 + 1) 0 = (r, i + 6) ∧ u = va_up v 7 (.int (nI (i + 6)))) ∨ (¬ (hereV f n (i + 1) = q ∨ hereV f n (i + 1) = 92 ∨ hereV f n (i + 1) = 47) ∧ bfI (hereV f n (i + 1)) < 0 ∧ hereV f n (i + 1) = 117 ∧ r = -1 ∧ ∃ j, j < i + 6 ∧ hexM f n 4 (i + 1 + 1) 0 = (-1, j) ∧ u = mfail (va_up v 7 (.int (nI j))) br (if j < n then nI i else nI n)) ∨ (¬ (hereV f n (i + 1) = q ∨ hereV f n (i + 1) = 92 ∨ hereV f n (i + 1) = 47) ∧ bfI (hereV f n (i + 1)) < 0 ∧ ¬ hereV f n (i + 1) = 117 ∧ r = -1 ∧ u = mfail (va_up v 7 (.int (nI (i + 1 + 1)))) br (if hereV f n (i + 1) < 0 then nI n else nI i))) (fun u => mz dC dI [(mo, .inr (13, MF 30 u)), (qx, .inl (cB, NN, .inl f))] [(cB, .byte)] (va_A [(mo, .inr (13, MF 30 v)), (qx, .inl (cB, NN, .inl f))] sz.size)) (va_A [(mo, .inr (13, MF 30 v)), (qx, .inl (cB, NN, .inl f))] sz.size)) 0 0 (va_A [(mo, .inr (13, MF 30 v)), (qx, .inl (cB, NN, .inl f))] sz.size) := by sorry
end
section
theorem w_1374 : (.methodLink "QueryBenchModel" 239 ⟨"QueryBenchModel", "write", "(I)V"⟩ : Cond) ∈ gtbl := by sorry
theorem w_1376 : (.instanceMethod ⟨"QueryBenchModel", "write", "(I)V"⟩ : Cond) ∈ gtbl := by sorry
/-- the reference's pen: how far it has written, and whether it went over -/
def nf (v : Nat → Value) (k : Nat) (ov : Int32) : Nat → Value := va_up (va_up v 11 (.int (nI k))) 12 (.int ov)
theorem nf_11 {v : Nat → Value} {k k2 : Nat} {ov : Int32} : va_up (nf v k ov) 11 (.int (nI k2)) = nf v k2 ov := by sorry
theorem nf_12 {v : Nat → Value} {k : Nat} {ov o2 : Int32} : va_up (nf v k ov) 12 (.int o2) = nf v k o2 := by sorry
theorem nf_ne {v : Nat → Value} {k j : Nat} {ov : Int32} (h1 : j ≠ 11) (h2 : j ≠ 12) : nf v k ov j = v j := by sorry
theorem nf_k {v : Nat → Value} {k : Nat} {ov : Int32} : nf v k ov 11 = .int (nI k) := by sorry
theorem met_post {l : Launch} {y : MethodName} {ws : List Cond} {rm : Room} {Pc : Array Value → State → Prop} {Qc Qc' : Array Value → State → Outcome → State → Prop} {mc ms : Nat} {free : Addr → Prop} (h : Met l y ws rm Pc Qc mc ms free) (hq : ∀ a st o t, Qc a st o t → Qc' a st o t) : Met l y ws rm Pc Qc' mc ms free := by sorry
/-- one more byte for the pen -/
def pen1 (s : Nat × Int32 × (Nat → Int32)) (x : Int32) : Nat × Int32 × (Nat → Int32) := if s.1 < 16384 then (s.1 + 1, s.2.1, upd s.2.2 s.1 (vp_nar .byte (x.toInt8.toInt32))) else (s.1, 1, s.2.2)
def penN (b : Nat → Int32) (s : Nat × Int32 × (Nat → Int32)) : Nat → Nat × Int32 × (Nat → Int32)
  | 0 => s
  | j + 1 => pen1 (penN b s j) (b j &&& 255)
theorem pen1_le {s : Nat × Int32 × (Nat → Int32)} {x : Int32} (h : s.1 ≤ 16384) : (pen1 s x).1 ≤ 16384 := by sorry
set_option maxHeartbeats 4000000 in
set_option maxRecDepth 100000 in
/-- the reference: write(b), in the pen's words -/
theorem c_Mo_pen (l : Launch) (dC : Nat → ClassId) (dI : Nat → Nat → Nat) (mo : Nat) (sz : Heap) (v : Nat → Value) (cB : ClassId) (qo : Nat) (s : Nat × Int32 × (Nat → Int32)) (x : Int32) (hk0 : s.1 ≤ 16384) (h10 : v 10 = .ref qo) : Met l y_Mo_write (k_Mo_write :: gtbl) ({ frames := 0, cells := 0, slots := 0, locals := 0 }) (va_Pc [.ref mo, .int x] (mp dC dI [(mo, .inr (13, MF 30 (nf v s.1 s.2.1))), (qo, .inl (cB, 16392, .inl s.2.2))] [(cB, .byte)] sz)) (va_Qv (fun (u : Nat × Int32 × (Nat → Int32)) => u = pen1 s x) (fun u => mz dC dI [(mo, .inr (13, MF 30 (nf v u.1 u.2.1))), (qo, .inl (cB, 16392, .inl u.2.2))] [(cB, .byte)] (va_A [(mo, .inr (13, MF 30 (nf v s.1 s.2.1))), (qo, .inl (cB, 16392, .inl s.2.2))] sz.size)) (va_A [(mo, .inr (13, MF 30 (nf v s.1 s.2.1))), (qo, .inl (cB, 16392, .inl s.2.2))] sz.size)) 0 0 (va_A [(mo, .inr (13, MF 30 (nf v s.1 s.2.1))), (qo, .inl (cB, 16392, .inl s.2.2))] sz.size) := by sorry
abbrev b_Mo_writeS : ByteArray := prog_14_method_28_code
def y_Mo_writeS : MethodName := ⟨"QueryBenchModel", "write", "(Ljava/lang/String;)V"⟩
abbrev k_Mo_writeS : Cond := .code y_Mo_writeS b_Mo_writeS 3 none
theorem i_Mo_writeS : k_Mo_writeS ∈ gtbl := by sorry
theorem d_Mo_writeS_0 : decode b_Mo_writeS 0 = .ok (.iconst 0, 1) := by sorry
theorem d_Mo_writeS_1 : decode b_Mo_writeS 1 = .ok (.istore_n 2, 1) := by sorry
theorem d_Mo_writeS_2 : decode b_Mo_writeS 2 = .ok (.iload_n 2, 1) := by sorry
theorem d_Mo_writeS_3 : decode b_Mo_writeS 3 = .ok (.aload_n 1, 1) := by sorry
theorem d_Mo_writeS_4 : decode b_Mo_writeS 4 = .ok (.invokevirtual 155, 3) := by sorry
theorem d_Mo_writeS_7 : decode b_Mo_writeS 7 = .ok (.if_icmp .ge 18, 3) := by sorry
theorem d_Mo_writeS_10 : decode b_Mo_writeS 10 = .ok (.aload_n 0, 1) := by sorry
theorem d_Mo_writeS_11 : decode b_Mo_writeS 11 = .ok (.aload_n 1, 1) := by sorry
theorem d_Mo_writeS_12 : decode b_Mo_writeS 12 = .ok (.iload_n 2, 1) := by sorry
theorem d_Mo_writeS_13 : decode b_Mo_writeS 13 = .ok (.invokevirtual 159, 3) := by sorry
theorem d_Mo_writeS_16 : decode b_Mo_writeS 16 = .ok (.invokevirtual 239, 3) := by sorry
theorem d_Mo_writeS_19 : decode b_Mo_writeS 19 = .ok (.iinc 2 1, 3) := by sorry
theorem d_Mo_writeS_22 : decode b_Mo_writeS 22 = .ok (.goto (-20), 3) := by sorry
theorem d_Mo_writeS_25 : decode b_Mo_writeS 25 = .ok (.return_, 1) := by sorry
set_option maxHeartbeats 4000000 in
set_option maxRecDepth 100000 in
/-- the reference: write(text) -/
theorem c_Mo_writeS (l : Launch) (dC : Nat → ClassId) (dI : Nat → Nat → Nat) (mo : Nat) (sz : Heap) (v : Nat → Value) (cB : ClassId) (qo : Nat) (s0 : Nat × Int32 × (Nat → Int32)) (sa av len : Nat) (b : Nat → Int32) (hk0 : s0.1 ≤ 16384) (hlen : len ≤ 1000) (h10 : v 10 = .ref qo) : Met l y_Mo_writeS (k_Mo_writeS :: gtbl) ({ frames := 4, cells := 0, slots := 0, locals := 85 }) (va_Pc [.ref mo, .ref sa] (mstr sa av len b dC dI [(mo, .inr (13, MF 30 (nf v s0.1 s0.2.1))), (qo, .inl (cB, 16392, .inl s0.2.2))] [(cB, .byte)] sz)) (va_Qv (fun (_ : Unit) => (penN b s0 len).1 ≤ 16384) (fun _ => mz dC dI [(mo, .inr (13, MF 30 (nf v (penN b s0 len).1 (penN b s0 len).2.1))), (qo, .inl (cB, 16392, .inl (penN b s0 len).2.2))] [(cB, .byte)] (va_A [(mo, .inr (13, MF 30 (nf v s0.1 s0.2.1))), (qo, .inl (cB, 16392, .inl s0.2.2))] sz.size)) (va_A [(mo, .inr (13, MF 30 (nf v s0.1 s0.2.1))), (qo, .inl (cB, 16392, .inl s0.2.2))] sz.size)) 0 0 (va_A [(mo, .inr (13, MF 30 (nf v s0.1 s0.2.1))), (qo, .inl (cB, 16392, .inl s0.2.2))] sz.size) := by sorry
end
section
theorem w_119 : (.fieldLink "QueryBench$Walk" 25 "QueryBench$Walk" "spent" "I" : Cond) ∈ gtbl := by sorry
theorem w_847 : (.classLink "QueryBench$Walk" 55 "java/lang/IndexOutOfBoundsException" : Cond) ∈ gtbl := by sorry
theorem w_1115 : (.fieldLink "QueryBenchModel" 342 "QueryBenchModel" "done" "I" : Cond) ∈ gtbl := by sorry
theorem w_1116 : (.fieldLink "QueryBenchModel" 345 "QueryBenchModel" "tooMuch" "Z" : Cond) ∈ gtbl := by sorry
abbrev b_Walk_spend : ByteArray := prog_12_method_4_code
def y_Walk_spend : MethodName := ⟨"QueryBench$Walk", "spend", "()V"⟩
abbrev k_Walk_spend : Cond := .code y_Walk_spend b_Walk_spend 1 none
theorem i_Walk_spend : k_Walk_spend ∈ gtbl := by sorry
theorem d_Walk_spend_0 : decode b_Walk_spend 0 = .ok (.aload_n 0, 1) := by sorry
theorem d_Walk_spend_1 : decode b_Walk_spend 1 = .ok (.getfield 25, 3) := by sorry
theorem d_Walk_spend_4 : decode b_Walk_spend 4 = .ok (.sipush 10000, 3) := by sorry
theorem d_Walk_spend_7 : decode b_Walk_spend 7 = .ok (.if_icmp .lt 11, 3) := by sorry
theorem d_Walk_spend_10 : decode b_Walk_spend 10 = .ok (.new 55, 3) := by sorry
theorem d_Walk_spend_13 : decode b_Walk_spend 13 = .ok (.dup, 1) := by sorry
theorem d_Walk_spend_14 : decode b_Walk_spend 14 = .ok (.invokespecial 57, 3) := by sorry
theorem d_Walk_spend_17 : decode b_Walk_spend 17 = .ok (.athrow, 1) := by sorry
theorem d_Walk_spend_18 : decode b_Walk_spend 18 = .ok (.aload_n 0, 1) := by sorry
theorem d_Walk_spend_19 : decode b_Walk_spend 19 = .ok (.dup, 1) := by sorry
theorem d_Walk_spend_20 : decode b_Walk_spend 20 = .ok (.getfield 25, 3) := by sorry
theorem d_Walk_spend_23 : decode b_Walk_spend 23 = .ok (.iconst 1, 1) := by sorry
theorem d_Walk_spend_24 : decode b_Walk_spend 24 = .ok (.iadd, 1) := by sorry
theorem d_Walk_spend_25 : decode b_Walk_spend 25 = .ok (.putfield 25, 3) := by sorry
theorem d_Walk_spend_28 : decode b_Walk_spend 28 = .ok (.return_, 1) := by sorry
theorem xa_Walk_spend_10 : ∀ w ∈ vx_at0 R_Walk 57 "java/lang/IndexOutOfBoundsException" ["java/lang/RuntimeException", "java/lang/Exception"], (goodWord w = true ∧ w ∈ lw_tbl) ∨ w ∈ nwl := by sorry
theorem xa_Walk_spend_10_g : ∀ w ∈ Cond.classLink R_Walk 55 "java/lang/IndexOutOfBoundsException" :: Cond.initialized "java/lang/IndexOutOfBoundsException" :: vx_at0 R_Walk 57 "java/lang/IndexOutOfBoundsException" ["java/lang/RuntimeException", "java/lang/Exception"], vx_ot w = true := by sorry
set_option maxHeartbeats 4000000 in
set_option maxRecDepth 100000 in
/-- Walk.spend -/
theorem c_Walk_spend (l : Launch) (hl9 : l.stackTraces = false) (dC : Nat → ClassId) (dI : Nat → Nat → Nat) (wk : Nat) (sz : Heap) (rl rr : Value) (tp : Int32) (k : Nat) (hk0 : k ≤ 10000) : vx_Met l y_Walk_spend (k_Walk_spend :: gtbl) ({ frames := 8, cells := 1, slots := 6, locals := 110 }) (va_Pc [.ref wk] (mx dC dI [(wk, .inr (10, [rl, .int tp, .int (nI k), rr]))] [] sz)) (va_Qv (fun (_ : Unit) => k < 10000) (fun _ t => mz dC dI [(wk, .inr (10, [rl, .int tp, .int (nI (k + 1)), rr]))] [] (va_A [(wk, .inr (10, [rl, .int tp, .int (nI k), rr]))] sz.size) t ∧ szk sz t.heap 0 0) (va_A [(wk, .inr (10, [rl, .int tp, .int (nI k), rr]))] sz.size)) (vx_X (fun _ : Unit => ¬ k < 10000) (fun E _ t => E = "java/lang/IndexOutOfBoundsException" ∧ mz dC dI [(wk, .inr (10, [rl, .int tp, .int (nI k), rr]))] [] (va_A [(wk, .inr (10, [rl, .int tp, .int (nI k), rr]))] sz.size) t) (va_A [(wk, .inr (10, [rl, .int tp, .int (nI k), rr]))] sz.size)) 1 6 (va_A [(wk, .inr (10, [rl, .int tp, .int (nI k), rr]))] sz.size) := by sorry
abbrev b_Mo_worked : ByteArray := prog_14_method_52_code
def y_Mo_worked : MethodName := ⟨"QueryBenchModel", "worked", "()Z"⟩
abbrev k_Mo_worked : Cond := .code y_Mo_worked b_Mo_worked 1 (some .boolean)
theorem i_Mo_worked : k_Mo_worked ∈ gtbl := by sorry
theorem d_Mo_worked_0 : decode b_Mo_worked 0 = .ok (.aload_n 0, 1) := by sorry
theorem d_Mo_worked_1 : decode b_Mo_worked 1 = .ok (.dup, 1) := by sorry
theorem d_Mo_worked_2 : decode b_Mo_worked 2 = .ok (.getfield 342, 3) := by sorry
theorem d_Mo_worked_5 : decode b_Mo_worked 5 = .ok (.iconst 1, 1) := by sorry
theorem d_Mo_worked_6 : decode b_Mo_worked 6 = .ok (.iadd, 1) := by sorry
theorem d_Mo_worked_7 : decode b_Mo_worked 7 = .ok (.putfield 342, 3) := by sorry
theorem d_Mo_worked_10 : decode b_Mo_worked 10 = .ok (.aload_n 0, 1) := by sorry
theorem d_Mo_worked_11 : decode b_Mo_worked 11 = .ok (.getfield 342, 3) := by sorry
theorem d_Mo_worked_14 : decode b_Mo_worked 14 = .ok (.sipush 10000, 3) := by sorry
theorem d_Mo_worked_17 : decode b_Mo_worked 17 = .ok (.if_icmp .le 8, 3) := by sorry
theorem d_Mo_worked_20 : decode b_Mo_worked 20 = .ok (.aload_n 0, 1) := by sorry
theorem d_Mo_worked_21 : decode b_Mo_worked 21 = .ok (.iconst 1, 1) := by sorry
theorem d_Mo_worked_22 : decode b_Mo_worked 22 = .ok (.putfield 345, 3) := by sorry
theorem d_Mo_worked_25 : decode b_Mo_worked 25 = .ok (.aload_n 0, 1) := by sorry
theorem d_Mo_worked_26 : decode b_Mo_worked 26 = .ok (.getfield 345, 3) := by sorry
theorem d_Mo_worked_29 : decode b_Mo_worked 29 = .ok (.ifCond .ne 7, 3) := by sorry
theorem d_Mo_worked_32 : decode b_Mo_worked 32 = .ok (.iconst 1, 1) := by sorry
theorem d_Mo_worked_33 : decode b_Mo_worked 33 = .ok (.goto 4, 3) := by sorry
theorem d_Mo_worked_36 : decode b_Mo_worked 36 = .ok (.iconst 0, 1) := by sorry
theorem d_Mo_worked_37 : decode b_Mo_worked 37 = .ok (.ireturn, 1) := by sorry
set_option maxHeartbeats 4000000 in
set_option maxRecDepth 100000 in
/-- the reference: worked -/
theorem c_Mo_worked (l : Launch) (dC : Nat → ClassId) (dI : Nat → Nat → Nat) (mo : Nat) (sz : Heap) (v : Nat → Value) (d : Nat) (tm : Int32) (hd0 : d ≤ 1000000) (h26 : v 26 = .int (nI d)) (h27 : v 27 = .int tm) : Met l y_Mo_worked (k_Mo_worked :: gtbl) ({ frames := 0, cells := 0, slots := 0, locals := 0 }) (va_Pc [.ref mo] (mp dC dI [(mo, .inr (13, MF 30 v))] [] sz)) (va_Qi (fun (r : Int32) (u : Nat → Value) => (¬ d + 1 ≤ 10000 ∧ r = 0 ∧ u = va_up (va_up v 26 (.int (nI (d + 1)))) 27 (.int 1)) ∨ (d + 1 ≤ 10000 ∧ ¬ tm = 0 ∧ r = 0 ∧ u = va_up v 26 (.int (nI (d + 1)))) ∨ (d + 1 ≤ 10000 ∧ tm = 0 ∧ r = 1 ∧ u = va_up v 26 (.int (nI (d + 1))))) (fun u => mz dC dI [(mo, .inr (13, MF 30 u))] [] (va_A [(mo, .inr (13, MF 30 v))] sz.size)) (va_A [(mo, .inr (13, MF 30 v))] sz.size)) 0 0 (va_A [(mo, .inr (13, MF 30 v))] sz.size) := by sorry
end
section
section CallR
variable {p : Program} {l : Launch} {e : Env} {R : Room} {s : State} {m : MethodId} {args : Array Value} {below : List Frame} {meth : Method} {c : Code} {H : Heap} {locs : List Loc} {cells slots : Nat} {Q : State → Prop}
variable {mc ms : Nat} {free : Addr → Prop} {A0 A1 : Nat → Prop} {H0 : Heap} {a : Array Value} {pc : Nat} {ls : Array Slot} {st0 rest : List Value}
/-- behind a call that answers a reference, or throws -/
theorem vx_callr {S SX : Type} {post : S → Prop} {px : SX → Prop} {B : S → Nat → State → Prop} {BX : String → SX → State → Prop} {AX : Nat → Prop} (hr : vx_Run p l e R s m args below meth c H locs cells slots mc ms (F0 m pc ls st0) rest (va_Qr post B A1 a) (vx_X px BX AX) free) (hS : va_S A0 H0 H locs) (hA : ∀ q, q < H.size → A1 q → A0 q) (hf : ∀ q, free q → A0 q) (hAX : ∀ q, q < H.size → AX q → A0 q)
    (kx : ∀ (E : String) (ce : Cell) (q9 : Addr) (u : SX) (t : State) (H1 : Heap) (locs1 : List Loc), t.heap = H1 → s.vm.Alike t.vm → px u → BX E u t → H.size ≤ H1.size → (∀ q : Nat, q < H.size → ¬ AX q → H1[q]? = H[q]?) → va_S A0 H0 H1 locs1 → H1[q9]? = some ce → ce.vm = .none → s.vm.findClass E = some ce.cls → vx_W p l e R s m args below meth c H1 locs1 (cells + mc) (slots + ms) Q (F0 m pc ls rest) q9)
    (kk : ∀ (u : S) (ra : Nat) (t : State) (H1 : Heap) (locs1 : List Loc), t.heap = H1 → s.vm.Alike t.vm → post u → B u ra t → H.size ≤ H1.size → (∀ q : Nat, q < H.size → ¬ A1 q → H1[q]? = H[q]?) → va_S A0 H0 H1 locs1 → W p l e R s m args below meth c H1 locs1 (cells + mc) (slots + ms) Q (F0 m (pc + 3) ls (.ref ra :: rest))) : W p l e R s m args below meth c H locs cells slots Q (F0 m pc ls st0) := by sorry
end CallR
/-- the same contract, weakened behind, of a method that may throw -/
theorem vmet_post {l : Launch} {y : MethodName} {ws : List Cond} {rm : Room} {Pc : Array Value → State → Prop} {Qc Qc' : Array Value → State → Outcome → State → Prop} {XC XC' : String → State → State → Prop} {mc ms : Nat} {free : Addr → Prop} (h : vx_Met l y ws rm Pc Qc XC mc ms free) (hq : ∀ a st o t, Qc a st o t → Qc' a st o t) (hx : ∀ E st t, XC E st t → XC' E st t) : vx_Met l y ws rm Pc Qc' XC' mc ms free := by sorry
end
section
theorem w_255 : (.classLink "QueryBenchLaw" 19 "java/lang/IllegalArgumentException" : Cond) ∈ gtbl := by sorry
theorem w_256 : (.methodLink "QueryBenchLaw" 15 ⟨"QueryBench", "end", "(I)I"⟩ : Cond) ∈ gtbl := by sorry
theorem w_257 : (.instanceMethod ⟨"QueryBench", "end", "(I)I"⟩ : Cond) ∈ gtbl := by sorry
theorem w_258 : (.selects "QueryBench" ⟨"QueryBench", "end", "(I)I"⟩ ⟨"QueryBench", "end", "(I)I"⟩ : Cond) ∈ gtbl := by sorry
theorem nl_262 : (.castable "java/lang/IllegalArgumentException" "java/lang/IllegalArgumentException" : Cond) ∈ nwl := by sorry
/-- a contract of a method with a table, which never throws -/
theorem met_ofWH {l : Launch} {y : MethodName} {ws ws' : List Cond} {rm : Room} {Pc : Array Value → State → Prop} {Qc : Array Value → State → Outcome → State → Prop} {mc ms : Nat} {free : Addr → Prop} {cc : ByteArray} {maxL : Nat} {ret : Option FieldType} {hh : List (Nat × Nat × Nat × Nat)}
    (hy : plainName y.cls = true) (hw : ws = Cond.codeWith y cc maxL ret hh :: ws')
    (body : ∀ p e s m args below meth c s₁, BodyLoose p l y (headSpec ws rm) cc maxL ret e s m args below meth c s₁ → c.maxLocals = maxL → c.exceptionTable.toList = tableOf hh → Pc args s →
      W p l e (headSpec ws rm).room s m args below meth c s.heap [] 0 0 (MQ below Qc args s mc ms free) (entryFrame m args maxL)) : Met l y ws rm Pc Qc mc ms free := by sorry
abbrev b_Law_end : ByteArray := method_4_code
def y_Law_end : MethodName := ⟨"QueryBenchLaw", "end", "(LQueryBench;I[J)I"⟩
abbrev k_Law_end : Cond := .codeWith y_Law_end b_Law_end 4 (some .int) [(0, 9, 12, 19)]
theorem i_Law_end : k_Law_end ∈ gtbl := by sorry
theorem d_Law_end_0 : decode b_Law_end 0 = .ok (.aload_n 2, 1) := by sorry
theorem d_Law_end_1 : decode b_Law_end 1 = .ok (.iconst 0, 1) := by sorry
theorem d_Law_end_2 : decode b_Law_end 2 = .ok (.aload_n 0, 1) := by sorry
theorem d_Law_end_3 : decode b_Law_end 3 = .ok (.iload_n 1, 1) := by sorry
theorem d_Law_end_4 : decode b_Law_end 4 = .ok (.invokevirtual 15, 3) := by sorry
theorem d_Law_end_7 : decode b_Law_end 7 = .ok (.i2l, 1) := by sorry
theorem d_Law_end_8 : decode b_Law_end 8 = .ok (.lastore, 1) := by sorry
theorem d_Law_end_9 : decode b_Law_end 9 = .ok (.goto 6, 3) := by sorry
theorem d_Law_end_12 : decode b_Law_end 12 = .ok (.astore_n 3, 1) := by sorry
theorem d_Law_end_13 : decode b_Law_end 13 = .ok (.iconst 1, 1) := by sorry
theorem d_Law_end_14 : decode b_Law_end 14 = .ok (.ireturn, 1) := by sorry
theorem d_Law_end_15 : decode b_Law_end 15 = .ok (.iconst 0, 1) := by sorry
theorem d_Law_end_16 : decode b_Law_end 16 = .ok (.ireturn, 1) := by sorry
set_option maxHeartbeats 4000000 in
set_option maxRecDepth 100000 in
/-- the law: end -/
theorem c_Law_end (l : Launch) (hl9 : l.stackTraces = false) (dC : Nat → ClassId) (dI : Nat → Nat → Nat) (cB : ClassId) (q0 h0 qb : Nat) (sz : Heap) (ru r1 r2 r3 r4 r5 r6 r7 : Value) (cJ : ClassId) (qo : Nat) (g : Nat → Int64) (uc ln en at_ pl : Int32) (f : Nat → Int32) (nn : Int32) : Met l y_Law_end (k_Law_end :: gtbl) ({ frames := 9, cells := 1, slots := 6, locals := 131 }) (va_Pc [.ref q0, .int nn, .ref qo] (mx dC dI [(q0, .inr (11, [.ref h0, r1, r2, r3, r4, r5, r6, r7])), (h0, .inr (8, [.ref qb, ru, .int uc, .int ln, .int en, .int at_, .int pl])), (qb, .inl (cB, 4096, .inl f)), (qo, .inl (cJ, 1, .inr (.inl g)))] [(cB, .byte), (cJ, .long)] sz)) (va_Qi (fun (r : Int32) (u : Int32 × (Nat → Int64)) => ((¬ nn < 0 ∧ nn ≤ ln) ∧ r = 0 ∧ u = (nn, vp_updL g 0 nn.toInt64)) ∨ (¬ (¬ nn < 0 ∧ nn ≤ ln) ∧ r = 1 ∧ u = (ln, g))) (fun u => mz dC dI [(q0, .inr (11, [.ref h0, r1, r2, r3, r4, r5, r6, r7])), (h0, .inr (8, [.ref qb, ru, .int uc, .int u.1, .int en, .int at_, .int pl])), (qb, .inl (cB, 4096, .inl f)), (qo, .inl (cJ, 1, .inr (.inl u.2)))] [(cB, .byte), (cJ, .long)] (va_A [(q0, .inr (11, [.ref h0, r1, r2, r3, r4, r5, r6, r7])), (h0, .inr (8, [.ref qb, ru, .int uc, .int ln, .int en, .int at_, .int pl])), (qb, .inl (cB, 4096, .inl f)), (qo, .inl (cJ, 1, .inr (.inl g)))] sz.size)) (va_A [(q0, .inr (11, [.ref h0, r1, r2, r3, r4, r5, r6, r7])), (h0, .inr (8, [.ref qb, ru, .int uc, .int ln, .int en, .int at_, .int pl])), (qb, .inl (cB, 4096, .inl f)), (qo, .inl (cJ, 1, .inr (.inl g)))] sz.size)) 1 6 (va_A [(q0, .inr (11, [.ref h0, r1, r2, r3, r4, r5, r6, r7])), (h0, .inr (8, [.ref qb, ru, .int uc, .int ln, .int en, .int at_, .int pl])), (qb, .inl (cB, 4096, .inl f)), (qo, .inl (cJ, 1, .inr (.inl g)))] sz.size) := by sorry
end
section
theorem w_179 : (.classLink "QueryBenchLaw" 13 "java/lang/IndexOutOfBoundsException" : Cond) ∈ gtbl := by sorry
theorem w_180 : (.methodLink "QueryBenchLaw" 7 ⟨"QueryBench", "feed", "(IIIII)I"⟩ : Cond) ∈ gtbl := by sorry
theorem w_181 : (.instanceMethod ⟨"QueryBench", "feed", "(IIIII)I"⟩ : Cond) ∈ gtbl := by sorry
theorem w_182 : (.selects "QueryBench" ⟨"QueryBench", "feed", "(IIIII)I"⟩ ⟨"QueryBench", "feed", "(IIIII)I"⟩ : Cond) ∈ gtbl := by sorry
theorem nl_186 : (.castable "java/lang/IndexOutOfBoundsException" "java/lang/IndexOutOfBoundsException" : Cond) ∈ nwl := by sorry
abbrev b_Law_feed : ByteArray := method_3_code
def y_Law_feed : MethodName := ⟨"QueryBenchLaw", "feed", "(LQueryBench;IIIII[J)I"⟩
abbrev k_Law_feed : Cond := .codeWith y_Law_feed b_Law_feed 8 (some .int) [(0, 16, 19, 13)]
theorem i_Law_feed : k_Law_feed ∈ gtbl := by sorry
theorem d_Law_feed_0 : decode b_Law_feed 0 = .ok (.aload 6, 2) := by sorry
theorem d_Law_feed_2 : decode b_Law_feed 2 = .ok (.iconst 0, 1) := by sorry
theorem d_Law_feed_3 : decode b_Law_feed 3 = .ok (.aload_n 0, 1) := by sorry
theorem d_Law_feed_4 : decode b_Law_feed 4 = .ok (.iload_n 1, 1) := by sorry
theorem d_Law_feed_5 : decode b_Law_feed 5 = .ok (.iload_n 2, 1) := by sorry
theorem d_Law_feed_6 : decode b_Law_feed 6 = .ok (.iload_n 3, 1) := by sorry
theorem d_Law_feed_7 : decode b_Law_feed 7 = .ok (.iload 4, 2) := by sorry
theorem d_Law_feed_9 : decode b_Law_feed 9 = .ok (.iload 5, 2) := by sorry
theorem d_Law_feed_11 : decode b_Law_feed 11 = .ok (.invokevirtual 7, 3) := by sorry
theorem d_Law_feed_14 : decode b_Law_feed 14 = .ok (.i2l, 1) := by sorry
theorem d_Law_feed_15 : decode b_Law_feed 15 = .ok (.lastore, 1) := by sorry
theorem d_Law_feed_16 : decode b_Law_feed 16 = .ok (.goto 7, 3) := by sorry
theorem d_Law_feed_19 : decode b_Law_feed 19 = .ok (.astore 7, 2) := by sorry
theorem d_Law_feed_21 : decode b_Law_feed 21 = .ok (.iconst 1, 1) := by sorry
theorem d_Law_feed_22 : decode b_Law_feed 22 = .ok (.ireturn, 1) := by sorry
theorem d_Law_feed_23 : decode b_Law_feed 23 = .ok (.iconst 0, 1) := by sorry
theorem d_Law_feed_24 : decode b_Law_feed 24 = .ok (.ireturn, 1) := by sorry
set_option maxHeartbeats 4000000 in
set_option maxRecDepth 100000 in
/-- the law: feed -/
theorem c_Law_feed (l : Launch) (hl9 : l.stackTraces = false) (dC : Nat → ClassId) (dI : Nat → Nat → Nat) (cB : ClassId) (q0 h0 qb : Nat) (sz : Heap) (ru r1 r2 r3 r4 r5 r6 r7 : Value) (cJ : ClassId) (qo : Nat) (g : Nat → Int64) (uc en at_ pl : Int32) (f : Nat → Int32) (n : Nat) (a b c_ d e_ : Int32) (hn0 : n ≤ 4096) : Met l y_Law_feed (k_Law_feed :: gtbl) ({ frames := 9, cells := 1, slots := 6, locals := 140 }) (va_Pc [.ref q0, .int a, .int b, .int c_, .int d, .int e_, .ref qo] (mx dC dI [(q0, .inr (11, [.ref h0, r1, r2, r3, r4, r5, r6, r7])), (h0, .inr (8, [.ref qb, ru, .int uc, .int (nI n), .int en, .int at_, .int pl])), (qb, .inl (cB, 4096, .inl f)), (qo, .inl (cJ, 1, .inr (.inl g)))] [(cB, .byte), (cJ, .long)] sz)) (va_Qi (fun (r : Int32) (u : Nat × (Nat → Int32) × (Nat → Int64)) => (n + 20 ≤ 4096 ∧ r = 0 ∧ u = (n + 20, feed5 f n a b c_ d e_, vp_updL g 0 (nI (n + 20)).toInt64)) ∨ (¬ n + 20 ≤ 4096 ∧ r = 1 ∧ u = (n, f, g))) (fun u => mz dC dI [(q0, .inr (11, [.ref h0, r1, r2, r3, r4, r5, r6, r7])), (h0, .inr (8, [.ref qb, ru, .int uc, .int (nI u.1), .int en, .int at_, .int pl])), (qb, .inl (cB, 4096, .inl u.2.1)), (qo, .inl (cJ, 1, .inr (.inl u.2.2)))] [(cB, .byte), (cJ, .long)] (va_A [(q0, .inr (11, [.ref h0, r1, r2, r3, r4, r5, r6, r7])), (h0, .inr (8, [.ref qb, ru, .int uc, .int (nI n), .int en, .int at_, .int pl])), (qb, .inl (cB, 4096, .inl f)), (qo, .inl (cJ, 1, .inr (.inl g)))] sz.size)) (va_A [(q0, .inr (11, [.ref h0, r1, r2, r3, r4, r5, r6, r7])), (h0, .inr (8, [.ref qb, ru, .int uc, .int (nI n), .int en, .int at_, .int pl])), (qb, .inl (cB, 4096, .inl f)), (qo, .inl (cJ, 1, .inr (.inl g)))] sz.size)) 1 6 (va_A [(q0, .inr (11, [.ref h0, r1, r2, r3, r4, r5, r6, r7])), (h0, .inr (8, [.ref qb, ru, .int uc, .int (nI n), .int en, .int at_, .int pl])), (qb, .inl (cB, 4096, .inl f)), (qo, .inl (cJ, 1, .inr (.inl g)))] sz.size) := by sorry
end
section
theorem w_1016 : (.methodLink "QueryBenchLaw" 42 ⟨"QueryBench", "count", "(I)I"⟩ : Cond) ∈ gtbl := by sorry
theorem w_1017 : (.instanceMethod ⟨"QueryBench", "count", "(I)I"⟩ : Cond) ∈ gtbl := by sorry
theorem w_1018 : (.selects "QueryBench" ⟨"QueryBench", "count", "(I)I"⟩ ⟨"QueryBench", "count", "(I)I"⟩ : Cond) ∈ gtbl := by sorry
abbrev b_Law_count : ByteArray := method_10_code
def y_Law_count : MethodName := ⟨"QueryBenchLaw", "count", "(LQueryBench;I[J)I"⟩
abbrev k_Law_count : Cond := .codeWith y_Law_count b_Law_count 4 (some .int) [(0, 9, 12, 19)]
theorem i_Law_count : k_Law_count ∈ gtbl := by sorry
theorem d_Law_count_0 : decode b_Law_count 0 = .ok (.aload_n 2, 1) := by sorry
theorem d_Law_count_1 : decode b_Law_count 1 = .ok (.iconst 0, 1) := by sorry
theorem d_Law_count_2 : decode b_Law_count 2 = .ok (.aload_n 0, 1) := by sorry
theorem d_Law_count_3 : decode b_Law_count 3 = .ok (.iload_n 1, 1) := by sorry
theorem d_Law_count_4 : decode b_Law_count 4 = .ok (.invokevirtual 42, 3) := by sorry
theorem d_Law_count_7 : decode b_Law_count 7 = .ok (.i2l, 1) := by sorry
theorem d_Law_count_8 : decode b_Law_count 8 = .ok (.lastore, 1) := by sorry
theorem d_Law_count_9 : decode b_Law_count 9 = .ok (.goto 6, 3) := by sorry
theorem d_Law_count_12 : decode b_Law_count 12 = .ok (.astore_n 3, 1) := by sorry
theorem d_Law_count_13 : decode b_Law_count 13 = .ok (.iconst 1, 1) := by sorry
theorem d_Law_count_14 : decode b_Law_count 14 = .ok (.ireturn, 1) := by sorry
theorem d_Law_count_15 : decode b_Law_count 15 = .ok (.iconst 0, 1) := by sorry
theorem d_Law_count_16 : decode b_Law_count 16 = .ok (.ireturn, 1) := by sorry
set_option maxHeartbeats 4000000 in
set_option maxRecDepth 100000 in
/-- the law: count -/
theorem c_Law_count (l : Launch) (hl9 : l.stackTraces = false) (dC : Nat → ClassId) (dI : Nat → Nat → Nat) (q0 h0 p1 : Nat) (sz : Heap) (r1 r2 r3 r4 r5 r7 rb ru rpb rps : Value) (cJ : ClassId) (qo : Nat) (g : Nat → Int64) (uc ln en at_ pl rl nn : Int32) : Met l y_Law_count (k_Law_count :: gtbl) ({ frames := 9, cells := 1, slots := 6, locals := 140 }) (va_Pc [.ref q0, .int nn, .ref qo] (mx dC dI [(q0, .inr (11, [.ref h0, r1, r2, r3, r4, r5, .ref p1, r7])), (h0, .inr (8, [rb, ru, .int uc, .int ln, .int en, .int at_, .int pl])), (p1, .inr (3, [rpb, .int rl, rps])), (qo, .inl (cJ, 1, .inr (.inl g)))] [(cJ, .long)] sz)) (va_Qi (fun (r : Int32) (u : Nat → Int64) => ((¬ nn < 0 ∧ nn ≤ 2) ∧ r = 0 ∧ u = vp_updL g 0 (if nn = 0 then ln else if nn = 1 then rl else pl).toInt64) ∨ (¬ (¬ nn < 0 ∧ nn ≤ 2) ∧ r = 1 ∧ u = g)) (fun u => mz dC dI [(q0, .inr (11, [.ref h0, r1, r2, r3, r4, r5, .ref p1, r7])), (h0, .inr (8, [rb, ru, .int uc, .int ln, .int en, .int at_, .int pl])), (p1, .inr (3, [rpb, .int rl, rps])), (qo, .inl (cJ, 1, .inr (.inl u)))] [(cJ, .long)] (va_A [(q0, .inr (11, [.ref h0, r1, r2, r3, r4, r5, .ref p1, r7])), (h0, .inr (8, [rb, ru, .int uc, .int ln, .int en, .int at_, .int pl])), (p1, .inr (3, [rpb, .int rl, rps])), (qo, .inl (cJ, 1, .inr (.inl g)))] sz.size)) (va_A [(q0, .inr (11, [.ref h0, r1, r2, r3, r4, r5, .ref p1, r7])), (h0, .inr (8, [rb, ru, .int uc, .int ln, .int en, .int at_, .int pl])), (p1, .inr (3, [rpb, .int rl, rps])), (qo, .inl (cJ, 1, .inr (.inl g)))] sz.size)) 1 6 (va_A [(q0, .inr (11, [.ref h0, r1, r2, r3, r4, r5, .ref p1, r7])), (h0, .inr (8, [rb, ru, .int uc, .int ln, .int en, .int at_, .int pl])), (p1, .inr (3, [rpb, .int rl, rps])), (qo, .inl (cJ, 1, .inr (.inl g)))] sz.size) := by sorry
end
section
theorem w_140 : (.fieldLink "QueryBench" 117 "QueryBench$Printer" "bytes" "[B" : Cond) ∈ gtbl := by sorry
/-- eight bytes of a row, the highest first, zeros behind its end -/
def wdC (f : Nat → Int32) (n : Nat) : Nat → Nat → Int64 → Int64
  | 0, _, a => a
  | c + 1, k, a => wdC f n c (k + 1) ((a <<< ((8 : Int32).toInt64 &&& 63)) ||| (if k < n then f k &&& 255 else 0).toInt64)
abbrev b_QB_word : ByteArray := prog_1_method_8_code
def y_QB_word : MethodName := ⟨"QueryBench", "word", "(I)J"⟩
abbrev k_QB_word : Cond := .code y_QB_word b_QB_word 6 (some .long)
theorem i_QB_word : k_QB_word ∈ gtbl := by sorry
theorem d_QB_word_0 : decode b_QB_word 0 = .ok (.iload_n 1, 1) := by sorry
theorem d_QB_word_1 : decode b_QB_word 1 = .ok (.ifCond .lt 14, 3) := by sorry
theorem d_QB_word_4 : decode b_QB_word 4 = .ok (.iload_n 1, 1) := by sorry
theorem d_QB_word_5 : decode b_QB_word 5 = .ok (.aload_n 0, 1) := by sorry
theorem d_QB_word_6 : decode b_QB_word 6 = .ok (.getfield 48, 3) := by sorry
theorem d_QB_word_9 : decode b_QB_word 9 = .ok (.getfield 103, 3) := by sorry
theorem d_QB_word_12 : decode b_QB_word 12 = .ok (.if_icmp .lt 11, 3) := by sorry
theorem d_QB_word_15 : decode b_QB_word 15 = .ok (.new 59, 3) := by sorry
theorem d_QB_word_18 : decode b_QB_word 18 = .ok (.dup, 1) := by sorry
theorem d_QB_word_19 : decode b_QB_word 19 = .ok (.invokespecial 61, 3) := by sorry
theorem d_QB_word_22 : decode b_QB_word 22 = .ok (.athrow, 1) := by sorry
theorem d_QB_word_23 : decode b_QB_word 23 = .ok (.lconst 0, 1) := by sorry
theorem d_QB_word_24 : decode b_QB_word 24 = .ok (.lstore_n 2, 1) := by sorry
theorem d_QB_word_25 : decode b_QB_word 25 = .ok (.iload_n 1, 1) := by sorry
theorem d_QB_word_26 : decode b_QB_word 26 = .ok (.istore 4, 2) := by sorry
theorem d_QB_word_28 : decode b_QB_word 28 = .ok (.iload 4, 2) := by sorry
theorem d_QB_word_30 : decode b_QB_word 30 = .ok (.iload_n 1, 1) := by sorry
theorem d_QB_word_31 : decode b_QB_word 31 = .ok (.bipush 8, 2) := by sorry
theorem d_QB_word_33 : decode b_QB_word 33 = .ok (.iadd, 1) := by sorry
theorem d_QB_word_34 : decode b_QB_word 34 = .ok (.if_icmp .ge 50, 3) := by sorry
theorem d_QB_word_37 : decode b_QB_word 37 = .ok (.iload 4, 2) := by sorry
theorem d_QB_word_39 : decode b_QB_word 39 = .ok (.aload_n 0, 1) := by sorry
theorem d_QB_word_40 : decode b_QB_word 40 = .ok (.getfield 48, 3) := by sorry
theorem d_QB_word_43 : decode b_QB_word 43 = .ok (.getfield 103, 3) := by sorry
theorem d_QB_word_46 : decode b_QB_word 46 = .ok (.if_icmp .ge 20, 3) := by sorry
theorem d_QB_word_49 : decode b_QB_word 49 = .ok (.aload_n 0, 1) := by sorry
theorem d_QB_word_50 : decode b_QB_word 50 = .ok (.getfield 48, 3) := by sorry
theorem d_QB_word_53 : decode b_QB_word 53 = .ok (.getfield 117, 3) := by sorry
theorem d_QB_word_56 : decode b_QB_word 56 = .ok (.iload 4, 2) := by sorry
theorem d_QB_word_58 : decode b_QB_word 58 = .ok (.baload, 1) := by sorry
theorem d_QB_word_59 : decode b_QB_word 59 = .ok (.sipush 255, 3) := by sorry
theorem d_QB_word_62 : decode b_QB_word 62 = .ok (.iand, 1) := by sorry
theorem d_QB_word_63 : decode b_QB_word 63 = .ok (.goto 4, 3) := by sorry
theorem d_QB_word_66 : decode b_QB_word 66 = .ok (.iconst 0, 1) := by sorry
theorem d_QB_word_67 : decode b_QB_word 67 = .ok (.istore 5, 2) := by sorry
theorem d_QB_word_69 : decode b_QB_word 69 = .ok (.lload_n 2, 1) := by sorry
theorem d_QB_word_70 : decode b_QB_word 70 = .ok (.bipush 8, 2) := by sorry
theorem d_QB_word_72 : decode b_QB_word 72 = .ok (.lshl, 1) := by sorry
theorem d_QB_word_73 : decode b_QB_word 73 = .ok (.iload 5, 2) := by sorry
theorem d_QB_word_75 : decode b_QB_word 75 = .ok (.i2l, 1) := by sorry
theorem d_QB_word_76 : decode b_QB_word 76 = .ok (.lor, 1) := by sorry
theorem d_QB_word_77 : decode b_QB_word 77 = .ok (.lstore_n 2, 1) := by sorry
theorem d_QB_word_78 : decode b_QB_word 78 = .ok (.iinc 4 1, 3) := by sorry
theorem d_QB_word_81 : decode b_QB_word 81 = .ok (.goto (-53), 3) := by sorry
theorem d_QB_word_84 : decode b_QB_word 84 = .ok (.lload_n 2, 1) := by sorry
theorem d_QB_word_85 : decode b_QB_word 85 = .ok (.lreturn, 1) := by sorry
theorem xa_QB_word_15 : ∀ w ∈ vx_at0 R_QB 61 "java/lang/IndexOutOfBoundsException" ["java/lang/RuntimeException", "java/lang/Exception"], (goodWord w = true ∧ w ∈ lw_tbl) ∨ w ∈ nwl := by sorry
theorem xa_QB_word_15_g : ∀ w ∈ Cond.classLink R_QB 59 "java/lang/IndexOutOfBoundsException" :: Cond.initialized "java/lang/IndexOutOfBoundsException" :: vx_at0 R_QB 61 "java/lang/IndexOutOfBoundsException" ["java/lang/RuntimeException", "java/lang/Exception"], vx_ot w = true := by sorry
set_option maxHeartbeats 4000000 in
set_option maxRecDepth 100000 in
/-- QueryBench.word -/
theorem c_QB_word (l : Launch) (hl9 : l.stackTraces = false) (dC : Nat → ClassId) (dI : Nat → Nat → Nat) (cB : ClassId) (q0 p1 pb : Nat) (sz : Heap) (r0 r1 r2 r3 r4 r5 r7 rps : Value) (f : Nat → Int32) (n : Nat) (ii : Int32) (hn0 : n ≤ 16384) : vx_Met l y_QB_word (k_QB_word :: gtbl) ({ frames := 8, cells := 1, slots := 6, locals := 110 }) (va_Pc [.ref q0, .int ii] (mx dC dI [(q0, .inr (11, [r0, r1, r2, r3, r4, r5, .ref p1, r7])), (p1, .inr (3, [.ref pb, .int (nI n), rps])), (pb, .inl (cB, 16384, .inl f))] [(cB, .byte)] sz)) (va_Ql (fun (r : Int64) (_ : Unit) => (¬ ii < 0 ∧ ii < nI n) ∧ ∀ k9, k9 < n ∧ ii = nI k9 → r = wdC f n 8 k9 0) (fun _ t => mz dC dI [(q0, .inr (11, [r0, r1, r2, r3, r4, r5, .ref p1, r7])), (p1, .inr (3, [.ref pb, .int (nI n), rps])), (pb, .inl (cB, 16384, .inl f))] [(cB, .byte)] (va_A [(q0, .inr (11, [r0, r1, r2, r3, r4, r5, .ref p1, r7])), (p1, .inr (3, [.ref pb, .int (nI n), rps])), (pb, .inl (cB, 16384, .inl f))] sz.size) t ∧ szk sz t.heap 0 0) (va_A [(q0, .inr (11, [r0, r1, r2, r3, r4, r5, .ref p1, r7])), (p1, .inr (3, [.ref pb, .int (nI n), rps])), (pb, .inl (cB, 16384, .inl f))] sz.size)) (vx_X (fun _ : Unit => ¬ (¬ ii < 0 ∧ ii < nI n)) (fun E _ t => E = "java/lang/IndexOutOfBoundsException" ∧ mz dC dI [(q0, .inr (11, [r0, r1, r2, r3, r4, r5, .ref p1, r7])), (p1, .inr (3, [.ref pb, .int (nI n), rps])), (pb, .inl (cB, 16384, .inl f))] [(cB, .byte)] (va_A [(q0, .inr (11, [r0, r1, r2, r3, r4, r5, .ref p1, r7])), (p1, .inr (3, [.ref pb, .int (nI n), rps])), (pb, .inl (cB, 16384, .inl f))] sz.size) t) (va_A [(q0, .inr (11, [r0, r1, r2, r3, r4, r5, .ref p1, r7])), (p1, .inr (3, [.ref pb, .int (nI n), rps])), (pb, .inl (cB, 16384, .inl f))] sz.size)) 1 6 (va_A [(q0, .inr (11, [r0, r1, r2, r3, r4, r5, .ref p1, r7])), (p1, .inr (3, [.ref pb, .int (nI n), rps])), (pb, .inl (cB, 16384, .inl f))] sz.size) := by sorry
end
section
theorem w_8 : (.initialized "QueryBenchModel$Tree" : Cond) ∈ gtbl := by sorry
theorem w_1034 : (.fieldLink "QueryBenchModel$Tree" 9 "QueryBenchModel$Tree" "kinds" "[I" : Cond) ∈ gtbl := by sorry
theorem w_1036 : (.fieldLink "QueryBenchModel$Tree" 15 "QueryBenchModel$Tree" "numbers" "[J" : Cond) ∈ gtbl := by sorry
theorem w_1038 : (.fieldLink "QueryBenchModel$Tree" 19 "QueryBenchModel$Tree" "starts" "[I" : Cond) ∈ gtbl := by sorry
theorem w_1040 : (.fieldLink "QueryBenchModel$Tree" 22 "QueryBenchModel$Tree" "lengths" "[I" : Cond) ∈ gtbl := by sorry
theorem w_1046 : (.fieldLink "QueryBenchModel$Tree" 31 "QueryBenchModel$Tree" "nameStarts" "[I" : Cond) ∈ gtbl := by sorry
theorem w_1048 : (.fieldLink "QueryBenchModel$Tree" 34 "QueryBenchModel$Tree" "nameLengths" "[I" : Cond) ∈ gtbl := by sorry
theorem w_1052 : (.fieldLink "QueryBenchModel$Tree" 40 "QueryBenchModel$Tree" "places" "[I" : Cond) ∈ gtbl := by sorry
theorem w_1087 : (.arrayClass FieldType.long : Cond) ∈ gtbl := by sorry
theorem w_1258 : (.methodLink "QueryBenchModel$Tree" 54 ⟨"QueryBenchModel$Tree", "longer", "([I)[I"⟩ : Cond) ∈ gtbl := by sorry
theorem w_1259 : (.static ⟨"QueryBenchModel$Tree", "longer", "([I)[I"⟩ : Cond) ∈ gtbl := by sorry
/-- the state of a tree of the reference: how long its rows are, where they lie, what they hold -/
def TS : Type := Nat × Nat × Nat × Nat × Nat × Nat × Nat × Nat × Nat × Nat × Nat × Nat × Nat × Nat × Nat × (Nat → Int32) × (Nat → Int32) × (Nat → Int32) × (Nat → Int32) × (Nat → Int32) × (Nat → Int32) × (Nat → Int32) × (Nat → Int32) × (Nat → Int32) × (Nat → Int32) × (Nat → Int64)
def TS.N (T : TS) : Nat := T.1
def TS.U (T : TS) : Nat := T.2.1
def TS.ct (T : TS) : Nat := T.2.2.1
def TS.us (T : TS) : Nat := T.2.2.2.1
def TS.a0 (T : TS) : Nat := T.2.2.2.2.1
def TS.a1 (T : TS) : Nat := T.2.2.2.2.2.1
def TS.a2 (T : TS) : Nat := T.2.2.2.2.2.2.1
def TS.a3 (T : TS) : Nat := T.2.2.2.2.2.2.2.1
def TS.a4 (T : TS) : Nat := T.2.2.2.2.2.2.2.2.1
def TS.a5 (T : TS) : Nat := T.2.2.2.2.2.2.2.2.2.1
def TS.a6 (T : TS) : Nat := T.2.2.2.2.2.2.2.2.2.2.1
def TS.a7 (T : TS) : Nat := T.2.2.2.2.2.2.2.2.2.2.2.1
def TS.a8 (T : TS) : Nat := T.2.2.2.2.2.2.2.2.2.2.2.2.1
def TS.a9 (T : TS) : Nat := T.2.2.2.2.2.2.2.2.2.2.2.2.2.1
def TS.au (T : TS) : Nat := T.2.2.2.2.2.2.2.2.2.2.2.2.2.2.1
def TS.kd (T : TS) : (Nat → Int32) := T.2.2.2.2.2.2.2.2.2.2.2.2.2.2.2.1
def TS.st (T : TS) : (Nat → Int32) := T.2.2.2.2.2.2.2.2.2.2.2.2.2.2.2.2.1
def TS.ln (T : TS) : (Nat → Int32) := T.2.2.2.2.2.2.2.2.2.2.2.2.2.2.2.2.2.1
def TS.ki (T : TS) : (Nat → Int32) := T.2.2.2.2.2.2.2.2.2.2.2.2.2.2.2.2.2.2.1
def TS.nx (T : TS) : (Nat → Int32) := T.2.2.2.2.2.2.2.2.2.2.2.2.2.2.2.2.2.2.2.1
def TS.ns (T : TS) : (Nat → Int32) := T.2.2.2.2.2.2.2.2.2.2.2.2.2.2.2.2.2.2.2.2.1
def TS.nl (T : TS) : (Nat → Int32) := T.2.2.2.2.2.2.2.2.2.2.2.2.2.2.2.2.2.2.2.2.2.1
def TS.pa (T : TS) : (Nat → Int32) := T.2.2.2.2.2.2.2.2.2.2.2.2.2.2.2.2.2.2.2.2.2.2.1
def TS.pl (T : TS) : (Nat → Int32) := T.2.2.2.2.2.2.2.2.2.2.2.2.2.2.2.2.2.2.2.2.2.2.2.1
def TS.un (T : TS) : (Nat → Int32) := T.2.2.2.2.2.2.2.2.2.2.2.2.2.2.2.2.2.2.2.2.2.2.2.2.1
def TS.nu (T : TS) : (Nat → Int64) := T.2.2.2.2.2.2.2.2.2.2.2.2.2.2.2.2.2.2.2.2.2.2.2.2.2
def TS.mk (N : Nat) (U : Nat) (ct : Nat) (us : Nat) (a0 : Nat) (a1 : Nat) (a2 : Nat) (a3 : Nat) (a4 : Nat) (a5 : Nat) (a6 : Nat) (a7 : Nat) (a8 : Nat) (a9 : Nat) (au : Nat) (kd : (Nat → Int32)) (st : (Nat → Int32)) (ln : (Nat → Int32)) (ki : (Nat → Int32)) (nx : (Nat → Int32)) (ns : (Nat → Int32)) (nl : (Nat → Int32)) (pa : (Nat → Int32)) (pl : (Nat → Int32)) (un : (Nat → Int32)) (nu : (Nat → Int64)) : TS := (N, U, ct, us, a0, a1, a2, a3, a4, a5, a6, a7, a8, a9, au, kd, st, ln, ki, nx, ns, nl, pa, pl, un, nu)
/-- T with other units -/
abbrev TS.wU (T : TS) (U a : Nat) (g : Nat → Int32) (k : Nat) : TS := TS.mk T.N U T.ct k T.a0 T.a1 T.a2 T.a3 T.a4 T.a5 T.a6 T.a7 T.a8 T.a9 a T.kd T.st T.ln T.ki T.nx T.ns T.nl T.pa T.pl g T.nu
/-- its fields -/
def tw (T : TS) : Nat → Value
  | 0 => .ref T.a0
  | 1 => .ref T.a1
  | 2 => .ref T.a2
  | 3 => .ref T.a3
  | 4 => .ref T.a4
  | 5 => .ref T.a5
  | 6 => .ref T.a6
  | 7 => .ref T.a7
  | 8 => .ref T.a8
  | 9 => .ref T.a9
  | 10 => .int (nI T.ct)
  | 11 => .ref T.au
  | 12 => .int (nI T.us)
  | _ => .null
/-- its rows hold it -/
def TOK (T : TS) : Prop := 16 ≤ T.N ∧ T.N ≤ 1000000 ∧ T.ct ≤ T.N ∧ 0 < T.U ∧ T.U ≤ 1000000 ∧ T.us ≤ T.U ∧ chOK T.un
def cpLL (f : Nat → Int64) (j : Nat) : Nat → Int64 := fun i => if i < j then f i else 0
theorem cpLL_0 (f : Nat → Int64) : cpLL f 0 = fun _ => 0 := by sorry
theorem cpLL_s (f : Nat → Int64) (j : Nat) : vp_updL (cpLL f j) j (f j) = cpLL f (j + 1) := by sorry
def adC (T : TS) : Nat := if T.ct = T.N then 10 else 0
def adS (T : TS) : Nat := if T.ct = T.N then 20 * T.N else 0
/-- T' is T and one more node -/
def TAd (T T' : TS) (k : Int32) : Prop := (T'.N = if T.ct = T.N then 2 * T.N else T.N) ∧ T'.U = T.U ∧ T'.au = T.au ∧ T'.un = T.un ∧ T'.us = T.us ∧ T'.ct = T.ct + 1
  ∧ (∀ j, j < T.ct → T'.kd j = T.kd j ∧ T'.nu j = T.nu j ∧ T'.st j = T.st j ∧ T'.ln j = T.ln j ∧ T'.ki j = T.ki j ∧ T'.nx j = T.nx j ∧ T'.ns j = T.ns j ∧ T'.nl j = T.nl j ∧ T'.pa j = T.pa j)
  ∧ T'.kd T.ct = k ∧ T'.ki T.ct = -1 ∧ T'.nx T.ct = -1 ∧ T'.pa T.ct = -1 ∧ T'.ns T.ct = -1 ∧ T'.ln T.ct = 0 ∧ T'.st T.ct = nI T.us
theorem cpL_lt {f : Nat → Int32} {n j : Nat} (h : j < n) : cpL f n j = f j := by sorry
theorem cpLL_lt {f : Nat → Int64} {n j : Nat} (h : j < n) : cpLL f n j = f j := by sorry
abbrev b_Tree_add : ByteArray := prog_15_method_4_code
def y_Tree_add : MethodName := ⟨"QueryBenchModel$Tree", "add", "(I)I"⟩
abbrev k_Tree_add : Cond := .code y_Tree_add b_Tree_add 4 (some .int)
theorem i_Tree_add : k_Tree_add ∈ gtbl := by sorry
theorem d_Tree_add_0 : decode b_Tree_add 0 = .ok (.aload_n 0, 1) := by sorry
theorem d_Tree_add_1 : decode b_Tree_add 1 = .ok (.getfield 47, 3) := by sorry
theorem d_Tree_add_4 : decode b_Tree_add 4 = .ok (.aload_n 0, 1) := by sorry
theorem d_Tree_add_5 : decode b_Tree_add 5 = .ok (.getfield 9, 3) := by sorry
theorem d_Tree_add_8 : decode b_Tree_add 8 = .ok (.arraylength, 1) := by sorry
theorem d_Tree_add_9 : decode b_Tree_add 9 = .ok (.if_icmp .ne 143, 3) := by sorry
theorem d_Tree_add_12 : decode b_Tree_add 12 = .ok (.aload_n 0, 1) := by sorry
theorem d_Tree_add_13 : decode b_Tree_add 13 = .ok (.aload_n 0, 1) := by sorry
theorem d_Tree_add_14 : decode b_Tree_add 14 = .ok (.getfield 9, 3) := by sorry
theorem d_Tree_add_17 : decode b_Tree_add 17 = .ok (.invokestatic 54, 3) := by sorry
theorem d_Tree_add_20 : decode b_Tree_add 20 = .ok (.putfield 9, 3) := by sorry
theorem d_Tree_add_23 : decode b_Tree_add 23 = .ok (.iconst 2, 1) := by sorry
theorem d_Tree_add_24 : decode b_Tree_add 24 = .ok (.aload_n 0, 1) := by sorry
theorem d_Tree_add_25 : decode b_Tree_add 25 = .ok (.getfield 15, 3) := by sorry
theorem d_Tree_add_28 : decode b_Tree_add 28 = .ok (.arraylength, 1) := by sorry
theorem d_Tree_add_29 : decode b_Tree_add 29 = .ok (.imul, 1) := by sorry
theorem d_Tree_add_30 : decode b_Tree_add 30 = .ok (.newarray .long, 2) := by sorry
theorem d_Tree_add_32 : decode b_Tree_add 32 = .ok (.astore_n 2, 1) := by sorry
theorem d_Tree_add_33 : decode b_Tree_add 33 = .ok (.iconst 0, 1) := by sorry
theorem d_Tree_add_34 : decode b_Tree_add 34 = .ok (.istore_n 3, 1) := by sorry
theorem d_Tree_add_35 : decode b_Tree_add 35 = .ok (.iload_n 3, 1) := by sorry
theorem d_Tree_add_36 : decode b_Tree_add 36 = .ok (.aload_n 0, 1) := by sorry
theorem d_Tree_add_37 : decode b_Tree_add 37 = .ok (.getfield 15, 3) := by sorry
theorem d_Tree_add_40 : decode b_Tree_add 40 = .ok (.arraylength, 1) := by sorry
theorem d_Tree_add_41 : decode b_Tree_add 41 = .ok (.if_icmp .ge 18, 3) := by sorry
theorem d_Tree_add_44 : decode b_Tree_add 44 = .ok (.aload_n 2, 1) := by sorry
theorem d_Tree_add_45 : decode b_Tree_add 45 = .ok (.iload_n 3, 1) := by sorry
theorem d_Tree_add_46 : decode b_Tree_add 46 = .ok (.aload_n 0, 1) := by sorry
theorem d_Tree_add_47 : decode b_Tree_add 47 = .ok (.getfield 15, 3) := by sorry
theorem d_Tree_add_50 : decode b_Tree_add 50 = .ok (.iload_n 3, 1) := by sorry
theorem d_Tree_add_51 : decode b_Tree_add 51 = .ok (.laload, 1) := by sorry
theorem d_Tree_add_52 : decode b_Tree_add 52 = .ok (.lastore, 1) := by sorry
theorem d_Tree_add_53 : decode b_Tree_add 53 = .ok (.iinc 3 1, 3) := by sorry
theorem d_Tree_add_56 : decode b_Tree_add 56 = .ok (.goto (-21), 3) := by sorry
theorem d_Tree_add_59 : decode b_Tree_add 59 = .ok (.aload_n 0, 1) := by sorry
theorem d_Tree_add_60 : decode b_Tree_add 60 = .ok (.aload_n 2, 1) := by sorry
theorem d_Tree_add_61 : decode b_Tree_add 61 = .ok (.putfield 15, 3) := by sorry
theorem d_Tree_add_64 : decode b_Tree_add 64 = .ok (.aload_n 0, 1) := by sorry
theorem d_Tree_add_65 : decode b_Tree_add 65 = .ok (.aload_n 0, 1) := by sorry
theorem d_Tree_add_66 : decode b_Tree_add 66 = .ok (.getfield 19, 3) := by sorry
theorem d_Tree_add_69 : decode b_Tree_add 69 = .ok (.invokestatic 54, 3) := by sorry
theorem d_Tree_add_72 : decode b_Tree_add 72 = .ok (.putfield 19, 3) := by sorry
theorem d_Tree_add_75 : decode b_Tree_add 75 = .ok (.aload_n 0, 1) := by sorry
theorem d_Tree_add_76 : decode b_Tree_add 76 = .ok (.aload_n 0, 1) := by sorry
theorem d_Tree_add_77 : decode b_Tree_add 77 = .ok (.getfield 22, 3) := by sorry
theorem d_Tree_add_80 : decode b_Tree_add 80 = .ok (.invokestatic 54, 3) := by sorry
theorem d_Tree_add_83 : decode b_Tree_add 83 = .ok (.putfield 22, 3) := by sorry
theorem d_Tree_add_86 : decode b_Tree_add 86 = .ok (.aload_n 0, 1) := by sorry
theorem d_Tree_add_87 : decode b_Tree_add 87 = .ok (.aload_n 0, 1) := by sorry
theorem d_Tree_add_88 : decode b_Tree_add 88 = .ok (.getfield 25, 3) := by sorry
theorem d_Tree_add_91 : decode b_Tree_add 91 = .ok (.invokestatic 54, 3) := by sorry
theorem d_Tree_add_94 : decode b_Tree_add 94 = .ok (.putfield 25, 3) := by sorry
theorem d_Tree_add_97 : decode b_Tree_add 97 = .ok (.aload_n 0, 1) := by sorry
theorem d_Tree_add_98 : decode b_Tree_add 98 = .ok (.aload_n 0, 1) := by sorry
theorem d_Tree_add_99 : decode b_Tree_add 99 = .ok (.getfield 28, 3) := by sorry
theorem d_Tree_add_102 : decode b_Tree_add 102 = .ok (.invokestatic 54, 3) := by sorry
theorem d_Tree_add_105 : decode b_Tree_add 105 = .ok (.putfield 28, 3) := by sorry
theorem d_Tree_add_108 : decode b_Tree_add 108 = .ok (.aload_n 0, 1) := by sorry
theorem d_Tree_add_109 : decode b_Tree_add 109 = .ok (.aload_n 0, 1) := by sorry
theorem d_Tree_add_110 : decode b_Tree_add 110 = .ok (.getfield 31, 3) := by sorry
theorem d_Tree_add_113 : decode b_Tree_add 113 = .ok (.invokestatic 54, 3) := by sorry
theorem d_Tree_add_116 : decode b_Tree_add 116 = .ok (.putfield 31, 3) := by sorry
theorem d_Tree_add_119 : decode b_Tree_add 119 = .ok (.aload_n 0, 1) := by sorry
theorem d_Tree_add_120 : decode b_Tree_add 120 = .ok (.aload_n 0, 1) := by sorry
theorem d_Tree_add_121 : decode b_Tree_add 121 = .ok (.getfield 34, 3) := by sorry
theorem d_Tree_add_124 : decode b_Tree_add 124 = .ok (.invokestatic 54, 3) := by sorry
theorem d_Tree_add_127 : decode b_Tree_add 127 = .ok (.putfield 34, 3) := by sorry
theorem d_Tree_add_130 : decode b_Tree_add 130 = .ok (.aload_n 0, 1) := by sorry
theorem d_Tree_add_131 : decode b_Tree_add 131 = .ok (.aload_n 0, 1) := by sorry
theorem d_Tree_add_132 : decode b_Tree_add 132 = .ok (.getfield 37, 3) := by sorry
theorem d_Tree_add_135 : decode b_Tree_add 135 = .ok (.invokestatic 54, 3) := by sorry
theorem d_Tree_add_138 : decode b_Tree_add 138 = .ok (.putfield 37, 3) := by sorry
theorem d_Tree_add_141 : decode b_Tree_add 141 = .ok (.aload_n 0, 1) := by sorry
theorem d_Tree_add_142 : decode b_Tree_add 142 = .ok (.aload_n 0, 1) := by sorry
theorem d_Tree_add_143 : decode b_Tree_add 143 = .ok (.getfield 40, 3) := by sorry
theorem d_Tree_add_146 : decode b_Tree_add 146 = .ok (.invokestatic 54, 3) := by sorry
theorem d_Tree_add_149 : decode b_Tree_add 149 = .ok (.putfield 40, 3) := by sorry
theorem d_Tree_add_152 : decode b_Tree_add 152 = .ok (.aload_n 0, 1) := by sorry
theorem d_Tree_add_153 : decode b_Tree_add 153 = .ok (.getfield 9, 3) := by sorry
theorem d_Tree_add_156 : decode b_Tree_add 156 = .ok (.aload_n 0, 1) := by sorry
theorem d_Tree_add_157 : decode b_Tree_add 157 = .ok (.getfield 47, 3) := by sorry
theorem d_Tree_add_160 : decode b_Tree_add 160 = .ok (.iload_n 1, 1) := by sorry
theorem d_Tree_add_161 : decode b_Tree_add 161 = .ok (.iastore, 1) := by sorry
theorem d_Tree_add_162 : decode b_Tree_add 162 = .ok (.aload_n 0, 1) := by sorry
theorem d_Tree_add_163 : decode b_Tree_add 163 = .ok (.getfield 25, 3) := by sorry
theorem d_Tree_add_166 : decode b_Tree_add 166 = .ok (.aload_n 0, 1) := by sorry
theorem d_Tree_add_167 : decode b_Tree_add 167 = .ok (.getfield 47, 3) := by sorry
theorem d_Tree_add_170 : decode b_Tree_add 170 = .ok (.iconst (-1), 1) := by sorry
theorem d_Tree_add_171 : decode b_Tree_add 171 = .ok (.iastore, 1) := by sorry
theorem d_Tree_add_172 : decode b_Tree_add 172 = .ok (.aload_n 0, 1) := by sorry
theorem d_Tree_add_173 : decode b_Tree_add 173 = .ok (.getfield 28, 3) := by sorry
theorem d_Tree_add_176 : decode b_Tree_add 176 = .ok (.aload_n 0, 1) := by sorry
theorem d_Tree_add_177 : decode b_Tree_add 177 = .ok (.getfield 47, 3) := by sorry
theorem d_Tree_add_180 : decode b_Tree_add 180 = .ok (.iconst (-1), 1) := by sorry
theorem d_Tree_add_181 : decode b_Tree_add 181 = .ok (.iastore, 1) := by sorry
theorem d_Tree_add_182 : decode b_Tree_add 182 = .ok (.aload_n 0, 1) := by sorry
theorem d_Tree_add_183 : decode b_Tree_add 183 = .ok (.getfield 37, 3) := by sorry
theorem d_Tree_add_186 : decode b_Tree_add 186 = .ok (.aload_n 0, 1) := by sorry
theorem d_Tree_add_187 : decode b_Tree_add 187 = .ok (.getfield 47, 3) := by sorry
theorem d_Tree_add_190 : decode b_Tree_add 190 = .ok (.iconst (-1), 1) := by sorry
theorem d_Tree_add_191 : decode b_Tree_add 191 = .ok (.iastore, 1) := by sorry
theorem d_Tree_add_192 : decode b_Tree_add 192 = .ok (.aload_n 0, 1) := by sorry
theorem d_Tree_add_193 : decode b_Tree_add 193 = .ok (.getfield 31, 3) := by sorry
theorem d_Tree_add_196 : decode b_Tree_add 196 = .ok (.aload_n 0, 1) := by sorry
theorem d_Tree_add_197 : decode b_Tree_add 197 = .ok (.getfield 47, 3) := by sorry
theorem d_Tree_add_200 : decode b_Tree_add 200 = .ok (.iconst (-1), 1) := by sorry
theorem d_Tree_add_201 : decode b_Tree_add 201 = .ok (.iastore, 1) := by sorry
theorem d_Tree_add_202 : decode b_Tree_add 202 = .ok (.aload_n 0, 1) := by sorry
theorem d_Tree_add_203 : decode b_Tree_add 203 = .ok (.getfield 22, 3) := by sorry
theorem d_Tree_add_206 : decode b_Tree_add 206 = .ok (.aload_n 0, 1) := by sorry
theorem d_Tree_add_207 : decode b_Tree_add 207 = .ok (.getfield 47, 3) := by sorry
theorem d_Tree_add_210 : decode b_Tree_add 210 = .ok (.iconst 0, 1) := by sorry
theorem d_Tree_add_211 : decode b_Tree_add 211 = .ok (.iastore, 1) := by sorry
theorem d_Tree_add_212 : decode b_Tree_add 212 = .ok (.aload_n 0, 1) := by sorry
theorem d_Tree_add_213 : decode b_Tree_add 213 = .ok (.getfield 19, 3) := by sorry
theorem d_Tree_add_216 : decode b_Tree_add 216 = .ok (.aload_n 0, 1) := by sorry
theorem d_Tree_add_217 : decode b_Tree_add 217 = .ok (.getfield 47, 3) := by sorry
theorem d_Tree_add_220 : decode b_Tree_add 220 = .ok (.aload_n 0, 1) := by sorry
theorem d_Tree_add_221 : decode b_Tree_add 221 = .ok (.getfield 51, 3) := by sorry
theorem d_Tree_add_224 : decode b_Tree_add 224 = .ok (.iastore, 1) := by sorry
theorem d_Tree_add_225 : decode b_Tree_add 225 = .ok (.aload_n 0, 1) := by sorry
theorem d_Tree_add_226 : decode b_Tree_add 226 = .ok (.dup, 1) := by sorry
theorem d_Tree_add_227 : decode b_Tree_add 227 = .ok (.getfield 47, 3) := by sorry
theorem d_Tree_add_230 : decode b_Tree_add 230 = .ok (.iconst 1, 1) := by sorry
theorem d_Tree_add_231 : decode b_Tree_add 231 = .ok (.iadd, 1) := by sorry
theorem d_Tree_add_232 : decode b_Tree_add 232 = .ok (.putfield 47, 3) := by sorry
theorem d_Tree_add_235 : decode b_Tree_add 235 = .ok (.aload_n 0, 1) := by sorry
theorem d_Tree_add_236 : decode b_Tree_add 236 = .ok (.getfield 47, 3) := by sorry
theorem d_Tree_add_239 : decode b_Tree_add 239 = .ok (.iconst 1, 1) := by sorry
theorem d_Tree_add_240 : decode b_Tree_add 240 = .ok (.isub, 1) := by sorry
theorem d_Tree_add_241 : decode b_Tree_add 241 = .ok (.ireturn, 1) := by sorry
set_option maxHeartbeats 4000000 in
set_option maxRecDepth 100000 in
/-- Tree.add -/
theorem c_Tree_add (l : Launch) (dC : Nat → ClassId) (dI : Nat → Nat → Nat) (t : Nat) (sz : Heap) (cI cL cC : ClassId) (T : TS) (x : Int32) (hT : TOK T) : Met l y_Tree_add (k_Tree_add :: gtbl) ({ frames := 1, cells := adC T, slots := adS T, locals := 24 }) (va_Pc [.ref t, .int x] (mp dC dI [(t, .inr (12, MF 13 (tw T))), (T.a0, .inl (cI, T.N, .inl T.kd)), (T.a1, .inl (cL, T.N, .inr (.inl T.nu))), (T.a2, .inl (cI, T.N, .inl T.st)), (T.a3, .inl (cI, T.N, .inl T.ln)), (T.a4, .inl (cI, T.N, .inl T.ki)), (T.a5, .inl (cI, T.N, .inl T.nx)), (T.a6, .inl (cI, T.N, .inl T.ns)), (T.a7, .inl (cI, T.N, .inl T.nl)), (T.a8, .inl (cI, T.N, .inl T.pa)), (T.a9, .inl (cI, T.N, .inl T.pl)), (T.au, .inl (cC, T.U, .inl T.un))] [(cI, .int), (cL, .long), (cC, .char)] sz)) (va_Qi (fun (r : Int32) (T2 : TS) => r = nI T.ct ∧ TAd T T2 x) (fun T2 t9 => mz dC dI [(t, .inr (12, MF 13 (tw T2))), (T2.a0, .inl (cI, T2.N, .inl T2.kd)), (T2.a1, .inl (cL, T2.N, .inr (.inl T2.nu))), (T2.a2, .inl (cI, T2.N, .inl T2.st)), (T2.a3, .inl (cI, T2.N, .inl T2.ln)), (T2.a4, .inl (cI, T2.N, .inl T2.ki)), (T2.a5, .inl (cI, T2.N, .inl T2.nx)), (T2.a6, .inl (cI, T2.N, .inl T2.ns)), (T2.a7, .inl (cI, T2.N, .inl T2.nl)), (T2.a8, .inl (cI, T2.N, .inl T2.pa)), (T2.a9, .inl (cI, T2.N, .inl T2.pl)), (T2.au, .inl (cC, T2.U, .inl T2.un))] [(cI, .int), (cL, .long), (cC, .char)] (va_A [(t, .inr (12, MF 13 (tw T))), (T.a0, .inl (cI, T.N, .inl T.kd)), (T.a1, .inl (cL, T.N, .inr (.inl T.nu))), (T.a2, .inl (cI, T.N, .inl T.st)), (T.a3, .inl (cI, T.N, .inl T.ln)), (T.a4, .inl (cI, T.N, .inl T.ki)), (T.a5, .inl (cI, T.N, .inl T.nx)), (T.a6, .inl (cI, T.N, .inl T.ns)), (T.a7, .inl (cI, T.N, .inl T.nl)), (T.a8, .inl (cI, T.N, .inl T.pa)), (T.a9, .inl (cI, T.N, .inl T.pl)), (T.au, .inl (cC, T.U, .inl T.un))] sz.size) t9 ∧ szk sz t9.heap (adC T) (adS T)) (va_A [(t, .inr (12, MF 13 (tw T))), (T.a0, .inl (cI, T.N, .inl T.kd)), (T.a1, .inl (cL, T.N, .inr (.inl T.nu))), (T.a2, .inl (cI, T.N, .inl T.st)), (T.a3, .inl (cI, T.N, .inl T.ln)), (T.a4, .inl (cI, T.N, .inl T.ki)), (T.a5, .inl (cI, T.N, .inl T.nx)), (T.a6, .inl (cI, T.N, .inl T.ns)), (T.a7, .inl (cI, T.N, .inl T.nl)), (T.a8, .inl (cI, T.N, .inl T.pa)), (T.a9, .inl (cI, T.N, .inl T.pl)), (T.au, .inl (cC, T.U, .inl T.un))] sz.size)) (adC T) (adS T) (va_A [(t, .inr (12, MF 13 (tw T))), (T.a0, .inl (cI, T.N, .inl T.kd)), (T.a1, .inl (cL, T.N, .inr (.inl T.nu))), (T.a2, .inl (cI, T.N, .inl T.st)), (T.a3, .inl (cI, T.N, .inl T.ln)), (T.a4, .inl (cI, T.N, .inl T.ki)), (T.a5, .inl (cI, T.N, .inl T.nx)), (T.a6, .inl (cI, T.N, .inl T.ns)), (T.a7, .inl (cI, T.N, .inl T.nl)), (T.a8, .inl (cI, T.N, .inl T.pa)), (T.a9, .inl (cI, T.N, .inl T.pl)), (T.au, .inl (cC, T.U, .inl T.un))] sz.size) := by sorry
end
section
theorem w_1354 : (.methodLink "QueryBenchModel$Tree" 58 ⟨"QueryBenchModel$Tree", "named", "(ILQueryBenchModel$Tree;II)Z"⟩ : Cond) ∈ gtbl := by sorry
theorem w_1355 : (.instanceMethod ⟨"QueryBenchModel$Tree", "named", "(ILQueryBenchModel$Tree;II)Z"⟩ : Cond) ∈ gtbl := by sorry
theorem w_1356 : (.selects "QueryBenchModel$Tree" ⟨"QueryBenchModel$Tree", "named", "(ILQueryBenchModel$Tree;II)Z"⟩ ⟨"QueryBenchModel$Tree", "named", "(ILQueryBenchModel$Tree;II)Z"⟩ : Cond) ∈ gtbl := by sorry
/-- a stretch of units -/
def sl (u : Nat → Int32) (s n : Nat) : List Int32 := (List.range n).map (fun j => u (s + j))
theorem sl_len {u : Nat → Int32} {s n : Nat} : (sl u s n).length = n := by sorry
theorem sl_eq {u v : Nat → Int32} {s r n m : Nat} : sl u s n = sl v r m ↔ n = m ∧ ∀ j, j < n → u (s + j) = v (r + j) := by sorry
/-- the name of a node -/
def nmT (T : TS) (k : Nat) : List Int32 := sl T.un (T.ns k).toNatClampNeg (T.nl k).toNatClampNeg
def nmOK (T : TS) (k : Nat) : Prop := ∃ s1 L1, T.ns k = nI s1 ∧ T.nl k = nI L1 ∧ s1 + L1 ≤ T.us
theorem nmT_eq {T : TS} {k s1 L1 : Nat} (h1 : T.ns k = nI s1) (h2 : T.nl k = nI L1) (hs : s1 < 2 ^ 31) (hl : L1 < 2 ^ 31) : nmT T k = sl T.un s1 L1 := by sorry
abbrev b_Tree_named : ByteArray := prog_15_method_9_code
def y_Tree_named : MethodName := ⟨"QueryBenchModel$Tree", "named", "(ILQueryBenchModel$Tree;II)Z"⟩
abbrev k_Tree_named : Cond := .code y_Tree_named b_Tree_named 6 (some .boolean)
theorem i_Tree_named : k_Tree_named ∈ gtbl := by sorry
theorem d_Tree_named_0 : decode b_Tree_named 0 = .ok (.aload_n 0, 1) := by sorry
theorem d_Tree_named_1 : decode b_Tree_named 1 = .ok (.getfield 34, 3) := by sorry
theorem d_Tree_named_4 : decode b_Tree_named 4 = .ok (.iload_n 1, 1) := by sorry
theorem d_Tree_named_5 : decode b_Tree_named 5 = .ok (.iaload, 1) := by sorry
theorem d_Tree_named_6 : decode b_Tree_named 6 = .ok (.iload 4, 2) := by sorry
theorem d_Tree_named_8 : decode b_Tree_named 8 = .ok (.if_icmp .eq 5, 3) := by sorry
theorem d_Tree_named_11 : decode b_Tree_named 11 = .ok (.iconst 0, 1) := by sorry
theorem d_Tree_named_12 : decode b_Tree_named 12 = .ok (.ireturn, 1) := by sorry
theorem d_Tree_named_13 : decode b_Tree_named 13 = .ok (.iconst 0, 1) := by sorry
theorem d_Tree_named_14 : decode b_Tree_named 14 = .ok (.istore 5, 2) := by sorry
theorem d_Tree_named_16 : decode b_Tree_named 16 = .ok (.iload 5, 2) := by sorry
theorem d_Tree_named_18 : decode b_Tree_named 18 = .ok (.iload 4, 2) := by sorry
theorem d_Tree_named_20 : decode b_Tree_named 20 = .ok (.if_icmp .ge 37, 3) := by sorry
theorem d_Tree_named_23 : decode b_Tree_named 23 = .ok (.aload_n 0, 1) := by sorry
theorem d_Tree_named_24 : decode b_Tree_named 24 = .ok (.getfield 43, 3) := by sorry
theorem d_Tree_named_27 : decode b_Tree_named 27 = .ok (.aload_n 0, 1) := by sorry
theorem d_Tree_named_28 : decode b_Tree_named 28 = .ok (.getfield 31, 3) := by sorry
theorem d_Tree_named_31 : decode b_Tree_named 31 = .ok (.iload_n 1, 1) := by sorry
theorem d_Tree_named_32 : decode b_Tree_named 32 = .ok (.iaload, 1) := by sorry
theorem d_Tree_named_33 : decode b_Tree_named 33 = .ok (.iload 5, 2) := by sorry
theorem d_Tree_named_35 : decode b_Tree_named 35 = .ok (.iadd, 1) := by sorry
theorem d_Tree_named_36 : decode b_Tree_named 36 = .ok (.caload, 1) := by sorry
theorem d_Tree_named_37 : decode b_Tree_named 37 = .ok (.aload_n 2, 1) := by sorry
theorem d_Tree_named_38 : decode b_Tree_named 38 = .ok (.getfield 43, 3) := by sorry
theorem d_Tree_named_41 : decode b_Tree_named 41 = .ok (.iload_n 3, 1) := by sorry
theorem d_Tree_named_42 : decode b_Tree_named 42 = .ok (.iload 5, 2) := by sorry
theorem d_Tree_named_44 : decode b_Tree_named 44 = .ok (.iadd, 1) := by sorry
theorem d_Tree_named_45 : decode b_Tree_named 45 = .ok (.caload, 1) := by sorry
theorem d_Tree_named_46 : decode b_Tree_named 46 = .ok (.if_icmp .eq 5, 3) := by sorry
theorem d_Tree_named_49 : decode b_Tree_named 49 = .ok (.iconst 0, 1) := by sorry
theorem d_Tree_named_50 : decode b_Tree_named 50 = .ok (.ireturn, 1) := by sorry
theorem d_Tree_named_51 : decode b_Tree_named 51 = .ok (.iinc 5 1, 3) := by sorry
theorem d_Tree_named_54 : decode b_Tree_named 54 = .ok (.goto (-38), 3) := by sorry
theorem d_Tree_named_57 : decode b_Tree_named 57 = .ok (.iconst 1, 1) := by sorry
theorem d_Tree_named_58 : decode b_Tree_named 58 = .ok (.ireturn, 1) := by sorry
abbrev b_Tree_find : ByteArray := prog_15_method_10_code
def y_Tree_find : MethodName := ⟨"QueryBenchModel$Tree", "find", "(ILQueryBenchModel$Tree;II)I"⟩
abbrev k_Tree_find : Cond := .code y_Tree_find b_Tree_find 6 (some .int)
theorem i_Tree_find : k_Tree_find ∈ gtbl := by sorry
theorem d_Tree_find_0 : decode b_Tree_find 0 = .ok (.aload_n 0, 1) := by sorry
theorem d_Tree_find_1 : decode b_Tree_find 1 = .ok (.getfield 25, 3) := by sorry
theorem d_Tree_find_4 : decode b_Tree_find 4 = .ok (.iload_n 1, 1) := by sorry
theorem d_Tree_find_5 : decode b_Tree_find 5 = .ok (.iaload, 1) := by sorry
theorem d_Tree_find_6 : decode b_Tree_find 6 = .ok (.istore 5, 2) := by sorry
theorem d_Tree_find_8 : decode b_Tree_find 8 = .ok (.iload 5, 2) := by sorry
theorem d_Tree_find_10 : decode b_Tree_find 10 = .ok (.ifCond .lt 31, 3) := by sorry
theorem d_Tree_find_13 : decode b_Tree_find 13 = .ok (.aload_n 0, 1) := by sorry
theorem d_Tree_find_14 : decode b_Tree_find 14 = .ok (.iload 5, 2) := by sorry
theorem d_Tree_find_16 : decode b_Tree_find 16 = .ok (.aload_n 2, 1) := by sorry
theorem d_Tree_find_17 : decode b_Tree_find 17 = .ok (.iload_n 3, 1) := by sorry
theorem d_Tree_find_18 : decode b_Tree_find 18 = .ok (.iload 4, 2) := by sorry
theorem d_Tree_find_20 : decode b_Tree_find 20 = .ok (.invokevirtual 58, 3) := by sorry
theorem d_Tree_find_23 : decode b_Tree_find 23 = .ok (.ifCond .eq 6, 3) := by sorry
theorem d_Tree_find_26 : decode b_Tree_find 26 = .ok (.iload 5, 2) := by sorry
theorem d_Tree_find_28 : decode b_Tree_find 28 = .ok (.ireturn, 1) := by sorry
theorem d_Tree_find_29 : decode b_Tree_find 29 = .ok (.aload_n 0, 1) := by sorry
theorem d_Tree_find_30 : decode b_Tree_find 30 = .ok (.getfield 28, 3) := by sorry
theorem d_Tree_find_33 : decode b_Tree_find 33 = .ok (.iload 5, 2) := by sorry
theorem d_Tree_find_35 : decode b_Tree_find 35 = .ok (.iaload, 1) := by sorry
theorem d_Tree_find_36 : decode b_Tree_find 36 = .ok (.istore 5, 2) := by sorry
theorem d_Tree_find_38 : decode b_Tree_find 38 = .ok (.goto (-30), 3) := by sorry
theorem d_Tree_find_41 : decode b_Tree_find 41 = .ok (.iconst (-1), 1) := by sorry
theorem d_Tree_find_42 : decode b_Tree_find 42 = .ok (.ireturn, 1) := by sorry
set_option maxHeartbeats 4000000 in
set_option maxRecDepth 100000 in
/-- Tree.named -/
theorem c_Tree_namedS (l : Launch) (dC : Nat → ClassId) (dI : Nat → Nat → Nat) (t : Nat) (sz : Heap) (cI cC : ClassId) (T : TS) (kid s1 L1 s2 L2 : Nat) (hT : TOK T) (hk : kid < T.ct) (hn1 : T.ns kid = nI s1) (hn2 : T.nl kid = nI L1) (hn3 : s1 + L1 ≤ T.us) (hn4 : s2 + L2 ≤ T.us) : Met l y_Tree_named (k_Tree_named :: gtbl) ({ frames := 0, cells := 0, slots := 0, locals := 0 }) (va_Pc [.ref t, .int (nI kid), .ref t, .int (nI s2), .int (nI L2)] (mp dC dI [(t, .inr (12, MF 13 (tw T))), (T.a6, .inl (cI, T.N, .inl T.ns)), (T.a7, .inl (cI, T.N, .inl T.nl)), (T.au, .inl (cC, T.U, .inl T.un))] [(cI, .int), (cC, .char)] sz)) (va_Qi (fun (r : Int32) (_ : Unit) => (r = 1 ∧ sl T.un s1 L1 = sl T.un s2 L2) ∨ (r = 0 ∧ ¬ sl T.un s1 L1 = sl T.un s2 L2)) (fun _ => mz dC dI [(t, .inr (12, MF 13 (tw T))), (T.a6, .inl (cI, T.N, .inl T.ns)), (T.a7, .inl (cI, T.N, .inl T.nl)), (T.au, .inl (cC, T.U, .inl T.un))] [(cI, .int), (cC, .char)] (va_A [(t, .inr (12, MF 13 (tw T))), (T.a6, .inl (cI, T.N, .inl T.ns)), (T.a7, .inl (cI, T.N, .inl T.nl)), (T.au, .inl (cC, T.U, .inl T.un))] sz.size)) (va_A [(t, .inr (12, MF 13 (tw T))), (T.a6, .inl (cI, T.N, .inl T.ns)), (T.a7, .inl (cI, T.N, .inl T.nl)), (T.au, .inl (cC, T.U, .inl T.un))] sz.size)) 0 0 (va_A [(t, .inr (12, MF 13 (tw T))), (T.a6, .inl (cI, T.N, .inl T.ns)), (T.a7, .inl (cI, T.N, .inl T.nl)), (T.au, .inl (cC, T.U, .inl T.un))] sz.size) := by sorry
set_option maxHeartbeats 4000000 in
set_option maxRecDepth 100000 in
/-- Tree.find -/
theorem c_Tree_findS (l : Launch) (dC : Nat → ClassId) (dI : Nat → Nat → Nat) (t : Nat) (sz : Heap) (cI cC : ClassId) (T : TS) (nd s2 L2 : Nat) (ks : List Nat) (hT : TOK T) (hk : nd < T.ct) (hch : chn T.nx T.ct ks (T.ki nd)) (hnm : ∀ a, a ∈ ks → nmOK T a) (hn4 : s2 + L2 ≤ T.us) : Met l y_Tree_find (k_Tree_find :: gtbl) ({ frames := 1, cells := 0, slots := 0, locals := 32 }) (va_Pc [.ref t, .int (nI nd), .ref t, .int (nI s2), .int (nI L2)] (mp dC dI [(t, .inr (12, MF 13 (tw T))), (T.a4, .inl (cI, T.N, .inl T.ki)), (T.a5, .inl (cI, T.N, .inl T.nx)), (T.a6, .inl (cI, T.N, .inl T.ns)), (T.a7, .inl (cI, T.N, .inl T.nl)), (T.au, .inl (cC, T.U, .inl T.un))] [(cI, .int), (cC, .char)] sz)) (va_Qi (fun (r : Int32) (_ : Unit) => (∃ a, a ∈ ks ∧ r = nI a ∧ nmT T a = sl T.un s2 L2) ∨ (r = -1 ∧ ∀ a, a ∈ ks → ¬ nmT T a = sl T.un s2 L2)) (fun _ => mz dC dI [(t, .inr (12, MF 13 (tw T))), (T.a4, .inl (cI, T.N, .inl T.ki)), (T.a5, .inl (cI, T.N, .inl T.nx)), (T.a6, .inl (cI, T.N, .inl T.ns)), (T.a7, .inl (cI, T.N, .inl T.nl)), (T.au, .inl (cC, T.U, .inl T.un))] [(cI, .int), (cC, .char)] (va_A [(t, .inr (12, MF 13 (tw T))), (T.a4, .inl (cI, T.N, .inl T.ki)), (T.a5, .inl (cI, T.N, .inl T.nx)), (T.a6, .inl (cI, T.N, .inl T.ns)), (T.a7, .inl (cI, T.N, .inl T.nl)), (T.au, .inl (cC, T.U, .inl T.un))] sz.size)) (va_A [(t, .inr (12, MF 13 (tw T))), (T.a4, .inl (cI, T.N, .inl T.ki)), (T.a5, .inl (cI, T.N, .inl T.nx)), (T.a6, .inl (cI, T.N, .inl T.ns)), (T.a7, .inl (cI, T.N, .inl T.nl)), (T.au, .inl (cC, T.U, .inl T.un))] sz.size)) 0 0 (va_A [(t, .inr (12, MF 13 (tw T))), (T.a4, .inl (cI, T.N, .inl T.ki)), (T.a5, .inl (cI, T.N, .inl T.nx)), (T.a6, .inl (cI, T.N, .inl T.ns)), (T.a7, .inl (cI, T.N, .inl T.nl)), (T.au, .inl (cC, T.U, .inl T.un))] sz.size) := by sorry
set_option maxHeartbeats 4000000 in
set_option maxRecDepth 100000 in
/-- Tree.named -/
theorem c_Tree_namedO (l : Launch) (dC : Nat → ClassId) (dI : Nat → Nat → Nat) (t tv : Nat) (sz : Heap) (cI cC : ClassId) (T V : TS) (kid s1 L1 s2 L2 : Nat) (hT : TOK T) (hV : TOK V) (hk : kid < T.ct) (hn1 : T.ns kid = nI s1) (hn2 : T.nl kid = nI L1) (hn3 : s1 + L1 ≤ T.us) (hn4 : s2 + L2 ≤ V.us) : Met l y_Tree_named (k_Tree_named :: gtbl) ({ frames := 0, cells := 0, slots := 0, locals := 0 }) (va_Pc [.ref t, .int (nI kid), .ref tv, .int (nI s2), .int (nI L2)] (mp dC dI [(t, .inr (12, MF 13 (tw T))), (T.a6, .inl (cI, T.N, .inl T.ns)), (T.a7, .inl (cI, T.N, .inl T.nl)), (T.au, .inl (cC, T.U, .inl T.un)), (tv, .inr (12, MF 13 (tw V))), (V.au, .inl (cC, V.U, .inl V.un))] [(cI, .int), (cC, .char)] sz)) (va_Qi (fun (r : Int32) (_ : Unit) => (r = 1 ∧ sl T.un s1 L1 = sl V.un s2 L2) ∨ (r = 0 ∧ ¬ sl T.un s1 L1 = sl V.un s2 L2)) (fun _ => mz dC dI [(t, .inr (12, MF 13 (tw T))), (T.a6, .inl (cI, T.N, .inl T.ns)), (T.a7, .inl (cI, T.N, .inl T.nl)), (T.au, .inl (cC, T.U, .inl T.un)), (tv, .inr (12, MF 13 (tw V))), (V.au, .inl (cC, V.U, .inl V.un))] [(cI, .int), (cC, .char)] (va_A [(t, .inr (12, MF 13 (tw T))), (T.a6, .inl (cI, T.N, .inl T.ns)), (T.a7, .inl (cI, T.N, .inl T.nl)), (T.au, .inl (cC, T.U, .inl T.un)), (tv, .inr (12, MF 13 (tw V))), (V.au, .inl (cC, V.U, .inl V.un))] sz.size)) (va_A [(t, .inr (12, MF 13 (tw T))), (T.a6, .inl (cI, T.N, .inl T.ns)), (T.a7, .inl (cI, T.N, .inl T.nl)), (T.au, .inl (cC, T.U, .inl T.un)), (tv, .inr (12, MF 13 (tw V))), (V.au, .inl (cC, V.U, .inl V.un))] sz.size)) 0 0 (va_A [(t, .inr (12, MF 13 (tw T))), (T.a6, .inl (cI, T.N, .inl T.ns)), (T.a7, .inl (cI, T.N, .inl T.nl)), (T.au, .inl (cC, T.U, .inl T.un)), (tv, .inr (12, MF 13 (tw V))), (V.au, .inl (cC, V.U, .inl V.un))] sz.size) := by sorry
set_option maxHeartbeats 4000000 in
set_option maxRecDepth 100000 in
/-- Tree.find -/
theorem c_Tree_findO (l : Launch) (dC : Nat → ClassId) (dI : Nat → Nat → Nat) (t tv : Nat) (sz : Heap) (cI cC : ClassId) (T V : TS) (nd s2 L2 : Nat) (ks : List Nat) (hT : TOK T) (hV : TOK V) (hk : nd < T.ct) (hch : chn T.nx T.ct ks (T.ki nd)) (hnm : ∀ a, a ∈ ks → nmOK T a) (hn4 : s2 + L2 ≤ V.us) : Met l y_Tree_find (k_Tree_find :: gtbl) ({ frames := 1, cells := 0, slots := 0, locals := 32 }) (va_Pc [.ref t, .int (nI nd), .ref tv, .int (nI s2), .int (nI L2)] (mp dC dI [(t, .inr (12, MF 13 (tw T))), (T.a4, .inl (cI, T.N, .inl T.ki)), (T.a5, .inl (cI, T.N, .inl T.nx)), (T.a6, .inl (cI, T.N, .inl T.ns)), (T.a7, .inl (cI, T.N, .inl T.nl)), (T.au, .inl (cC, T.U, .inl T.un)), (tv, .inr (12, MF 13 (tw V))), (V.au, .inl (cC, V.U, .inl V.un))] [(cI, .int), (cC, .char)] sz)) (va_Qi (fun (r : Int32) (_ : Unit) => (∃ a, a ∈ ks ∧ r = nI a ∧ nmT T a = sl V.un s2 L2) ∨ (r = -1 ∧ ∀ a, a ∈ ks → ¬ nmT T a = sl V.un s2 L2)) (fun _ => mz dC dI [(t, .inr (12, MF 13 (tw T))), (T.a4, .inl (cI, T.N, .inl T.ki)), (T.a5, .inl (cI, T.N, .inl T.nx)), (T.a6, .inl (cI, T.N, .inl T.ns)), (T.a7, .inl (cI, T.N, .inl T.nl)), (T.au, .inl (cC, T.U, .inl T.un)), (tv, .inr (12, MF 13 (tw V))), (V.au, .inl (cC, V.U, .inl V.un))] [(cI, .int), (cC, .char)] (va_A [(t, .inr (12, MF 13 (tw T))), (T.a4, .inl (cI, T.N, .inl T.ki)), (T.a5, .inl (cI, T.N, .inl T.nx)), (T.a6, .inl (cI, T.N, .inl T.ns)), (T.a7, .inl (cI, T.N, .inl T.nl)), (T.au, .inl (cC, T.U, .inl T.un)), (tv, .inr (12, MF 13 (tw V))), (V.au, .inl (cC, V.U, .inl V.un))] sz.size)) (va_A [(t, .inr (12, MF 13 (tw T))), (T.a4, .inl (cI, T.N, .inl T.ki)), (T.a5, .inl (cI, T.N, .inl T.nx)), (T.a6, .inl (cI, T.N, .inl T.ns)), (T.a7, .inl (cI, T.N, .inl T.nl)), (T.au, .inl (cC, T.U, .inl T.un)), (tv, .inr (12, MF 13 (tw V))), (V.au, .inl (cC, V.U, .inl V.un))] sz.size)) 0 0 (va_A [(t, .inr (12, MF 13 (tw T))), (T.a4, .inl (cI, T.N, .inl T.ki)), (T.a5, .inl (cI, T.N, .inl T.nx)), (T.a6, .inl (cI, T.N, .inl T.ns)), (T.a7, .inl (cI, T.N, .inl T.nl)), (T.au, .inl (cC, T.U, .inl T.un)), (tv, .inr (12, MF 13 (tw V))), (V.au, .inl (cC, V.U, .inl V.un))] sz.size) := by sorry
end
section
/-- the reference's texts: the place of each in its class, its letters -/
def mstrs : List (Nat × String × List Int32) := [(169, "bfnrt", [98, 102, 110, 114, 116]), (187, "null", [110, 117, 108, 108]), (189, "true", [116, 114, 117, 101]), (191, "false", [102, 97, 108, 115, 101]), (244, "btnfr", [98, 116, 110, 102, 114]), (246, "\\u", [92, 117]), (251, "0123456789abcdef", [48, 49, 50, 51, 52, 53, 54, 55, 56, 57, 97, 98, 99, 100, 101, 102]), (310, "||", [124, 124]), (315, "&&", [38, 38]), (334, "==", [61, 61]), (336, "!=", [33, 61]), (338, "length", [108, 101, 110, 103, 116, 104]), (339, "count", [99, 111, 117, 110, 116]), (341, "value", [118, 97, 108, 117, 101])]
def mtx (k : Nat) (j : Nat) : Int32 := ((mstrs.getD k (0, "", [])).2.2).getD j 0
def ME (K : Nat → Nat × Nat) (A : Nat → Prop) (U : State) (H : Heap) : Prop := ∀ (k : Nat) (x : Nat × String × List Int32), mstrs[k]? = some x → SX (K k).1 (K k).2 x.2.2.length (mtx k) A U H ∧ vk_R "QueryBenchModel" x.1 x.2.1 (K k).1 U
theorem ME.call {K : Nat → Nat × Nat} {A B : Nat → Prop} {s U : State} {H : Heap} (h : ME K A s s.heap) (hq : ∀ a : Nat, a < s.heap.size → ¬ A a → H[a]? = s.heap[a]?) (hF : ∀ q, B q → A q) (hW : s.WarmedH U.vm) : ME K B U H := by sorry
abbrev me (K : Nat → Nat × Nat) (dC : Nat → ClassId) (dI : Nat → Nat → Nat) (ws : va_W) (tys : List (ClassId × FieldType)) (sz : Heap) (U : State) : Prop := mp dC dI ws tys sz U ∧ ME K (va_A ws sz.size) U U.heap
theorem me_blind {K : Nat → Nat × Nat} {dC : Nat → ClassId} {dI : Nat → Nat → Nat} {ws : va_W} {tys : List (ClassId × FieldType)} {sz : Heap} {vs : List Value} : FrameBlind (va_Pc vs (me K dC dI ws tys sz)) := by sorry
/-- where the reference reads, and where it broke -/
def rf (v : Nat → Value) (i : Nat) (br : Int32) : Nat → Value := va_up (va_up v 7 (.int (nI i))) 9 (.int br)
theorem rf_u7 {v : Nat → Value} {i j : Nat} {br : Int32} : va_up (rf v i br) 7 (.int (nI j)) = rf v j br := by sorry
theorem rf_u9 {v : Nat → Value} {i : Nat} {br b2 : Int32} : va_up (rf v i br) 9 (.int b2) = rf v i b2 := by sorry
theorem rf_ne {v : Nat → Value} {i j : Nat} {br : Int32} (h1 : j ≠ 7) (h2 : j ≠ 9) : rf v i br j = v j := by sorry
theorem rf_7 {v : Nat → Value} {i : Nat} {br : Int32} : rf v i br 7 = .int (nI i) := by sorry
theorem rf_9 {v : Nat → Value} {i : Nat} {br : Int32} : rf v i br 9 = .int br := by sorry
theorem rf_fail {v : Nat → Value} {i : Nat} {br b2 wh : Int32} : ∃ b3, mfail (rf v i br) b2 wh = rf v i b3 := by sorry
/-- a loop, with what has come to the heap -/
theorem w_loopH {p : Program} {l : Launch} {e : Env} {R : Room} {s : State} {m : MethodId} {args : Array Value} {below : List Frame} {meth : Method} {c : Code} {Q : State → Prop} {cells slots nL : Nat} {A : Nat → Prop} {H0 : Heap} {D : va_G} {cl : List vw_C} (pc : Nat) {σ : Type} (Inv : σ → Heap → Prop) (ms : σ → Nat) (ws : σ → va_W) (lv : σ → List (Nat × Value))
    (step : ∀ (x : σ) (H : Heap) (locs : List Loc) (ls : Array Slot), Inv x H → (∀ (y : σ) (H : Heap) (locs : List Loc) (ls : Array Slot), Inv y H → ms y < ms x → va_P D cl (ws y) H → va_D A (ws y) → va_S A H0 H locs → lv_has ls nL (lv y) → W p l e R s m args below meth c H locs cells slots Q (F0 m pc ls [])) → va_P D cl (ws x) H → va_D A (ws x) → va_S A H0 H locs → lv_has ls nL (lv x) → W p l e R s m args below meth c H locs cells slots Q (F0 m pc ls []))
    (x : σ) {H : Heap} {locs : List Loc} {ls : Array Slot} (h : Inv x H) (hP : va_P D cl (ws x) H) (hD : va_D A (ws x)) (hS : va_S A H0 H locs) (hl : lv_has ls nL (lv x)) : W p l e R s m args below meth c H locs cells slots Q (F0 m pc ls []) := by sorry
abbrev c16 (x : Int32) : Int32 := (x.toUInt32 % 65536).toInt32
/-- T2 is T with these units more -/
def TX (T T2 : TS) (us : List Int32) : Prop := ∃ (U a : Nat) (g : Nat → Int32), T2 = TS.wU T U a g (T.us + us.length) ∧ (∀ j, j < T.us → g j = T.un j) ∧ (∀ j, j < us.length → g (T.us + j) = c16 (us.getD j 0)) ∧ chOK g ∧ T.us + us.length ≤ U ∧ T.U ≤ U ∧ (U = T.U ∨ U ≤ 2 * (T.us + us.length))
theorem TX.rf {T : TS} (h : TOK T) : TX T T [] := by sorry
theorem TX.trans {T T2 T3 : TS} {us vs : List Int32} (h1 : TX T T2 us) (h2 : TX T2 T3 vs) : TX T T3 (us ++ vs) := by sorry
theorem TX.ok {T T2 : TS} {us : List Int32} (h : TOK T) (h1 : TX T T2 us) (hb : T.us + us.length ≤ 500000) : TOK T2 := by sorry
theorem TX.us {T T2 : TS} {us : List Int32} (h1 : TX T T2 us) : T2.us = T.us + us.length := by sorry
theorem TX.U {T T2 : TS} {us : List Int32} (h1 : TX T T2 us) : T.U ≤ T2.U ∧ (T2.U = T.U ∨ T2.U ≤ 2 * (T.us + us.length)) := by sorry
theorem tw_unit {T : TS} {u : Nat × (Nat → Value)} {k : Nat} {U : Nat} {g : Nat → Int32} (h1 : u.2 11 = .ref u.1) (h2 : u.2 12 = .int (nI k)) (h3 : ∀ j, j ≠ 11 → j ≠ 12 → u.2 j = tw T j) : u.2 = tw (TS.wU T U u.1 g k) := by sorry
set_option maxHeartbeats 4000000 in
set_option maxRecDepth 100000 in
/-- Tree.unit, in the tree's words -/
theorem c_Tree_unitT (l : Launch) (dC : Nat → ClassId) (dI : Nat → Nat → Nat) (t : Nat) (sz : Heap) (cC : ClassId) (T : TS) (x : Int32) (hT : TOK T) : Met l y_Tree_unit (k_Tree_unit :: gtbl) ({ frames := 0, cells := grC T.U T.us, slots := grS T.U T.us, locals := 0 }) (va_Pc [.ref t, .int x] (mp dC dI [(t, .inr (12, MF 13 (tw T))), (T.au, .inl (cC, T.U, .inl T.un))] [(cC, .char)] sz)) (va_Qv (fun (T2 : TS) => TX T T2 [x]) (fun T2 t9 => mz dC dI [(t, .inr (12, MF 13 (tw T2))), (T2.au, .inl (cC, T2.U, .inl T2.un))] [(cC, .char)] (va_A [(t, .inr (12, MF 13 (tw T))), (T.au, .inl (cC, T.U, .inl T.un))] sz.size) t9 ∧ szk sz t9.heap (T2.U - T.U) (2 * (T2.U - T.U))) (va_A [(t, .inr (12, MF 13 (tw T))), (T.au, .inl (cC, T.U, .inl T.un))] sz.size)) (grC T.U T.us) (grS T.U T.us) (va_A [(t, .inr (12, MF 13 (tw T))), (T.au, .inl (cC, T.U, .inl T.un))] sz.size) := by sorry
/-- what an escape says (or -1), and where it ends -/
def escM (f : Nat → Int32) (n : Nat) (q : Int32) (i : Nat) : Int32 × Nat :=
  if hereV f n (i + 1) = q ∨ hereV f n (i + 1) = 92 ∨ hereV f n (i + 1) = 47 then (hereV f n (i + 1), i + 2) else if ¬ bfI (hereV f n (i + 1)) < 0 then (ixV (bfI (hereV f n (i + 1))), i + 2) else if hereV f n (i + 1) = 117 then hexM f n 4 (i + 2) 0 else (-1, i + 2)
theorem hexM_at (f : Nat → Int32) (n : Nat) : ∀ (k j : Nat) (a : Int32), j ≤ (hexM f n k j a).2 ∧ (hexM f n k j a).2 ≤ j + k := by sorry
theorem escM_at (f : Nat → Int32) (n : Nat) (q : Int32) (i : Nat) : i + 2 ≤ (escM f n q i).2 ∧ (escM f n q i).2 ≤ i + 6 := by sorry
set_option maxHeartbeats 4000000 in
set_option maxRecDepth 100000 in
/-- the reference: escaped, in the reader's words -/
theorem c_Mo_escR (l : Launch) (dC : Nat → ClassId) (dI : Nat → Nat → Nat) (mo : Nat) (sz : Heap) (v : Nat → Value) (cB : ClassId) (qx NN : Nat) (f : Nat → Int32) (n : Nat) (sa av : Nat) (i : Nat) (hnN : n ≤ NN) (hNN : NN ≤ 1000000) (hi0 : i ≤ 800000) (h6 : v 6 = .ref qx) (h8 : v 8 = .int (nI n)) (br : Int32) (q : Int32) : Met l y_Mo_escaped (k_Mo_escaped :: gtbl) ({ frames := 4, cells := 0, slots := 0, locals := 110 }) (va_Pc [.ref mo, .int q] (mbf sa av dC dI [(mo, .inr (13, MF 30 (rf v i br))), (qx, .inl (cB, NN, .inl f))] [(cB, .byte)] sz)) (va_Qi (fun (r : Int32) (u : Int32) => r = (escM f n q i).1) (fun u => mz dC dI [(mo, .inr (13, MF 30 (rf v (escM f n q i).2 u))), (qx, .inl (cB, NN, .inl f))] [(cB, .byte)] (va_A [(mo, .inr (13, MF 30 (rf v i br))), (qx, .inl (cB, NN, .inl f))] sz.size)) (va_A [(mo, .inr (13, MF 30 (rf v i br))), (qx, .inl (cB, NN, .inl f))] sz.size)) 0 0 (va_A [(mo, .inr (13, MF 30 (rf v i br))), (qx, .inl (cB, NN, .inl f))] sz.size) := by sorry
end
section
theorem w_1265 : (.methodLink "QueryBenchModel" 177 ⟨"QueryBenchModel$Tree", "unit", "(I)V"⟩ : Cond) ∈ gtbl := by sorry
theorem w_1266 : (.instanceMethod ⟨"QueryBenchModel$Tree", "unit", "(I)V"⟩ : Cond) ∈ gtbl := by sorry
theorem w_1267 : (.selects "QueryBenchModel$Tree" ⟨"QueryBenchModel$Tree", "unit", "(I)V"⟩ ⟨"QueryBenchModel$Tree", "unit", "(I)V"⟩ : Cond) ∈ gtbl := by sorry
theorem w_1269 : (.methodLink "QueryBenchModel" 180 ⟨"QueryBenchModel", "escaped", "(I)I"⟩ : Cond) ∈ gtbl := by sorry
theorem w_1271 : (.instanceMethod ⟨"QueryBenchModel", "escaped", "(I)I"⟩ : Cond) ∈ gtbl := by sorry
theorem w_1335 : (.constant "QueryBenchModel" 102 56320 : Cond) ∈ gtbl := by sorry
theorem w_1336 : (.constant "QueryBenchModel" 183 57343 : Cond) ∈ gtbl := by sorry
theorem w_1337 : (.constant "QueryBenchModel" 99 55296 : Cond) ∈ gtbl := by sorry
theorem w_1338 : (.constant "QueryBenchModel" 100 56319 : Cond) ∈ gtbl := by sorry
/-- the units up to the quote, as the reference goes, and where it is then -/
def qtM (f : Nat → Int32) (n : Nat) (q : Int32) : Nat → Nat → List Int32 → Option (List Int32 × Nat)
  | 0, _, _ => none
  | k + 1, i, us =>
    if hereV f n i = q then some (us, i + 1)
    else if hereV f n i < 32 ∨ ¬ hereV f n i ≤ 126 then none
    else if ¬ hereV f n i = 92 then qtM f n q k (i + 1) (us ++ [hereV f n i])
    else if ¬ 0 ≤ (escM f n q i).1 then none
    else if ¬ (escM f n q i).1 < 56320 ∧ ¬ 57343 < (escM f n q i).1 then none
    else if (escM f n q i).1 < 55296 ∨ ¬ (escM f n q i).1 ≤ 56319 then qtM f n q k (escM f n q i).2 (us ++ [(escM f n q i).1])
    else if ¬ (escM f n q i).2 < n then none
    else if ¬ hereV f n (escM f n q i).2 = 92 then none
    else if ¬ (escM f n q i).2 + 1 < n then none
    else if ¬ f ((escM f n q i).2 + 1) = 117 then none
    else if ¬ 0 ≤ (escM f n q (escM f n q i).2).1 then none
    else if (escM f n q (escM f n q i).2).1 < 56320 ∨ ¬ (escM f n q (escM f n q i).2).1 ≤ 57343 then none
    else qtM f n q k (escM f n q (escM f n q i).2).2 (us ++ [(escM f n q i).1] ++ [(escM f n q (escM f n q i).2).1])
def qtQ (f : Nat → Int32) (n : Nat) (q : Int32) (i : Nat) : Option (List Int32 × Nat) := if hereV f n i = q then qtM f n q (n + 13) (i + 1) [] else none
def qcap (T : TS) (B : Nat) : Nat := max T.U (2 * B) - T.U
theorem q_fit {T Tc : TS} {us : List Int32} (h : TX T Tc us) (hT : TOK T) {B : Nat} (hB : T.us + us.length + 1 ≤ B) : (Tc.U - T.U) + grC Tc.U Tc.us ≤ qcap T B ∧ 2 * (Tc.U - T.U) + grS Tc.U Tc.us ≤ 2 * qcap T B := by sorry
theorem q_cap {T Tc : TS} {us : List Int32} (h : TX T Tc us) {B : Nat} (hB : T.us + us.length ≤ B) : Tc.U - T.U ≤ qcap T B := by sorry
theorem here_l32 {f : Nat → Int32} {n i : Nat} (h : ¬ hereV f n i < 32) : i < n := by sorry
abbrev b_Mo_quoted : ByteArray := prog_14_method_21_code
def y_Mo_quoted : MethodName := ⟨"QueryBenchModel", "quoted", "(ILQueryBenchModel$Tree;)Z"⟩
abbrev k_Mo_quoted : Cond := .code y_Mo_quoted b_Mo_quoted 7 (some .boolean)
theorem i_Mo_quoted : k_Mo_quoted ∈ gtbl := by sorry
theorem d_Mo_quoted_0 : decode b_Mo_quoted 0 = .ok (.aload_n 0, 1) := by sorry
theorem d_Mo_quoted_1 : decode b_Mo_quoted 1 = .ok (.iload_n 1, 1) := by sorry
theorem d_Mo_quoted_2 : decode b_Mo_quoted 2 = .ok (.invokevirtual 163, 3) := by sorry
theorem d_Mo_quoted_5 : decode b_Mo_quoted 5 = .ok (.ifCond .ne 5, 3) := by sorry
theorem d_Mo_quoted_8 : decode b_Mo_quoted 8 = .ok (.iconst 0, 1) := by sorry
theorem d_Mo_quoted_9 : decode b_Mo_quoted 9 = .ok (.ireturn, 1) := by sorry
theorem d_Mo_quoted_10 : decode b_Mo_quoted 10 = .ok (.aload_n 0, 1) := by sorry
theorem d_Mo_quoted_11 : decode b_Mo_quoted 11 = .ok (.invokevirtual 147, 3) := by sorry
theorem d_Mo_quoted_14 : decode b_Mo_quoted 14 = .ok (.iload_n 1, 1) := by sorry
theorem d_Mo_quoted_15 : decode b_Mo_quoted 15 = .ok (.if_icmp .eq 276, 3) := by sorry
theorem d_Mo_quoted_18 : decode b_Mo_quoted 18 = .ok (.aload_n 0, 1) := by sorry
theorem d_Mo_quoted_19 : decode b_Mo_quoted 19 = .ok (.getfield 135, 3) := by sorry
theorem d_Mo_quoted_22 : decode b_Mo_quoted 22 = .ok (.istore_n 3, 1) := by sorry
theorem d_Mo_quoted_23 : decode b_Mo_quoted 23 = .ok (.aload_n 0, 1) := by sorry
theorem d_Mo_quoted_24 : decode b_Mo_quoted 24 = .ok (.invokevirtual 147, 3) := by sorry
theorem d_Mo_quoted_27 : decode b_Mo_quoted 27 = .ok (.istore 4, 2) := by sorry
theorem d_Mo_quoted_29 : decode b_Mo_quoted 29 = .ok (.iload 4, 2) := by sorry
theorem d_Mo_quoted_31 : decode b_Mo_quoted 31 = .ok (.bipush 32, 2) := by sorry
theorem d_Mo_quoted_33 : decode b_Mo_quoted 33 = .ok (.if_icmp .lt 10, 3) := by sorry
theorem d_Mo_quoted_36 : decode b_Mo_quoted 36 = .ok (.iload 4, 2) := by sorry
theorem d_Mo_quoted_38 : decode b_Mo_quoted 38 = .ok (.bipush 126, 2) := by sorry
theorem d_Mo_quoted_40 : decode b_Mo_quoted 40 = .ok (.if_icmp .le 30, 3) := by sorry
theorem d_Mo_quoted_43 : decode b_Mo_quoted 43 = .ok (.aload_n 0, 1) := by sorry
theorem d_Mo_quoted_44 : decode b_Mo_quoted 44 = .ok (.aload_n 0, 1) := by sorry
theorem d_Mo_quoted_45 : decode b_Mo_quoted 45 = .ok (.getfield 135, 3) := by sorry
theorem d_Mo_quoted_48 : decode b_Mo_quoted 48 = .ok (.aload_n 0, 1) := by sorry
theorem d_Mo_quoted_49 : decode b_Mo_quoted 49 = .ok (.getfield 138, 3) := by sorry
theorem d_Mo_quoted_52 : decode b_Mo_quoted 52 = .ok (.if_icmp .lt 10, 3) := by sorry
theorem d_Mo_quoted_55 : decode b_Mo_quoted 55 = .ok (.aload_n 0, 1) := by sorry
theorem d_Mo_quoted_56 : decode b_Mo_quoted 56 = .ok (.getfield 138, 3) := by sorry
theorem d_Mo_quoted_59 : decode b_Mo_quoted 59 = .ok (.goto 7, 3) := by sorry
theorem d_Mo_quoted_62 : decode b_Mo_quoted 62 = .ok (.aload_n 0, 1) := by sorry
theorem d_Mo_quoted_63 : decode b_Mo_quoted 63 = .ok (.getfield 135, 3) := by sorry
theorem d_Mo_quoted_66 : decode b_Mo_quoted 66 = .ok (.invokevirtual 151, 3) := by sorry
theorem d_Mo_quoted_69 : decode b_Mo_quoted 69 = .ok (.ireturn, 1) := by sorry
theorem d_Mo_quoted_70 : decode b_Mo_quoted 70 = .ok (.iload 4, 2) := by sorry
theorem d_Mo_quoted_72 : decode b_Mo_quoted 72 = .ok (.bipush 92, 2) := by sorry
theorem d_Mo_quoted_74 : decode b_Mo_quoted 74 = .ok (.if_icmp .eq 22, 3) := by sorry
theorem d_Mo_quoted_77 : decode b_Mo_quoted 77 = .ok (.aload_n 2, 1) := by sorry
theorem d_Mo_quoted_78 : decode b_Mo_quoted 78 = .ok (.iload 4, 2) := by sorry
theorem d_Mo_quoted_80 : decode b_Mo_quoted 80 = .ok (.invokevirtual 177, 3) := by sorry
theorem d_Mo_quoted_83 : decode b_Mo_quoted 83 = .ok (.aload_n 0, 1) := by sorry
theorem d_Mo_quoted_84 : decode b_Mo_quoted 84 = .ok (.dup, 1) := by sorry
theorem d_Mo_quoted_85 : decode b_Mo_quoted 85 = .ok (.getfield 135, 3) := by sorry
theorem d_Mo_quoted_88 : decode b_Mo_quoted 88 = .ok (.iconst 1, 1) := by sorry
theorem d_Mo_quoted_89 : decode b_Mo_quoted 89 = .ok (.iadd, 1) := by sorry
theorem d_Mo_quoted_90 : decode b_Mo_quoted 90 = .ok (.putfield 135, 3) := by sorry
theorem d_Mo_quoted_93 : decode b_Mo_quoted 93 = .ok (.goto (-83), 3) := by sorry
theorem d_Mo_quoted_96 : decode b_Mo_quoted 96 = .ok (.aload_n 0, 1) := by sorry
theorem d_Mo_quoted_97 : decode b_Mo_quoted 97 = .ok (.iload_n 1, 1) := by sorry
theorem d_Mo_quoted_98 : decode b_Mo_quoted 98 = .ok (.invokevirtual 180, 3) := by sorry
theorem d_Mo_quoted_101 : decode b_Mo_quoted 101 = .ok (.istore 5, 2) := by sorry
theorem d_Mo_quoted_103 : decode b_Mo_quoted 103 = .ok (.iload 5, 2) := by sorry
theorem d_Mo_quoted_105 : decode b_Mo_quoted 105 = .ok (.ifCond .ge 5, 3) := by sorry
theorem d_Mo_quoted_108 : decode b_Mo_quoted 108 = .ok (.iconst 0, 1) := by sorry
theorem d_Mo_quoted_109 : decode b_Mo_quoted 109 = .ok (.ireturn, 1) := by sorry
theorem d_Mo_quoted_110 : decode b_Mo_quoted 110 = .ok (.iload 5, 2) := by sorry
theorem d_Mo_quoted_112 : decode b_Mo_quoted 112 = .ok (.ldc 102, 2) := by sorry
theorem d_Mo_quoted_114 : decode b_Mo_quoted 114 = .ok (.if_icmp .lt 16, 3) := by sorry
theorem d_Mo_quoted_117 : decode b_Mo_quoted 117 = .ok (.iload 5, 2) := by sorry
theorem d_Mo_quoted_119 : decode b_Mo_quoted 119 = .ok (.ldc 183, 2) := by sorry
theorem d_Mo_quoted_121 : decode b_Mo_quoted 121 = .ok (.if_icmp .gt 9, 3) := by sorry
theorem d_Mo_quoted_124 : decode b_Mo_quoted 124 = .ok (.aload_n 0, 1) := by sorry
theorem d_Mo_quoted_125 : decode b_Mo_quoted 125 = .ok (.iload_n 3, 1) := by sorry
theorem d_Mo_quoted_126 : decode b_Mo_quoted 126 = .ok (.invokevirtual 151, 3) := by sorry
theorem d_Mo_quoted_129 : decode b_Mo_quoted 129 = .ok (.ireturn, 1) := by sorry
theorem d_Mo_quoted_130 : decode b_Mo_quoted 130 = .ok (.aload_n 2, 1) := by sorry
theorem d_Mo_quoted_131 : decode b_Mo_quoted 131 = .ok (.iload 5, 2) := by sorry
theorem d_Mo_quoted_133 : decode b_Mo_quoted 133 = .ok (.invokevirtual 177, 3) := by sorry
theorem d_Mo_quoted_136 : decode b_Mo_quoted 136 = .ok (.iload 5, 2) := by sorry
theorem d_Mo_quoted_138 : decode b_Mo_quoted 138 = .ok (.ldc 99, 2) := by sorry
theorem d_Mo_quoted_140 : decode b_Mo_quoted 140 = .ok (.if_icmp .lt (-130), 3) := by sorry
theorem d_Mo_quoted_143 : decode b_Mo_quoted 143 = .ok (.iload 5, 2) := by sorry
theorem d_Mo_quoted_145 : decode b_Mo_quoted 145 = .ok (.ldc 100, 2) := by sorry
theorem d_Mo_quoted_147 : decode b_Mo_quoted 147 = .ok (.if_icmp .le 6, 3) := by sorry
theorem d_Mo_quoted_150 : decode b_Mo_quoted 150 = .ok (.goto (-140), 3) := by sorry
theorem d_Mo_quoted_153 : decode b_Mo_quoted 153 = .ok (.aload_n 0, 1) := by sorry
theorem d_Mo_quoted_154 : decode b_Mo_quoted 154 = .ok (.getfield 135, 3) := by sorry
theorem d_Mo_quoted_157 : decode b_Mo_quoted 157 = .ok (.aload_n 0, 1) := by sorry
theorem d_Mo_quoted_158 : decode b_Mo_quoted 158 = .ok (.getfield 138, 3) := by sorry
theorem d_Mo_quoted_161 : decode b_Mo_quoted 161 = .ok (.if_icmp .lt 12, 3) := by sorry
theorem d_Mo_quoted_164 : decode b_Mo_quoted 164 = .ok (.aload_n 0, 1) := by sorry
theorem d_Mo_quoted_165 : decode b_Mo_quoted 165 = .ok (.aload_n 0, 1) := by sorry
theorem d_Mo_quoted_166 : decode b_Mo_quoted 166 = .ok (.getfield 138, 3) := by sorry
theorem d_Mo_quoted_169 : decode b_Mo_quoted 169 = .ok (.invokevirtual 151, 3) := by sorry
theorem d_Mo_quoted_172 : decode b_Mo_quoted 172 = .ok (.ireturn, 1) := by sorry
theorem d_Mo_quoted_173 : decode b_Mo_quoted 173 = .ok (.aload_n 0, 1) := by sorry
theorem d_Mo_quoted_174 : decode b_Mo_quoted 174 = .ok (.invokevirtual 147, 3) := by sorry
theorem d_Mo_quoted_177 : decode b_Mo_quoted 177 = .ok (.bipush 92, 2) := by sorry
theorem d_Mo_quoted_179 : decode b_Mo_quoted 179 = .ok (.if_icmp .eq 9, 3) := by sorry
theorem d_Mo_quoted_182 : decode b_Mo_quoted 182 = .ok (.aload_n 0, 1) := by sorry
theorem d_Mo_quoted_183 : decode b_Mo_quoted 183 = .ok (.iload_n 3, 1) := by sorry
theorem d_Mo_quoted_184 : decode b_Mo_quoted 184 = .ok (.invokevirtual 151, 3) := by sorry
theorem d_Mo_quoted_187 : decode b_Mo_quoted 187 = .ok (.ireturn, 1) := by sorry
theorem d_Mo_quoted_188 : decode b_Mo_quoted 188 = .ok (.aload_n 0, 1) := by sorry
theorem d_Mo_quoted_189 : decode b_Mo_quoted 189 = .ok (.getfield 135, 3) := by sorry
theorem d_Mo_quoted_192 : decode b_Mo_quoted 192 = .ok (.iconst 1, 1) := by sorry
theorem d_Mo_quoted_193 : decode b_Mo_quoted 193 = .ok (.iadd, 1) := by sorry
theorem d_Mo_quoted_194 : decode b_Mo_quoted 194 = .ok (.aload_n 0, 1) := by sorry
theorem d_Mo_quoted_195 : decode b_Mo_quoted 195 = .ok (.getfield 138, 3) := by sorry
theorem d_Mo_quoted_198 : decode b_Mo_quoted 198 = .ok (.if_icmp .lt 12, 3) := by sorry
theorem d_Mo_quoted_201 : decode b_Mo_quoted 201 = .ok (.aload_n 0, 1) := by sorry
theorem d_Mo_quoted_202 : decode b_Mo_quoted 202 = .ok (.aload_n 0, 1) := by sorry
theorem d_Mo_quoted_203 : decode b_Mo_quoted 203 = .ok (.getfield 138, 3) := by sorry
theorem d_Mo_quoted_206 : decode b_Mo_quoted 206 = .ok (.invokevirtual 151, 3) := by sorry
theorem d_Mo_quoted_209 : decode b_Mo_quoted 209 = .ok (.ireturn, 1) := by sorry
theorem d_Mo_quoted_210 : decode b_Mo_quoted 210 = .ok (.aload_n 0, 1) := by sorry
theorem d_Mo_quoted_211 : decode b_Mo_quoted 211 = .ok (.getfield 141, 3) := by sorry
theorem d_Mo_quoted_214 : decode b_Mo_quoted 214 = .ok (.aload_n 0, 1) := by sorry
theorem d_Mo_quoted_215 : decode b_Mo_quoted 215 = .ok (.getfield 135, 3) := by sorry
theorem d_Mo_quoted_218 : decode b_Mo_quoted 218 = .ok (.iconst 1, 1) := by sorry
theorem d_Mo_quoted_219 : decode b_Mo_quoted 219 = .ok (.iadd, 1) := by sorry
theorem d_Mo_quoted_220 : decode b_Mo_quoted 220 = .ok (.baload, 1) := by sorry
theorem d_Mo_quoted_221 : decode b_Mo_quoted 221 = .ok (.bipush 117, 2) := by sorry
theorem d_Mo_quoted_223 : decode b_Mo_quoted 223 = .ok (.if_icmp .eq 9, 3) := by sorry
theorem d_Mo_quoted_226 : decode b_Mo_quoted 226 = .ok (.aload_n 0, 1) := by sorry
theorem d_Mo_quoted_227 : decode b_Mo_quoted 227 = .ok (.iload_n 3, 1) := by sorry
theorem d_Mo_quoted_228 : decode b_Mo_quoted 228 = .ok (.invokevirtual 151, 3) := by sorry
theorem d_Mo_quoted_231 : decode b_Mo_quoted 231 = .ok (.ireturn, 1) := by sorry
theorem d_Mo_quoted_232 : decode b_Mo_quoted 232 = .ok (.aload_n 0, 1) := by sorry
theorem d_Mo_quoted_233 : decode b_Mo_quoted 233 = .ok (.iload_n 1, 1) := by sorry
theorem d_Mo_quoted_234 : decode b_Mo_quoted 234 = .ok (.invokevirtual 180, 3) := by sorry
theorem d_Mo_quoted_237 : decode b_Mo_quoted 237 = .ok (.istore 6, 2) := by sorry
theorem d_Mo_quoted_239 : decode b_Mo_quoted 239 = .ok (.iload 6, 2) := by sorry
theorem d_Mo_quoted_241 : decode b_Mo_quoted 241 = .ok (.ifCond .ge 21, 3) := by sorry
theorem d_Mo_quoted_244 : decode b_Mo_quoted 244 = .ok (.aload_n 0, 1) := by sorry
theorem d_Mo_quoted_245 : decode b_Mo_quoted 245 = .ok (.getfield 144, 3) := by sorry
theorem d_Mo_quoted_248 : decode b_Mo_quoted 248 = .ok (.aload_n 0, 1) := by sorry
theorem d_Mo_quoted_249 : decode b_Mo_quoted 249 = .ok (.getfield 138, 3) := by sorry
theorem d_Mo_quoted_252 : decode b_Mo_quoted 252 = .ok (.if_icmp .ge 8, 3) := by sorry
theorem d_Mo_quoted_255 : decode b_Mo_quoted 255 = .ok (.aload_n 0, 1) := by sorry
theorem d_Mo_quoted_256 : decode b_Mo_quoted 256 = .ok (.iload_n 3, 1) := by sorry
theorem d_Mo_quoted_257 : decode b_Mo_quoted 257 = .ok (.putfield 144, 3) := by sorry
theorem d_Mo_quoted_260 : decode b_Mo_quoted 260 = .ok (.iconst 0, 1) := by sorry
theorem d_Mo_quoted_261 : decode b_Mo_quoted 261 = .ok (.ireturn, 1) := by sorry
theorem d_Mo_quoted_262 : decode b_Mo_quoted 262 = .ok (.iload 6, 2) := by sorry
theorem d_Mo_quoted_264 : decode b_Mo_quoted 264 = .ok (.ldc 102, 2) := by sorry
theorem d_Mo_quoted_266 : decode b_Mo_quoted 266 = .ok (.if_icmp .lt 10, 3) := by sorry
theorem d_Mo_quoted_269 : decode b_Mo_quoted 269 = .ok (.iload 6, 2) := by sorry
theorem d_Mo_quoted_271 : decode b_Mo_quoted 271 = .ok (.ldc 183, 2) := by sorry
theorem d_Mo_quoted_273 : decode b_Mo_quoted 273 = .ok (.if_icmp .le 9, 3) := by sorry
theorem d_Mo_quoted_276 : decode b_Mo_quoted 276 = .ok (.aload_n 0, 1) := by sorry
theorem d_Mo_quoted_277 : decode b_Mo_quoted 277 = .ok (.iload_n 3, 1) := by sorry
theorem d_Mo_quoted_278 : decode b_Mo_quoted 278 = .ok (.invokevirtual 151, 3) := by sorry
theorem d_Mo_quoted_281 : decode b_Mo_quoted 281 = .ok (.ireturn, 1) := by sorry
theorem d_Mo_quoted_282 : decode b_Mo_quoted 282 = .ok (.aload_n 2, 1) := by sorry
theorem d_Mo_quoted_283 : decode b_Mo_quoted 283 = .ok (.iload 6, 2) := by sorry
theorem d_Mo_quoted_285 : decode b_Mo_quoted 285 = .ok (.invokevirtual 177, 3) := by sorry
theorem d_Mo_quoted_288 : decode b_Mo_quoted 288 = .ok (.goto (-278), 3) := by sorry
theorem d_Mo_quoted_291 : decode b_Mo_quoted 291 = .ok (.aload_n 0, 1) := by sorry
theorem d_Mo_quoted_292 : decode b_Mo_quoted 292 = .ok (.dup, 1) := by sorry
theorem d_Mo_quoted_293 : decode b_Mo_quoted 293 = .ok (.getfield 135, 3) := by sorry
theorem d_Mo_quoted_296 : decode b_Mo_quoted 296 = .ok (.iconst 1, 1) := by sorry
theorem d_Mo_quoted_297 : decode b_Mo_quoted 297 = .ok (.iadd, 1) := by sorry
theorem d_Mo_quoted_298 : decode b_Mo_quoted 298 = .ok (.putfield 135, 3) := by sorry
theorem d_Mo_quoted_301 : decode b_Mo_quoted 301 = .ok (.iconst 1, 1) := by sorry
theorem d_Mo_quoted_302 : decode b_Mo_quoted 302 = .ok (.ireturn, 1) := by sorry
set_option maxHeartbeats 4000000 in
set_option maxRecDepth 100000 in
/-- the reference: quoted -/
theorem c_Mo_quoted (l : Launch) (dC : Nat → ClassId) (dI : Nat → Nat → Nat) (mo : Nat) (sz : Heap) (v : Nat → Value) (cB cC : ClassId) (qx NN : Nat) (f : Nat → Int32) (n : Nat) (K : Nat → Nat × Nat) (t : Nat) (T : TS) (i : Nat) (br : Int32) (q : Int32) (hnN : n ≤ NN) (hNN : NN ≤ 100000) (hi0 : i ≤ n + 12) (h6 : v 6 = .ref qx) (h8 : v 8 = .int (nI n)) (hq34 : 0 ≤ q) (hT : TOK T) (hcp : T.us + (n + 12 - i) ≤ 400000) : Met l y_Mo_quoted (k_Mo_quoted :: gtbl) ({ frames := 5, cells := qcap T (T.us + (n + 12 - i)), slots := 2 * qcap T (T.us + (n + 12 - i)), locals := 140 }) (va_Pc [.ref mo, .int q, .ref t] (me K dC dI [(mo, .inr (13, MF 30 (rf v i br))), (qx, .inl (cB, NN, .inl f)), (t, .inr (12, MF 13 (tw T))), (T.au, .inl (cC, T.U, .inl T.un))] [(cB, .byte), (cC, .char)] sz)) (va_Qi (fun (r : Int32) (u : TS × List Int32 × Nat × Int32) => TX T u.1 u.2.1 ∧ ((r = 1 ∧ qtQ f n q i = some (u.2.1, u.2.2.1) ∧ u.2.2.1 ≤ n ∧ u.2.1.length + i + 2 ≤ u.2.2.1) ∨ (r = 0 ∧ qtQ f n q i = none ∧ u.2.1.length ≤ n + 12 - i ∧ u.2.2.1 ≤ n + 30))) (fun u t9 => mz dC dI [(mo, .inr (13, MF 30 (rf v u.2.2.1 u.2.2.2))), (qx, .inl (cB, NN, .inl f)), (t, .inr (12, MF 13 (tw u.1))), (u.1.au, .inl (cC, u.1.U, .inl u.1.un))] [(cB, .byte), (cC, .char)] (va_A [(mo, .inr (13, MF 30 (rf v i br))), (qx, .inl (cB, NN, .inl f)), (t, .inr (12, MF 13 (tw T))), (T.au, .inl (cC, T.U, .inl T.un))] sz.size) t9 ∧ szk sz t9.heap (u.1.U - T.U) (2 * (u.1.U - T.U))) (va_A [(mo, .inr (13, MF 30 (rf v i br))), (qx, .inl (cB, NN, .inl f)), (t, .inr (12, MF 13 (tw T))), (T.au, .inl (cC, T.U, .inl T.un))] sz.size)) (qcap T (T.us + (n + 12 - i))) (2 * qcap T (T.us + (n + 12 - i))) (va_A [(mo, .inr (13, MF 30 (rf v i br))), (qx, .inl (cB, NN, .inl f)), (t, .inr (12, MF 13 (tw T))), (T.au, .inl (cC, T.U, .inl T.un))] sz.size) := by sorry
end
section
theorem w_1037 : (.fieldLink "QueryBenchModel" 68 "QueryBenchModel$Tree" "numbers" "[J" : Cond) ∈ gtbl := by sorry
theorem w_1343 : (.constantLong "QueryBenchModel" 215 9007199254740991 : Cond) ∈ gtbl := by sorry
theorem w_1344 : (.constantLong "QueryBenchModel" 217 10 : Cond) ∈ gtbl := by sorry
theorem w_1345 : (.constantLong "QueryBenchModel" 219 48 : Cond) ∈ gtbl := by sorry
abbrev digH (x : Int32) : Prop := 48 ≤ x ∧ x ≤ 57
theorem digH_lt {f : Nat → Int32} {n i : Nat} (h : digH (hereV f n i)) : i < n := by sorry
/-- the digits from j on, as the reference goes -/
def dgM (f : Nat → Int32) (n : Nat) : Nat → Nat → Int64 → Int64 × Nat
  | 0, j, a => (a, j)
  | k + 1, j, a => if digH (hereV f n j) then dgM f n k (j + 1) (if 0 < lg_cmp a 9007199254740991 then a else 10 * a + (hereV f n j).toInt64 - 48) else (a, j)
/-- the digits of a number: 0 alone, or more -/
def dgN (f : Nat → Int32) (n i : Nat) : Int64 × Nat := if hereV f n i = 48 then (0, i + 1) else dgM f n (n + 1) i 0
/-- a number of a document: its sign has been read (mi) -/
def nuB (f : Nat → Int32) (n i : Nat) (mi : Bool) : Option (Int64 × Nat) :=
  if ¬ digH (hereV f n i) then none
  else if 0 < lg_cmp (dgN f n i).1 9007199254740991 ∨ hereV f n (dgN f n i).2 = 46 ∨ hereV f n (dgN f n i).2 = 101 ∨ hereV f n (dgN f n i).2 = 69 then none
  else some (if mi = true then -(dgN f n i).1 else (dgN f n i).1, (dgN f n i).2)
def numM (f : Nat → Int32) (n i : Nat) : Option (Int64 × Nat) := if hereV f n i = 45 then nuB f n (i + 1) true else nuB f n i false
theorem dg_01 {x r : Int32} (h : r = if 48 ≤ x ∧ x ≤ 57 then 1 else 0) : (¬ r = 0 → digH x) ∧ (r = 0 → ¬ digH x) := by sorry
abbrev b_Mo_numberT : ByteArray := prog_14_method_23_code
def y_Mo_numberT : MethodName := ⟨"QueryBenchModel", "number", "(LQueryBenchModel$Tree;I)Z"⟩
abbrev k_Mo_numberT : Cond := .code y_Mo_numberT b_Mo_numberT 7 (some .boolean)
theorem i_Mo_numberT : k_Mo_numberT ∈ gtbl := by sorry
theorem d_Mo_numberT_0 : decode b_Mo_numberT 0 = .ok (.aload_n 0, 1) := by sorry
theorem d_Mo_numberT_1 : decode b_Mo_numberT 1 = .ok (.getfield 135, 3) := by sorry
theorem d_Mo_numberT_4 : decode b_Mo_numberT 4 = .ok (.istore_n 3, 1) := by sorry
theorem d_Mo_numberT_5 : decode b_Mo_numberT 5 = .ok (.aload_n 0, 1) := by sorry
theorem d_Mo_numberT_6 : decode b_Mo_numberT 6 = .ok (.invokevirtual 147, 3) := by sorry
theorem d_Mo_numberT_9 : decode b_Mo_numberT 9 = .ok (.bipush 45, 2) := by sorry
theorem d_Mo_numberT_11 : decode b_Mo_numberT 11 = .ok (.if_icmp .ne 7, 3) := by sorry
theorem d_Mo_numberT_14 : decode b_Mo_numberT 14 = .ok (.iconst 1, 1) := by sorry
theorem d_Mo_numberT_15 : decode b_Mo_numberT 15 = .ok (.goto 4, 3) := by sorry
theorem d_Mo_numberT_18 : decode b_Mo_numberT 18 = .ok (.iconst 0, 1) := by sorry
theorem d_Mo_numberT_19 : decode b_Mo_numberT 19 = .ok (.istore 4, 2) := by sorry
theorem d_Mo_numberT_21 : decode b_Mo_numberT 21 = .ok (.iload 4, 2) := by sorry
theorem d_Mo_numberT_23 : decode b_Mo_numberT 23 = .ok (.ifCond .eq 13, 3) := by sorry
theorem d_Mo_numberT_26 : decode b_Mo_numberT 26 = .ok (.aload_n 0, 1) := by sorry
theorem d_Mo_numberT_27 : decode b_Mo_numberT 27 = .ok (.dup, 1) := by sorry
theorem d_Mo_numberT_28 : decode b_Mo_numberT 28 = .ok (.getfield 135, 3) := by sorry
theorem d_Mo_numberT_31 : decode b_Mo_numberT 31 = .ok (.iconst 1, 1) := by sorry
theorem d_Mo_numberT_32 : decode b_Mo_numberT 32 = .ok (.iadd, 1) := by sorry
theorem d_Mo_numberT_33 : decode b_Mo_numberT 33 = .ok (.putfield 135, 3) := by sorry
theorem d_Mo_numberT_36 : decode b_Mo_numberT 36 = .ok (.aload_n 0, 1) := by sorry
theorem d_Mo_numberT_37 : decode b_Mo_numberT 37 = .ok (.invokevirtual 147, 3) := by sorry
theorem d_Mo_numberT_40 : decode b_Mo_numberT 40 = .ok (.invokestatic 166, 3) := by sorry
theorem d_Mo_numberT_43 : decode b_Mo_numberT 43 = .ok (.ifCond .ne 12, 3) := by sorry
theorem d_Mo_numberT_46 : decode b_Mo_numberT 46 = .ok (.aload_n 0, 1) := by sorry
theorem d_Mo_numberT_47 : decode b_Mo_numberT 47 = .ok (.aload_n 0, 1) := by sorry
theorem d_Mo_numberT_48 : decode b_Mo_numberT 48 = .ok (.getfield 135, 3) := by sorry
theorem d_Mo_numberT_51 : decode b_Mo_numberT 51 = .ok (.invokevirtual 151, 3) := by sorry
theorem d_Mo_numberT_54 : decode b_Mo_numberT 54 = .ok (.ireturn, 1) := by sorry
theorem d_Mo_numberT_55 : decode b_Mo_numberT 55 = .ok (.lconst 0, 1) := by sorry
theorem d_Mo_numberT_56 : decode b_Mo_numberT 56 = .ok (.lstore 5, 2) := by sorry
theorem d_Mo_numberT_58 : decode b_Mo_numberT 58 = .ok (.aload_n 0, 1) := by sorry
theorem d_Mo_numberT_59 : decode b_Mo_numberT 59 = .ok (.invokevirtual 147, 3) := by sorry
theorem d_Mo_numberT_62 : decode b_Mo_numberT 62 = .ok (.bipush 48, 2) := by sorry
theorem d_Mo_numberT_64 : decode b_Mo_numberT 64 = .ok (.if_icmp .ne 16, 3) := by sorry
theorem d_Mo_numberT_67 : decode b_Mo_numberT 67 = .ok (.aload_n 0, 1) := by sorry
theorem d_Mo_numberT_68 : decode b_Mo_numberT 68 = .ok (.dup, 1) := by sorry
theorem d_Mo_numberT_69 : decode b_Mo_numberT 69 = .ok (.getfield 135, 3) := by sorry
theorem d_Mo_numberT_72 : decode b_Mo_numberT 72 = .ok (.iconst 1, 1) := by sorry
theorem d_Mo_numberT_73 : decode b_Mo_numberT 73 = .ok (.iadd, 1) := by sorry
theorem d_Mo_numberT_74 : decode b_Mo_numberT 74 = .ok (.putfield 135, 3) := by sorry
theorem d_Mo_numberT_77 : decode b_Mo_numberT 77 = .ok (.goto 53, 3) := by sorry
theorem d_Mo_numberT_80 : decode b_Mo_numberT 80 = .ok (.aload_n 0, 1) := by sorry
theorem d_Mo_numberT_81 : decode b_Mo_numberT 81 = .ok (.invokevirtual 147, 3) := by sorry
theorem d_Mo_numberT_84 : decode b_Mo_numberT 84 = .ok (.invokestatic 166, 3) := by sorry
theorem d_Mo_numberT_87 : decode b_Mo_numberT 87 = .ok (.ifCond .eq 43, 3) := by sorry
theorem d_Mo_numberT_90 : decode b_Mo_numberT 90 = .ok (.lload 5, 2) := by sorry
theorem d_Mo_numberT_92 : decode b_Mo_numberT 92 = .ok (.ldc2_w 215, 3) := by sorry
theorem d_Mo_numberT_95 : decode b_Mo_numberT 95 = .ok (.lcmp, 1) := by sorry
theorem d_Mo_numberT_96 : decode b_Mo_numberT 96 = .ok (.ifCond .gt 21, 3) := by sorry
theorem d_Mo_numberT_99 : decode b_Mo_numberT 99 = .ok (.ldc2_w 217, 3) := by sorry
theorem d_Mo_numberT_102 : decode b_Mo_numberT 102 = .ok (.lload 5, 2) := by sorry
theorem d_Mo_numberT_104 : decode b_Mo_numberT 104 = .ok (.lmul, 1) := by sorry
theorem d_Mo_numberT_105 : decode b_Mo_numberT 105 = .ok (.aload_n 0, 1) := by sorry
theorem d_Mo_numberT_106 : decode b_Mo_numberT 106 = .ok (.invokevirtual 147, 3) := by sorry
theorem d_Mo_numberT_109 : decode b_Mo_numberT 109 = .ok (.i2l, 1) := by sorry
theorem d_Mo_numberT_110 : decode b_Mo_numberT 110 = .ok (.ladd, 1) := by sorry
theorem d_Mo_numberT_111 : decode b_Mo_numberT 111 = .ok (.ldc2_w 219, 3) := by sorry
theorem d_Mo_numberT_114 : decode b_Mo_numberT 114 = .ok (.lsub, 1) := by sorry
theorem d_Mo_numberT_115 : decode b_Mo_numberT 115 = .ok (.lstore 5, 2) := by sorry
theorem d_Mo_numberT_117 : decode b_Mo_numberT 117 = .ok (.aload_n 0, 1) := by sorry
theorem d_Mo_numberT_118 : decode b_Mo_numberT 118 = .ok (.dup, 1) := by sorry
theorem d_Mo_numberT_119 : decode b_Mo_numberT 119 = .ok (.getfield 135, 3) := by sorry
theorem d_Mo_numberT_122 : decode b_Mo_numberT 122 = .ok (.iconst 1, 1) := by sorry
theorem d_Mo_numberT_123 : decode b_Mo_numberT 123 = .ok (.iadd, 1) := by sorry
theorem d_Mo_numberT_124 : decode b_Mo_numberT 124 = .ok (.putfield 135, 3) := by sorry
theorem d_Mo_numberT_127 : decode b_Mo_numberT 127 = .ok (.goto (-47), 3) := by sorry
theorem d_Mo_numberT_130 : decode b_Mo_numberT 130 = .ok (.lload 5, 2) := by sorry
theorem d_Mo_numberT_132 : decode b_Mo_numberT 132 = .ok (.ldc2_w 215, 3) := by sorry
theorem d_Mo_numberT_135 : decode b_Mo_numberT 135 = .ok (.lcmp, 1) := by sorry
theorem d_Mo_numberT_136 : decode b_Mo_numberT 136 = .ok (.ifCond .gt 30, 3) := by sorry
theorem d_Mo_numberT_139 : decode b_Mo_numberT 139 = .ok (.aload_n 0, 1) := by sorry
theorem d_Mo_numberT_140 : decode b_Mo_numberT 140 = .ok (.invokevirtual 147, 3) := by sorry
theorem d_Mo_numberT_143 : decode b_Mo_numberT 143 = .ok (.bipush 46, 2) := by sorry
theorem d_Mo_numberT_145 : decode b_Mo_numberT 145 = .ok (.if_icmp .eq 21, 3) := by sorry
theorem d_Mo_numberT_148 : decode b_Mo_numberT 148 = .ok (.aload_n 0, 1) := by sorry
theorem d_Mo_numberT_149 : decode b_Mo_numberT 149 = .ok (.invokevirtual 147, 3) := by sorry
theorem d_Mo_numberT_152 : decode b_Mo_numberT 152 = .ok (.bipush 101, 2) := by sorry
theorem d_Mo_numberT_154 : decode b_Mo_numberT 154 = .ok (.if_icmp .eq 12, 3) := by sorry
theorem d_Mo_numberT_157 : decode b_Mo_numberT 157 = .ok (.aload_n 0, 1) := by sorry
theorem d_Mo_numberT_158 : decode b_Mo_numberT 158 = .ok (.invokevirtual 147, 3) := by sorry
theorem d_Mo_numberT_161 : decode b_Mo_numberT 161 = .ok (.bipush 69, 2) := by sorry
theorem d_Mo_numberT_163 : decode b_Mo_numberT 163 = .ok (.if_icmp .ne 9, 3) := by sorry
theorem d_Mo_numberT_166 : decode b_Mo_numberT 166 = .ok (.aload_n 0, 1) := by sorry
theorem d_Mo_numberT_167 : decode b_Mo_numberT 167 = .ok (.iload_n 3, 1) := by sorry
theorem d_Mo_numberT_168 : decode b_Mo_numberT 168 = .ok (.invokevirtual 151, 3) := by sorry
theorem d_Mo_numberT_171 : decode b_Mo_numberT 171 = .ok (.ireturn, 1) := by sorry
theorem d_Mo_numberT_172 : decode b_Mo_numberT 172 = .ok (.aload_n 1, 1) := by sorry
theorem d_Mo_numberT_173 : decode b_Mo_numberT 173 = .ok (.getfield 68, 3) := by sorry
theorem d_Mo_numberT_176 : decode b_Mo_numberT 176 = .ok (.iload_n 2, 1) := by sorry
theorem d_Mo_numberT_177 : decode b_Mo_numberT 177 = .ok (.iload 4, 2) := by sorry
theorem d_Mo_numberT_179 : decode b_Mo_numberT 179 = .ok (.ifCond .eq 9, 3) := by sorry
theorem d_Mo_numberT_182 : decode b_Mo_numberT 182 = .ok (.lload 5, 2) := by sorry
theorem d_Mo_numberT_184 : decode b_Mo_numberT 184 = .ok (.lneg, 1) := by sorry
theorem d_Mo_numberT_185 : decode b_Mo_numberT 185 = .ok (.goto 5, 3) := by sorry
theorem d_Mo_numberT_188 : decode b_Mo_numberT 188 = .ok (.lload 5, 2) := by sorry
theorem d_Mo_numberT_190 : decode b_Mo_numberT 190 = .ok (.lastore, 1) := by sorry
theorem d_Mo_numberT_191 : decode b_Mo_numberT 191 = .ok (.iconst 1, 1) := by sorry
theorem d_Mo_numberT_192 : decode b_Mo_numberT 192 = .ok (.ireturn, 1) := by sorry
set_option maxHeartbeats 4000000 in
set_option maxRecDepth 100000 in
/-- the reference: number -/
theorem c_Mo_numberT (l : Launch) (dC : Nat → ClassId) (dI : Nat → Nat → Nat) (mo : Nat) (sz : Heap) (v : Nat → Value) (cB cL : ClassId) (qx NN : Nat) (f : Nat → Int32) (n : Nat) (t : Nat) (T : TS) (i : Nat) (br : Int32) (hnN : n ≤ NN) (hNN : NN ≤ 100000) (hi0 : i ≤ n + 12) (h6 : v 6 = .ref qx) (h8 : v 8 = .int (nI n)) (hT : TOK T) (nd : Nat) (hnd : nd < T.ct) : Met l y_Mo_numberT (k_Mo_numberT :: gtbl) ({ frames := 2, cells := 0, slots := 0, locals := 60 }) (va_Pc [.ref mo, .ref t, .int (nI nd)] (mp dC dI [(mo, .inr (13, MF 30 (rf v i br))), (qx, .inl (cB, NN, .inl f)), (t, .inr (12, MF 13 (tw T))), (T.a1, .inl (cL, T.N, .inr (.inl T.nu)))] [(cB, .byte), (cL, .long)] sz)) (va_Qi (fun (r : Int32) (u : Nat × Int32 × (Nat → Int64)) => (r = 1 ∧ ∃ val, numM f n i = some (val, u.1) ∧ u.2.2 = vp_updL T.nu nd val ∧ u.1 ≤ n) ∨ (r = 0 ∧ numM f n i = none ∧ u.2.2 = T.nu ∧ u.1 ≤ n + 30)) (fun u t9 => mz dC dI [(mo, .inr (13, MF 30 (rf v u.1 u.2.1))), (qx, .inl (cB, NN, .inl f)), (t, .inr (12, MF 13 (tw T))), (T.a1, .inl (cL, T.N, .inr (.inl u.2.2)))] [(cB, .byte), (cL, .long)] (va_A [(mo, .inr (13, MF 30 (rf v i br))), (qx, .inl (cB, NN, .inl f)), (t, .inr (12, MF 13 (tw T))), (T.a1, .inl (cL, T.N, .inr (.inl T.nu)))] sz.size) t9) (va_A [(mo, .inr (13, MF 30 (rf v i br))), (qx, .inl (cB, NN, .inl f)), (t, .inr (12, MF 13 (tw T))), (T.a1, .inl (cL, T.N, .inr (.inl T.nu)))] sz.size)) 0 0 (va_A [(mo, .inr (13, MF 30 (rf v i br))), (qx, .inl (cB, NN, .inl f)), (t, .inr (12, MF 13 (tw T))), (T.a1, .inl (cL, T.N, .inr (.inl T.nu)))] sz.size) := by sorry
end
section
/-- a leaf: its kind, its number, its units -/
abbrev LF : Type := Nat × Int64 × List Int32
/-- a value of a document, at most r deep -/
def JVt : Nat → Type
  | 0 => LF
  | r + 1 => LF × List (List Int32 × JVt r)
def jleaf : (r : Nat) → LF → JVt r
  | 0, x => x
  | _ + 1, x => (x, [])
def RepL (T : TS) (a : Nat) (x : LF) : Prop := T.kd a = nI x.1 ∧ x.1 ≤ 6 ∧ (x.1 = 3 → T.nu a = x.2.1) ∧ (x.1 = 4 → ∃ s L, T.st a = nI s ∧ T.ln a = nI L ∧ s + L ≤ T.us ∧ sl T.un s L = x.2.2) ∧ (¬ x.1 = 4 → T.ln a = 0)
/-- a chain of members from k on, to the end z; its nodes lie from lo on and before hi -/
def RepK {β : Type} (rep : Nat → Nat → β → Prop) (T : TS) (ob : Prop) (a hi : Nat) (z : Int32) : Nat → Int32 → List (List Int32 × β) → Prop
  | _, k, [] => k = z
  | lo, k, c :: cs => ∃ b eb, k = nI b ∧ lo ≤ b ∧ eb ≤ hi ∧ T.pa b = nI a ∧ (ob → nmOK T b ∧ nmT T b = c.1) ∧ rep b eb c.2 ∧ RepK rep T ob a hi z eb (T.nx b) cs
/-- node a of T holds the value; what belongs to it lies from a on and before e -/
def RepV (T : TS) : (r : Nat) → Nat → Nat → JVt r → Prop
  | 0, a, e, x => a < e ∧ e ≤ T.ct ∧ RepL T a x ∧ T.ki a = -1 ∧ x.1 < 5
  | r + 1, a, e, x => a < e ∧ e ≤ T.ct ∧ RepL T a x.1 ∧ (x.1.1 < 5 → x.2 = []) ∧ RepK (RepV T r) T (x.1.1 = 6) a e (-1) (a + 1) (T.ki a) x.2
theorem RepV_lt {T : TS} : ∀ {r : Nat} {a e : Nat} {x : JVt r}, RepV T r a e x → a < e ∧ e ≤ T.ct := by sorry
/-- T and T2 are alike at the nodes of P -/
def alk (T T2 : TS) (P : Nat → Prop) : Prop := ∀ j, P j → T2.kd j = T.kd j ∧ T2.nu j = T.nu j ∧ T2.st j = T.st j ∧ T2.ln j = T.ln j ∧ T2.ki j = T.ki j ∧ T2.nx j = T.nx j ∧ T2.ns j = T.ns j ∧ T2.nl j = T.nl j ∧ T2.pa j = T.pa j
def alkU (T T2 : TS) : Prop := T.us ≤ T2.us ∧ ∀ j, j < T.us → T2.un j = T.un j
theorem sl_fr {T T2 : TS} (h : alkU T T2) {s L : Nat} (hs : s + L ≤ T.us) : sl T2.un s L = sl T.un s L := by sorry
theorem RepL_fr {T T2 : TS} {a : Nat} {x : LF} (h : RepL T a x) (hu : alkU T T2) (h1 : T2.kd a = T.kd a) (h2 : T2.nu a = T.nu a) (h3 : T2.st a = T.st a) (h4 : T2.ln a = T.ln a) : RepL T2 a x := by sorry
theorem nm_fr {T T2 : TS} (h : alkU T T2) {b : Nat} (h1 : T2.ns b = T.ns b) (h2 : T2.nl b = T.nl b) (hb : T.us < 2 ^ 31) (hn : nmOK T b) : nmOK T2 b ∧ nmT T2 b = nmT T b := by sorry
theorem RepK_fr {β : Type} {rep rep2 : Nat → Nat → β → Prop} {T T2 : TS} {ob : Prop} {a hi : Nat} {z z2 : Int32} (hu : alkU T T2) (hb : T.us < 2 ^ 31) (hrep : ∀ b eb c, rep b eb c → b < eb) (hz : z = z2) :
    ∀ (cs : List (List Int32 × β)) (lo : Nat) (k : Int32), RepK rep T ob a hi z lo k cs → (∀ j, lo ≤ j → j < hi → T2.nx j = T.nx j ∧ T2.ns j = T.ns j ∧ T2.nl j = T.nl j ∧ T2.pa j = T.pa j) → (∀ b eb c, lo ≤ b → eb ≤ hi → rep b eb c → rep2 b eb c) → RepK rep2 T2 ob a hi z2 lo k cs := by sorry
theorem RepV_fr {T T2 : TS} (hu : alkU T T2) (hb : T.us < 2 ^ 31) (hct : T.ct ≤ T2.ct) : ∀ (r : Nat) (a e : Nat) (x : JVt r), RepV T r a e x → T2.kd a = T.kd a → T2.nu a = T.nu a → T2.st a = T.st a → T2.ln a = T.ln a → T2.ki a = T.ki a → alk T T2 (fun j => a < j ∧ j < e) → RepV T2 r a e x := by sorry
/-- one more at the end -/
theorem RepK_snoc {β : Type} {rep : Nat → Nat → β → Prop} {T : TS} {ob : Prop} {a hi mid b eb : Nat} {z : Int32} {c : List Int32 × β} (h1 : mid ≤ b) (h2 : eb ≤ hi) (h3 : T.pa b = nI a) (h4 : ob → nmOK T b ∧ nmT T b = c.1) (h5 : rep b eb c.2) (h6 : T.nx b = z) (hrep : ∀ b eb c, rep b eb c → b < eb) :
    ∀ (cs : List (List Int32 × β)) (lo : Nat) (k : Int32), lo ≤ mid → RepK rep T ob a mid (nI b) lo k cs → RepK rep T ob a hi z lo k (cs ++ [c]) := by sorry
/-- the nodes of a chain, as the rows on chains want them -/
theorem RepK_chn {β : Type} {rep : Nat → Nat → β → Prop} {T : TS} {ob : Prop} {a hi : Nat} (hhi : hi ≤ T.ct) (hrep : ∀ b eb c, rep b eb c → b < eb) :
    ∀ (cs : List (List Int32 × β)) (lo : Nat) (k : Int32), RepK rep T ob a hi (-1) lo k cs → ∃ ks : List Nat, chn T.nx T.ct ks k ∧ ks.length = cs.length ∧ (ob → (∀ x, x ∈ ks → nmOK T x) ∧ ks.map (nmT T) = cs.map (·.1)) := by sorry
end
section
/-- does the text stand here? -/
def mtB (f : Nat → Int32) (n i : Nat) (b : Nat → Int32) : Nat → Bool
  | 0 => true
  | k + 1 => mtB f n i b k && decide (hereV f n (i + k) = b k &&& 255)
theorem mtB_iff {f : Nat → Int32} {n i : Nat} {b : Nat → Int32} : ∀ {k : Nat}, mtB f n i b k = true ↔ mtch f n i b k := by sorry
theorem mtch_le {f : Nat → Int32} {n i k : Nat} {b : Nat → Int32} (h : mtch f n i b (k + 1)) (hb : 0 ≤ b k &&& 255) : i + k < n := by sorry
/-- a value that is no container -/
def pLeaf (f : Nat → Int32) (n i : Nat) : Option (LF × Nat) :=
  if hereV f n i = 110 then (if mtB f n i (mtx 1) 4 = true then some ((0, 0, []), i + 4) else none)
  else if hereV f n i = 116 then (if mtB f n i (mtx 2) 4 = true then some ((1, 0, []), i + 4) else none)
  else if hereV f n i = 102 then (if mtB f n i (mtx 3) 5 = true then some ((2, 0, []), i + 5) else none)
  else if hereV f n i = 34 then (match qtQ f n 34 i with | some p => some ((4, 0, p.1.map c16), p.2) | none => none)
  else if hereV f n i = 45 ∨ digH (hereV f n i) then (match numM f n i with | some p => some ((3, p.1, []), p.2) | none => none)
  else none
def clo (op : Int32) : Int32 := if op = 91 then 93 else 125
/-- a member's name, and what stands behind its colon -/
def pNam (f : Nat → Int32) (n : Nat) (op : Int32) (nms : List (List Int32)) (i : Nat) : Option (List Int32 × Nat) :=
  if op = 91 then some ([], i)
  else if ¬ hereV f n (skipH f n i) = 34 then none
  else match qtQ f n 34 (skipH f n i) with
    | none => none
    | some p => if p.1.map c16 ∈ nms then none else if ¬ hereV f n (skipH f n p.2) = 58 then none else some (p.1.map c16, skipH f n p.2 + 1)
/-- the members from i on -/
def pIn {β : Type} (f : Nat → Int32) (n : Nat) (pv : Nat → Option (β × Nat)) (op : Int32) : Nat → Nat → List (List Int32 × β) → Option (List (List Int32 × β) × Nat)
  | 0, _, _ => none
  | m + 1, i, acc => match pNam f n op (acc.map (·.1)) i with
    | none => none
    | some nj => match pv nj.2 with
      | none => none
      | some xj => if hereV f n xj.2 = clo op then some (acc ++ [(nj.1, xj.1)], xj.2 + 1) else if hereV f n xj.2 = 44 then pIn f n pv op m (xj.2 + 1) (acc ++ [(nj.1, xj.1)]) else none
def pInside {β : Type} (f : Nat → Int32) (n : Nat) (pv : Nat → Option (β × Nat)) (op : Int32) (i : Nat) : Option (List (List Int32 × β) × Nat) :=
  if hereV f n (skipH f n (i + 1)) = clo op then some ([], skipH f n (i + 1) + 1) else pIn f n pv op (n + 1) (skipH f n (i + 1)) []
/-- a value, at most r deep -/
def pV (f : Nat → Int32) (n : Nat) : (r : Nat) → Nat → Option (JVt r × Nat)
  | 0, i => (pLeaf f n (skipH f n i)).map (fun p => (jleaf 0 p.1, skipH f n p.2))
  | r + 1, i => if hereV f n (skipH f n i) = 91 ∨ hereV f n (skipH f n i) = 123 then (pInside f n (pV f n r) (hereV f n (skipH f n i)) (skipH f n i)).map (fun p => (((if hereV f n (skipH f n i) = 91 then 5 else 6, 0, []), p.1), skipH f n p.2))
    else (pLeaf f n (skipH f n i)).map (fun p => (jleaf (r + 1) p.1, skipH f n p.2))
theorem pV_leaf {f : Nat → Int32} {n i : Nat} (r : Nat) (h : ¬ (hereV f n (skipH f n i) = 91 ∨ hereV f n (skipH f n i) = 123)) : pV f n r i = (pLeaf f n (skipH f n i)).map (fun p => (jleaf r p.1, skipH f n p.2)) := by sorry
/-- T2 goes on from T: what was there stays -/
def TE (T T2 : TS) : Prop := T.ct ≤ T2.ct ∧ alk T T2 (fun j => j < T.ct) ∧ alkU T T2
theorem alk.trans {T T2 T3 : TS} {P : Nat → Prop} (h1 : alk T T2 P) (h2 : alk T2 T3 P) : alk T T3 P := by sorry
theorem alkU.trans {T T2 T3 : TS} (h1 : alkU T T2) (h2 : alkU T2 T3) : alkU T T3 := by sorry
theorem alk.mono {T T2 : TS} {P Q : Nat → Prop} (h : alk T T2 P) (hQ : ∀ j, Q j → P j) : alk T T2 Q := by sorry
theorem TE.trans {T T2 T3 : TS} (h1 : TE T T2) (h2 : TE T2 T3) : TE T T3 := by sorry
theorem TAd.te {T T2 : TS} {k : Int32} (h : TAd T T2 k) : TE T T2 := by sorry
theorem TAd.ok {T T2 : TS} {k : Int32} (h : TAd T T2 k) (hT : TOK T) (hc : T.ct ≤ 400000) : TOK T2 ∧ T.N ≤ T2.N ∧ (T2.N = T.N ∨ T2.N ≤ 2 * T2.ct) ∧ T2.U = T.U ∧ T2.us = T.us ∧ T2.ct = T.ct + 1 ∧ adC T ≤ T2.N - T.N ∧ adS T ≤ 20 * (T2.N - T.N) := by sorry
theorem TX.alk {T T2 : TS} {us : List Int32} (h : TX T T2 us) : alk T T2 (fun _ => True) ∧ T2.ct = T.ct ∧ T2.N = T.N := by sorry
theorem TX.un {T T2 : TS} {us : List Int32} (h : TX T T2 us) : alkU T T2 ∧ sl T2.un T.us us.length = us.map c16 := by sorry
theorem TX.te {T T2 : TS} {us : List Int32} (h : TX T T2 us) : TE T T2 := by sorry
theorem leafRep {T : TS} {a : Nat} {x : LF} (h1 : RepL T a x) (h2 : x.1 < 5) (h3 : T.ki a = -1) (h4 : T.ct = a + 1) (r : Nat) : RepV T r a T.ct (jleaf r x) := by sorry
/-- the members so far, the last of them apart -/
def KS (r : Nat) (ob : Prop) (nd lo hi : Nat) (T : TS) (acc : List (List Int32 × JVt r)) (bf : Int32) : Prop := (acc = [] ∧ bf = -1 ∧ T.ki nd = -1) ∨ ∃ (init : List (List Int32 × JVt r)) (c : List Int32 × JVt r) (b eb mid : Nat), acc = init ++ [c] ∧ bf = nI b ∧ lo ≤ mid ∧ mid ≤ b ∧ eb ≤ hi ∧ RepK (RepV T r) T ob nd mid (nI b) lo (T.ki nd) init ∧ T.pa b = nI nd ∧ (ob → nmOK T b ∧ nmT T b = c.1) ∧ RepV T r b eb c.2 ∧ T.nx b = -1
theorem KS.fr {r : Nat} {ob : Prop} {nd lo hi : Nat} {T T2 : TS} {acc : List (List Int32 × JVt r)} {bf : Int32} (h : KS r ob nd lo hi T acc bf) (hlo : nd < lo) (hct : lo ≤ T.ct) (hhi : hi ≤ T.ct) (hb : T.us < 2 ^ 31) (hte : TE T T2) : KS r ob nd lo hi T2 acc bf := by sorry
theorem KS.all {r : Nat} {ob : Prop} {nd lo hi : Nat} {T : TS} {acc : List (List Int32 × JVt r)} {bf : Int32} (h : KS r ob nd lo hi T acc bf) (hhi : hi ≤ T.ct) : RepK (RepV T r) T ob nd T.ct (-1) lo (T.ki nd) acc := by sorry
/-- a member more -/
theorem KS.add {r : Nat} {ob : Prop} {nd lo hi : Nat} {T T2 : TS} {acc : List (List Int32 × JVt r)} {bf : Int32} {nm : List Int32} {x : JVt r} {kid : Nat} (h : KS r ob nd lo hi T acc bf) (hlo : nd < lo) (hkl : lo ≤ kid) (hb : T.us < 2 ^ 31) (hV : RepV T r kid T.ct x)
    (hu : alkU T T2) (hct : T2.ct = T.ct) (hkd : T2.kd = T.kd) (hnu : T2.nu = T.nu) (hst : T2.st = T.st) (hln : T2.ln = T.ln) (hns : ∀ j, j ≠ kid → T2.ns j = T.ns j) (hnl : ∀ j, j ≠ kid → T2.nl j = T.nl j) (hpa : T2.pa = upd T.pa kid (nI nd)) (hnm : ob → nmOK T2 kid ∧ nmT T2 kid = nm)
    (hki : T2.ki = if bf = -1 then upd T.ki nd (nI kid) else T.ki) (hnx : ∀ b, bf = nI b → b < T.ct → T2.nx = upd (upd T.nx kid (T.nx b)) b (nI kid)) (hnx0 : bf = -1 → T2.nx = upd T.nx kid (T.ki nd)) (hctb : T.ct < 2 ^ 31) (hhi : hi ≤ kid) : KS r ob nd lo T.ct T2 (acc ++ [(nm, x)]) (nI kid) := by sorry
end
section
theorem w_1047 : (.fieldLink "QueryBenchModel" 89 "QueryBenchModel$Tree" "nameStarts" "[I" : Cond) ∈ gtbl := by sorry
theorem w_1049 : (.fieldLink "QueryBenchModel" 92 "QueryBenchModel$Tree" "nameLengths" "[I" : Cond) ∈ gtbl := by sorry
theorem w_1058 : (.fieldLink "QueryBenchModel" 204 "QueryBenchModel$Tree" "used" "I" : Cond) ∈ gtbl := by sorry
theorem w_1225 : (.methodLink "QueryBenchModel" 221 ⟨"QueryBenchModel", "value", "(LQueryBenchModel$Tree;I)I"⟩ : Cond) ∈ gtbl := by sorry
theorem w_1227 : (.instanceMethod ⟨"QueryBenchModel", "value", "(LQueryBenchModel$Tree;I)I"⟩ : Cond) ∈ gtbl := by sorry
theorem w_1229 : (.methodLink "QueryBenchModel" 184 ⟨"QueryBenchModel", "blanks", "()V"⟩ : Cond) ∈ gtbl := by sorry
theorem w_1231 : (.instanceMethod ⟨"QueryBenchModel", "blanks", "()V"⟩ : Cond) ∈ gtbl := by sorry
theorem w_1261 : (.methodLink "QueryBenchModel" 200 ⟨"QueryBenchModel", "quoted", "(ILQueryBenchModel$Tree;)Z"⟩ : Cond) ∈ gtbl := by sorry
theorem w_1263 : (.instanceMethod ⟨"QueryBenchModel", "quoted", "(ILQueryBenchModel$Tree;)Z"⟩ : Cond) ∈ gtbl := by sorry
theorem w_1350 : (.methodLink "QueryBenchModel" 95 ⟨"QueryBenchModel$Tree", "find", "(ILQueryBenchModel$Tree;II)I"⟩ : Cond) ∈ gtbl := by sorry
theorem w_1351 : (.instanceMethod ⟨"QueryBenchModel$Tree", "find", "(ILQueryBenchModel$Tree;II)I"⟩ : Cond) ∈ gtbl := by sorry
theorem w_1352 : (.selects "QueryBenchModel$Tree" ⟨"QueryBenchModel$Tree", "find", "(ILQueryBenchModel$Tree;II)I"⟩ ⟨"QueryBenchModel$Tree", "find", "(ILQueryBenchModel$Tree;II)I"⟩ : Cond) ∈ gtbl := by sorry
theorem w_1358 : (.methodLink "QueryBenchModel" 225 ⟨"QueryBenchModel$Tree", "insert", "(III)V"⟩ : Cond) ∈ gtbl := by sorry
theorem w_1359 : (.instanceMethod ⟨"QueryBenchModel$Tree", "insert", "(III)V"⟩ : Cond) ∈ gtbl := by sorry
theorem w_1360 : (.selects "QueryBenchModel$Tree" ⟨"QueryBenchModel$Tree", "insert", "(III)V"⟩ ⟨"QueryBenchModel$Tree", "insert", "(III)V"⟩ : Cond) ∈ gtbl := by sorry
def ncap (T : TS) (B : Nat) : Nat := max T.N (2 * B) - T.N
/-- how far a tree may have grown when the text has been read from i on -/
def GB (BN BU : Nat) (T T2 : TS) : Prop := T.N ≤ T2.N ∧ T2.N ≤ max T.N (2 * BN) ∧ T.U ≤ T2.U ∧ T2.U ≤ max T.U (2 * BU)
def cE (T T2 : TS) : Nat := T2.N - T.N + (T2.U - T.U)
def sE (T T2 : TS) : Nat := 20 * (T2.N - T.N) + 2 * (T2.U - T.U)
theorem GB.rf {BN BU : Nat} {T : TS} : GB BN BU T T := by sorry
theorem cE_rf {T : TS} : cE T T = 0 ∧ sE T T = 0 := by sorry
theorem GB.fits {BN BU : Nat} {T T2 : TS} (h : GB BN BU T T2) : cE T T2 ≤ ncap T BN + qcap T BU ∧ sE T T2 ≤ 20 * ncap T BN + 2 * qcap T BU := by sorry
theorem GB.step {BN BU B2 C2 : Nat} {T T2 : TS} (h : GB BN BU T T2) (hB : B2 ≤ BN) (hC : C2 ≤ BU) : cE T T2 + (ncap T2 B2 + qcap T2 C2) ≤ ncap T BN + qcap T BU ∧ sE T T2 + (20 * ncap T2 B2 + 2 * qcap T2 C2) ≤ 20 * ncap T BN + 2 * qcap T BU := by sorry
theorem GB.stepQ {BN BU C2 : Nat} {T T2 : TS} (h : GB BN BU T T2) (hC : C2 ≤ BU) : cE T T2 + qcap T2 C2 ≤ ncap T BN + qcap T BU ∧ sE T T2 + 2 * qcap T2 C2 ≤ 20 * ncap T BN + 2 * qcap T BU := by sorry
theorem GB.tr {BN BU B2 C2 : Nat} {T T2 T3 : TS} (h : GB BN BU T T2) (g : GB B2 C2 T2 T3) (hB : B2 ≤ BN) (hC : C2 ≤ BU) : GB BN BU T T3 ∧ cE T T2 + cE T2 T3 ≤ cE T T3 ∧ sE T T2 + sE T2 T3 ≤ sE T T3 := by sorry
theorem TX.gb {T T2 : TS} {us : List Int32} (h : TX T T2 us) : GB 0 (T.us + us.length) T T2 ∧ T2.U - T.U = cE T T2 ∧ 2 * (T2.U - T.U) = sE T T2 := by sorry
theorem TAd.gb {T T2 : TS} {k : Int32} (h : TAd T T2 k) (hT : TOK T) (hc : T.ct ≤ 400000) : GB (T.ct + 1) 0 T T2 ∧ adC T ≤ cE T T2 ∧ adS T ≤ sE T T2 := by sorry
theorem TAd.fit {BN BU : Nat} {T T1 : TS} (h : GB BN BU T T1) (hT : TOK T1) (hB : T1.ct + 1 ≤ BN) : cE T T1 + adC T1 ≤ ncap T BN + qcap T BU ∧ sE T T1 + adS T1 ≤ 20 * ncap T BN + 2 * qcap T BU := by sorry
theorem skipH_n {f : Nat → Int32} {n i : Nat} (h : i ≤ n) : i ≤ skipH f n i ∧ skipH f n i ≤ n := by sorry
def TG (n i : Nat) (T T2 : TS) : Prop := TOK T2 ∧ GB (T.ct + (n + 12 - i)) (T.us + (n + 12 - i)) T T2
def VPost (f : Nat → Int32) (n r : Nat) (T : TS) (i : Nat) (res : Int32) (u : TS × Nat × Int32) : Prop := TG n i T u.1 ∧ ((∃ x, res = nI T.ct ∧ pV f n r i = some (x, u.2.1) ∧ RepV u.1 r T.ct u.1.ct x ∧ TE T u.1 ∧ u.1.pa T.ct = -1 ∧ T.ct < u.1.ct ∧ u.1.ct + i ≤ T.ct + u.2.1 ∧ u.1.us + i ≤ T.us + u.2.1 ∧ u.2.1 ≤ n) ∨ (res = -1 ∧ pV f n r i = none))
/-- all but the members of nd is as it was -/
def TB (T T2 : TS) (nd : Nat) : Prop := T.ct ≤ T2.ct ∧ alk T T2 (fun j => j < T.ct ∧ j ≠ nd) ∧ alkU T T2 ∧ T2.kd nd = T.kd nd ∧ T2.nu nd = T.nu nd ∧ T2.st nd = T.st nd ∧ T2.ln nd = T.ln nd ∧ T2.nx nd = T.nx nd ∧ T2.ns nd = T.ns nd ∧ T2.nl nd = T.nl nd ∧ T2.pa nd = T.pa nd
def IPost (f : Nat → Int32) (n r : Nat) (op : Int32) (T : TS) (nd i : Nat) (res : Int32) (u : TS × Nat × Int32) : Prop := TG n (i + 1) T u.1 ∧ ((res = 1 ∧ ∃ ks, pInside f n (pV f n r) op i = some (ks, u.2.1) ∧ RepK (RepV u.1 r) u.1 (op = 123) nd u.1.ct (-1) T.ct (u.1.ki nd) ks ∧ TB T u.1 nd ∧ u.1.ct + (i + 1) ≤ T.ct + u.2.1 ∧ u.1.us + (i + 1) ≤ T.us + u.2.1 ∧ u.2.1 ≤ n) ∨ (res = 0 ∧ pInside f n (pV f n r) op i = none))
theorem TB.rf {T : TS} {nd : Nat} : TB T T nd := by sorry
theorem TB.te {T T2 T3 : TS} {nd : Nat} (h : TB T T2 nd) (hn : nd < T.ct) (h2 : TE T2 T3) : TB T T3 nd := by sorry
theorem TB.ins {T T2 T3 : TS} {nd kid : Nat} (h : TB T T2 nd) (hn : nd < T.ct) (hk : T.ct ≤ kid) (hu : alkU T2 T3) (hct : T3.ct = T2.ct) (hkd : T3.kd = T2.kd) (hnu : T3.nu = T2.nu) (hst : T3.st = T2.st) (hln : T3.ln = T2.ln) (hns : ∀ j, j ≠ kid → T3.ns j = T2.ns j) (hnl : ∀ j, j ≠ kid → T3.nl j = T2.nl j) (hpa : ∀ j, j ≠ kid → T3.pa j = T2.pa j) (hki : ∀ j, j ≠ nd → T3.ki j = T2.ki j) (hnx : ∀ j, j < T.ct → T3.nx j = T2.nx j) : TB T T3 nd := by sorry
section
variable {β : Type} {f : Nat → Int32} {n m i j j2 : Nat} {pv : Nat → Option (β × Nat)} {op : Int32} {acc : List (List Int32 × β)} {nm : List Int32} {x : β}
theorem pIn_step (h1 : pNam f n op (acc.map (·.1)) i = some (nm, j)) (h2 : pv j = some (x, j2)) (h3 : ¬ hereV f n j2 = clo op) (h4 : hereV f n j2 = 44) : pIn f n pv op (m + 1) i acc = pIn f n pv op m (j2 + 1) (acc ++ [(nm, x)]) := by sorry
theorem pIn_end (h1 : pNam f n op (acc.map (·.1)) i = some (nm, j)) (h2 : pv j = some (x, j2)) (h3 : hereV f n j2 = clo op) : pIn f n pv op (m + 1) i acc = some (acc ++ [(nm, x)], j2 + 1) := by sorry
theorem pIn_bad (h1 : pNam f n op (acc.map (·.1)) i = some (nm, j)) (h2 : pv j = some (x, j2)) (h3 : ¬ hereV f n j2 = clo op) (h4 : ¬ hereV f n j2 = 44) : pIn f n pv op (m + 1) i acc = none := by sorry
theorem pIn_v (h1 : pNam f n op (acc.map (·.1)) i = some (nm, j)) (h2 : pv j = none) : pIn f n pv op (m + 1) i acc = none := by sorry
theorem pIn_n (h1 : pNam f n op (acc.map (·.1)) i = none) : pIn f n pv op (m + 1) i acc = none := by sorry
end
section
variable {f : Nat → Int32} {n i : Nat} {nms : List (List Int32)}
theorem pNam_91 : pNam f n 91 nms i = some ([], i) := by sorry
theorem pNam_n1 (h : ¬ hereV f n (skipH f n i) = 34) : pNam f n 123 nms i = none := by sorry
theorem pNam_n2 (h1 : hereV f n (skipH f n i) = 34) (h : qtQ f n 34 (skipH f n i) = none) : pNam f n 123 nms i = none := by sorry
theorem pNam_n3 {p : List Int32 × Nat} (h1 : hereV f n (skipH f n i) = 34) (h : qtQ f n 34 (skipH f n i) = some p) (h3 : p.1.map c16 ∈ nms) : pNam f n 123 nms i = none := by sorry
theorem pNam_n4 {p : List Int32 × Nat} (h1 : hereV f n (skipH f n i) = 34) (h : qtQ f n 34 (skipH f n i) = some p) (h3 : ¬ p.1.map c16 ∈ nms) (h4 : ¬ hereV f n (skipH f n p.2) = 58) : pNam f n 123 nms i = none := by sorry
theorem pNam_ok {p : List Int32 × Nat} (h1 : hereV f n (skipH f n i) = 34) (h : qtQ f n 34 (skipH f n i) = some p) (h3 : ¬ p.1.map c16 ∈ nms) (h4 : hereV f n (skipH f n p.2) = 58) : pNam f n 123 nms i = some (p.1.map c16, skipH f n p.2 + 1) := by sorry
end
theorem nI_asub (a b : Nat) : nI (a + b) - nI a = nI b := by sorry
theorem here_in {f : Nat → Int32} {n i : Nat} {c : Int32} (h : hereV f n i = c) (hc : 0 ≤ c) : i < n := by sorry
abbrev b_Mo_value : ByteArray := prog_14_method_22_code
def y_Mo_value : MethodName := ⟨"QueryBenchModel", "value", "(LQueryBenchModel$Tree;I)I"⟩
abbrev k_Mo_value : Cond := .code y_Mo_value b_Mo_value 5 (some .int)
theorem i_Mo_value : k_Mo_value ∈ gtbl := by sorry
theorem d_Mo_value_0 : decode b_Mo_value 0 = .ok (.aload_n 0, 1) := by sorry
theorem d_Mo_value_1 : decode b_Mo_value 1 = .ok (.invokevirtual 184, 3) := by sorry
theorem d_Mo_value_4 : decode b_Mo_value 4 = .ok (.aload_n 0, 1) := by sorry
theorem d_Mo_value_5 : decode b_Mo_value 5 = .ok (.invokevirtual 147, 3) := by sorry
theorem d_Mo_value_8 : decode b_Mo_value 8 = .ok (.istore_n 3, 1) := by sorry
theorem d_Mo_value_9 : decode b_Mo_value 9 = .ok (.iload_n 3, 1) := by sorry
theorem d_Mo_value_10 : decode b_Mo_value 10 = .ok (.bipush 110, 2) := by sorry
theorem d_Mo_value_12 : decode b_Mo_value 12 = .ok (.if_icmp .eq 15, 3) := by sorry
theorem d_Mo_value_15 : decode b_Mo_value 15 = .ok (.iload_n 3, 1) := by sorry
theorem d_Mo_value_16 : decode b_Mo_value 16 = .ok (.bipush 116, 2) := by sorry
theorem d_Mo_value_18 : decode b_Mo_value 18 = .ok (.if_icmp .eq 9, 3) := by sorry
theorem d_Mo_value_21 : decode b_Mo_value 21 = .ok (.iload_n 3, 1) := by sorry
theorem d_Mo_value_22 : decode b_Mo_value 22 = .ok (.bipush 102, 2) := by sorry
theorem d_Mo_value_24 : decode b_Mo_value 24 = .ok (.if_icmp .ne 66, 3) := by sorry
theorem d_Mo_value_27 : decode b_Mo_value 27 = .ok (.aload_n 0, 1) := by sorry
theorem d_Mo_value_28 : decode b_Mo_value 28 = .ok (.iload_n 3, 1) := by sorry
theorem d_Mo_value_29 : decode b_Mo_value 29 = .ok (.bipush 110, 2) := by sorry
theorem d_Mo_value_31 : decode b_Mo_value 31 = .ok (.if_icmp .ne 8, 3) := by sorry
theorem d_Mo_value_34 : decode b_Mo_value 34 = .ok (.ldc 187, 2) := by sorry
theorem d_Mo_value_36 : decode b_Mo_value 36 = .ok (.goto 16, 3) := by sorry
theorem d_Mo_value_39 : decode b_Mo_value 39 = .ok (.iload_n 3, 1) := by sorry
theorem d_Mo_value_40 : decode b_Mo_value 40 = .ok (.bipush 116, 2) := by sorry
theorem d_Mo_value_42 : decode b_Mo_value 42 = .ok (.if_icmp .ne 8, 3) := by sorry
theorem d_Mo_value_45 : decode b_Mo_value 45 = .ok (.ldc 189, 2) := by sorry
theorem d_Mo_value_47 : decode b_Mo_value 47 = .ok (.goto 5, 3) := by sorry
theorem d_Mo_value_50 : decode b_Mo_value 50 = .ok (.ldc 191, 2) := by sorry
theorem d_Mo_value_52 : decode b_Mo_value 52 = .ok (.invokevirtual 193, 3) := by sorry
theorem d_Mo_value_55 : decode b_Mo_value 55 = .ok (.ifCond .ne 5, 3) := by sorry
theorem d_Mo_value_58 : decode b_Mo_value 58 = .ok (.iconst (-1), 1) := by sorry
theorem d_Mo_value_59 : decode b_Mo_value 59 = .ok (.ireturn, 1) := by sorry
theorem d_Mo_value_60 : decode b_Mo_value 60 = .ok (.aload_n 1, 1) := by sorry
theorem d_Mo_value_61 : decode b_Mo_value 61 = .ok (.iload_n 3, 1) := by sorry
theorem d_Mo_value_62 : decode b_Mo_value 62 = .ok (.bipush 110, 2) := by sorry
theorem d_Mo_value_64 : decode b_Mo_value 64 = .ok (.if_icmp .ne 7, 3) := by sorry
theorem d_Mo_value_67 : decode b_Mo_value 67 = .ok (.iconst 0, 1) := by sorry
theorem d_Mo_value_68 : decode b_Mo_value 68 = .ok (.goto 14, 3) := by sorry
theorem d_Mo_value_71 : decode b_Mo_value 71 = .ok (.iload_n 3, 1) := by sorry
theorem d_Mo_value_72 : decode b_Mo_value 72 = .ok (.bipush 116, 2) := by sorry
theorem d_Mo_value_74 : decode b_Mo_value 74 = .ok (.if_icmp .ne 7, 3) := by sorry
theorem d_Mo_value_77 : decode b_Mo_value 77 = .ok (.iconst 1, 1) := by sorry
theorem d_Mo_value_78 : decode b_Mo_value 78 = .ok (.goto 4, 3) := by sorry
theorem d_Mo_value_81 : decode b_Mo_value 81 = .ok (.iconst 2, 1) := by sorry
theorem d_Mo_value_82 : decode b_Mo_value 82 = .ok (.invokevirtual 197, 3) := by sorry
theorem d_Mo_value_85 : decode b_Mo_value 85 = .ok (.istore 4, 2) := by sorry
theorem d_Mo_value_87 : decode b_Mo_value 87 = .ok (.goto 166, 3) := by sorry
theorem d_Mo_value_90 : decode b_Mo_value 90 = .ok (.iload_n 3, 1) := by sorry
theorem d_Mo_value_91 : decode b_Mo_value 91 = .ok (.bipush 34, 2) := by sorry
theorem d_Mo_value_93 : decode b_Mo_value 93 = .ok (.if_icmp .ne 44, 3) := by sorry
theorem d_Mo_value_96 : decode b_Mo_value 96 = .ok (.aload_n 1, 1) := by sorry
theorem d_Mo_value_97 : decode b_Mo_value 97 = .ok (.iconst 4, 1) := by sorry
theorem d_Mo_value_98 : decode b_Mo_value 98 = .ok (.invokevirtual 197, 3) := by sorry
theorem d_Mo_value_101 : decode b_Mo_value 101 = .ok (.istore 4, 2) := by sorry
theorem d_Mo_value_103 : decode b_Mo_value 103 = .ok (.aload_n 0, 1) := by sorry
theorem d_Mo_value_104 : decode b_Mo_value 104 = .ok (.bipush 34, 2) := by sorry
theorem d_Mo_value_106 : decode b_Mo_value 106 = .ok (.aload_n 1, 1) := by sorry
theorem d_Mo_value_107 : decode b_Mo_value 107 = .ok (.invokevirtual 200, 3) := by sorry
theorem d_Mo_value_110 : decode b_Mo_value 110 = .ok (.ifCond .ne 5, 3) := by sorry
theorem d_Mo_value_113 : decode b_Mo_value 113 = .ok (.iconst (-1), 1) := by sorry
theorem d_Mo_value_114 : decode b_Mo_value 114 = .ok (.ireturn, 1) := by sorry
theorem d_Mo_value_115 : decode b_Mo_value 115 = .ok (.aload_n 1, 1) := by sorry
theorem d_Mo_value_116 : decode b_Mo_value 116 = .ok (.getfield 106, 3) := by sorry
theorem d_Mo_value_119 : decode b_Mo_value 119 = .ok (.iload 4, 2) := by sorry
theorem d_Mo_value_121 : decode b_Mo_value 121 = .ok (.aload_n 1, 1) := by sorry
theorem d_Mo_value_122 : decode b_Mo_value 122 = .ok (.getfield 204, 3) := by sorry
theorem d_Mo_value_125 : decode b_Mo_value 125 = .ok (.aload_n 1, 1) := by sorry
theorem d_Mo_value_126 : decode b_Mo_value 126 = .ok (.getfield 103, 3) := by sorry
theorem d_Mo_value_129 : decode b_Mo_value 129 = .ok (.iload 4, 2) := by sorry
theorem d_Mo_value_131 : decode b_Mo_value 131 = .ok (.iaload, 1) := by sorry
theorem d_Mo_value_132 : decode b_Mo_value 132 = .ok (.isub, 1) := by sorry
theorem d_Mo_value_133 : decode b_Mo_value 133 = .ok (.iastore, 1) := by sorry
theorem d_Mo_value_134 : decode b_Mo_value 134 = .ok (.goto 119, 3) := by sorry
theorem d_Mo_value_137 : decode b_Mo_value 137 = .ok (.iload_n 3, 1) := by sorry
theorem d_Mo_value_138 : decode b_Mo_value 138 = .ok (.bipush 45, 2) := by sorry
theorem d_Mo_value_140 : decode b_Mo_value 140 = .ok (.if_icmp .eq 10, 3) := by sorry
theorem d_Mo_value_143 : decode b_Mo_value 143 = .ok (.iload_n 3, 1) := by sorry
theorem d_Mo_value_144 : decode b_Mo_value 144 = .ok (.invokestatic 166, 3) := by sorry
theorem d_Mo_value_147 : decode b_Mo_value 147 = .ok (.ifCond .eq 22, 3) := by sorry
theorem d_Mo_value_150 : decode b_Mo_value 150 = .ok (.aload_n 1, 1) := by sorry
theorem d_Mo_value_151 : decode b_Mo_value 151 = .ok (.iconst 3, 1) := by sorry
theorem d_Mo_value_152 : decode b_Mo_value 152 = .ok (.invokevirtual 197, 3) := by sorry
theorem d_Mo_value_155 : decode b_Mo_value 155 = .ok (.istore 4, 2) := by sorry
theorem d_Mo_value_157 : decode b_Mo_value 157 = .ok (.aload_n 0, 1) := by sorry
theorem d_Mo_value_158 : decode b_Mo_value 158 = .ok (.aload_n 1, 1) := by sorry
theorem d_Mo_value_159 : decode b_Mo_value 159 = .ok (.iload 4, 2) := by sorry
theorem d_Mo_value_161 : decode b_Mo_value 161 = .ok (.invokevirtual 207, 3) := by sorry
theorem d_Mo_value_164 : decode b_Mo_value 164 = .ok (.ifCond .ne 89, 3) := by sorry
theorem d_Mo_value_167 : decode b_Mo_value 167 = .ok (.iconst (-1), 1) := by sorry
theorem d_Mo_value_168 : decode b_Mo_value 168 = .ok (.ireturn, 1) := by sorry
theorem d_Mo_value_169 : decode b_Mo_value 169 = .ok (.iload_n 3, 1) := by sorry
theorem d_Mo_value_170 : decode b_Mo_value 170 = .ok (.bipush 91, 2) := by sorry
theorem d_Mo_value_172 : decode b_Mo_value 172 = .ok (.if_icmp .eq 9, 3) := by sorry
theorem d_Mo_value_175 : decode b_Mo_value 175 = .ok (.iload_n 3, 1) := by sorry
theorem d_Mo_value_176 : decode b_Mo_value 176 = .ok (.bipush 123, 2) := by sorry
theorem d_Mo_value_178 : decode b_Mo_value 178 = .ok (.if_icmp .ne 64, 3) := by sorry
theorem d_Mo_value_181 : decode b_Mo_value 181 = .ok (.iload_n 2, 1) := by sorry
theorem d_Mo_value_182 : decode b_Mo_value 182 = .ok (.bipush 32, 2) := by sorry
theorem d_Mo_value_184 : decode b_Mo_value 184 = .ok (.if_icmp .ne 14, 3) := by sorry
theorem d_Mo_value_187 : decode b_Mo_value 187 = .ok (.aload_n 0, 1) := by sorry
theorem d_Mo_value_188 : decode b_Mo_value 188 = .ok (.aload_n 0, 1) := by sorry
theorem d_Mo_value_189 : decode b_Mo_value 189 = .ok (.getfield 135, 3) := by sorry
theorem d_Mo_value_192 : decode b_Mo_value 192 = .ok (.invokevirtual 151, 3) := by sorry
theorem d_Mo_value_195 : decode b_Mo_value 195 = .ok (.pop, 1) := by sorry
theorem d_Mo_value_196 : decode b_Mo_value 196 = .ok (.iconst (-1), 1) := by sorry
theorem d_Mo_value_197 : decode b_Mo_value 197 = .ok (.ireturn, 1) := by sorry
theorem d_Mo_value_198 : decode b_Mo_value 198 = .ok (.aload_n 1, 1) := by sorry
theorem d_Mo_value_199 : decode b_Mo_value 199 = .ok (.iload_n 3, 1) := by sorry
theorem d_Mo_value_200 : decode b_Mo_value 200 = .ok (.bipush 91, 2) := by sorry
theorem d_Mo_value_202 : decode b_Mo_value 202 = .ok (.if_icmp .ne 7, 3) := by sorry
theorem d_Mo_value_205 : decode b_Mo_value 205 = .ok (.iconst 5, 1) := by sorry
theorem d_Mo_value_206 : decode b_Mo_value 206 = .ok (.goto 5, 3) := by sorry
theorem d_Mo_value_209 : decode b_Mo_value 209 = .ok (.bipush 6, 2) := by sorry
theorem d_Mo_value_211 : decode b_Mo_value 211 = .ok (.invokevirtual 197, 3) := by sorry
theorem d_Mo_value_214 : decode b_Mo_value 214 = .ok (.istore 4, 2) := by sorry
theorem d_Mo_value_216 : decode b_Mo_value 216 = .ok (.aload_n 0, 1) := by sorry
theorem d_Mo_value_217 : decode b_Mo_value 217 = .ok (.aload_n 1, 1) := by sorry
theorem d_Mo_value_218 : decode b_Mo_value 218 = .ok (.iload 4, 2) := by sorry
theorem d_Mo_value_220 : decode b_Mo_value 220 = .ok (.iload_n 2, 1) := by sorry
theorem d_Mo_value_221 : decode b_Mo_value 221 = .ok (.iload_n 3, 1) := by sorry
theorem d_Mo_value_222 : decode b_Mo_value 222 = .ok (.bipush 91, 2) := by sorry
theorem d_Mo_value_224 : decode b_Mo_value 224 = .ok (.if_icmp .ne 8, 3) := by sorry
theorem d_Mo_value_227 : decode b_Mo_value 227 = .ok (.bipush 93, 2) := by sorry
theorem d_Mo_value_229 : decode b_Mo_value 229 = .ok (.goto 5, 3) := by sorry
theorem d_Mo_value_232 : decode b_Mo_value 232 = .ok (.bipush 125, 2) := by sorry
theorem d_Mo_value_234 : decode b_Mo_value 234 = .ok (.invokevirtual 211, 3) := by sorry
theorem d_Mo_value_237 : decode b_Mo_value 237 = .ok (.ifCond .ne 16, 3) := by sorry
theorem d_Mo_value_240 : decode b_Mo_value 240 = .ok (.iconst (-1), 1) := by sorry
theorem d_Mo_value_241 : decode b_Mo_value 241 = .ok (.ireturn, 1) := by sorry
theorem d_Mo_value_242 : decode b_Mo_value 242 = .ok (.aload_n 0, 1) := by sorry
theorem d_Mo_value_243 : decode b_Mo_value 243 = .ok (.aload_n 0, 1) := by sorry
theorem d_Mo_value_244 : decode b_Mo_value 244 = .ok (.getfield 135, 3) := by sorry
theorem d_Mo_value_247 : decode b_Mo_value 247 = .ok (.invokevirtual 151, 3) := by sorry
theorem d_Mo_value_250 : decode b_Mo_value 250 = .ok (.pop, 1) := by sorry
theorem d_Mo_value_251 : decode b_Mo_value 251 = .ok (.iconst (-1), 1) := by sorry
theorem d_Mo_value_252 : decode b_Mo_value 252 = .ok (.ireturn, 1) := by sorry
theorem d_Mo_value_253 : decode b_Mo_value 253 = .ok (.aload_n 0, 1) := by sorry
theorem d_Mo_value_254 : decode b_Mo_value 254 = .ok (.invokevirtual 184, 3) := by sorry
theorem d_Mo_value_257 : decode b_Mo_value 257 = .ok (.iload 4, 2) := by sorry
theorem d_Mo_value_259 : decode b_Mo_value 259 = .ok (.ireturn, 1) := by sorry
abbrev b_Mo_inside : ByteArray := prog_14_method_24_code
def y_Mo_inside : MethodName := ⟨"QueryBenchModel", "inside", "(LQueryBenchModel$Tree;III)Z"⟩
abbrev k_Mo_inside : Cond := .code y_Mo_inside b_Mo_inside 9 (some .boolean)
theorem i_Mo_inside : k_Mo_inside ∈ gtbl := by sorry
theorem d_Mo_inside_0 : decode b_Mo_inside 0 = .ok (.aload_n 0, 1) := by sorry
theorem d_Mo_inside_1 : decode b_Mo_inside 1 = .ok (.dup, 1) := by sorry
theorem d_Mo_inside_2 : decode b_Mo_inside 2 = .ok (.getfield 135, 3) := by sorry
theorem d_Mo_inside_5 : decode b_Mo_inside 5 = .ok (.iconst 1, 1) := by sorry
theorem d_Mo_inside_6 : decode b_Mo_inside 6 = .ok (.iadd, 1) := by sorry
theorem d_Mo_inside_7 : decode b_Mo_inside 7 = .ok (.putfield 135, 3) := by sorry
theorem d_Mo_inside_10 : decode b_Mo_inside 10 = .ok (.aload_n 0, 1) := by sorry
theorem d_Mo_inside_11 : decode b_Mo_inside 11 = .ok (.invokevirtual 184, 3) := by sorry
theorem d_Mo_inside_14 : decode b_Mo_inside 14 = .ok (.aload_n 0, 1) := by sorry
theorem d_Mo_inside_15 : decode b_Mo_inside 15 = .ok (.invokevirtual 147, 3) := by sorry
theorem d_Mo_inside_18 : decode b_Mo_inside 18 = .ok (.iload 4, 2) := by sorry
theorem d_Mo_inside_20 : decode b_Mo_inside 20 = .ok (.if_icmp .ne 15, 3) := by sorry
theorem d_Mo_inside_23 : decode b_Mo_inside 23 = .ok (.aload_n 0, 1) := by sorry
theorem d_Mo_inside_24 : decode b_Mo_inside 24 = .ok (.dup, 1) := by sorry
theorem d_Mo_inside_25 : decode b_Mo_inside 25 = .ok (.getfield 135, 3) := by sorry
theorem d_Mo_inside_28 : decode b_Mo_inside 28 = .ok (.iconst 1, 1) := by sorry
theorem d_Mo_inside_29 : decode b_Mo_inside 29 = .ok (.iadd, 1) := by sorry
theorem d_Mo_inside_30 : decode b_Mo_inside 30 = .ok (.putfield 135, 3) := by sorry
theorem d_Mo_inside_33 : decode b_Mo_inside 33 = .ok (.iconst 1, 1) := by sorry
theorem d_Mo_inside_34 : decode b_Mo_inside 34 = .ok (.ireturn, 1) := by sorry
theorem d_Mo_inside_35 : decode b_Mo_inside 35 = .ok (.iconst (-1), 1) := by sorry
theorem d_Mo_inside_36 : decode b_Mo_inside 36 = .ok (.istore 5, 2) := by sorry
theorem d_Mo_inside_38 : decode b_Mo_inside 38 = .ok (.iconst 0, 1) := by sorry
theorem d_Mo_inside_39 : decode b_Mo_inside 39 = .ok (.istore 6, 2) := by sorry
theorem d_Mo_inside_41 : decode b_Mo_inside 41 = .ok (.iconst 0, 1) := by sorry
theorem d_Mo_inside_42 : decode b_Mo_inside 42 = .ok (.istore 7, 2) := by sorry
theorem d_Mo_inside_44 : decode b_Mo_inside 44 = .ok (.iload 4, 2) := by sorry
theorem d_Mo_inside_46 : decode b_Mo_inside 46 = .ok (.bipush 125, 2) := by sorry
theorem d_Mo_inside_48 : decode b_Mo_inside 48 = .ok (.if_icmp .ne 93, 3) := by sorry
theorem d_Mo_inside_51 : decode b_Mo_inside 51 = .ok (.aload_n 0, 1) := by sorry
theorem d_Mo_inside_52 : decode b_Mo_inside 52 = .ok (.invokevirtual 184, 3) := by sorry
theorem d_Mo_inside_55 : decode b_Mo_inside 55 = .ok (.aload_n 0, 1) := by sorry
theorem d_Mo_inside_56 : decode b_Mo_inside 56 = .ok (.getfield 135, 3) := by sorry
theorem d_Mo_inside_59 : decode b_Mo_inside 59 = .ok (.istore 8, 2) := by sorry
theorem d_Mo_inside_61 : decode b_Mo_inside 61 = .ok (.aload_n 0, 1) := by sorry
theorem d_Mo_inside_62 : decode b_Mo_inside 62 = .ok (.invokevirtual 147, 3) := by sorry
theorem d_Mo_inside_65 : decode b_Mo_inside 65 = .ok (.bipush 34, 2) := by sorry
theorem d_Mo_inside_67 : decode b_Mo_inside 67 = .ok (.if_icmp .eq 12, 3) := by sorry
theorem d_Mo_inside_70 : decode b_Mo_inside 70 = .ok (.aload_n 0, 1) := by sorry
theorem d_Mo_inside_71 : decode b_Mo_inside 71 = .ok (.aload_n 0, 1) := by sorry
theorem d_Mo_inside_72 : decode b_Mo_inside 72 = .ok (.getfield 135, 3) := by sorry
theorem d_Mo_inside_75 : decode b_Mo_inside 75 = .ok (.invokevirtual 151, 3) := by sorry
theorem d_Mo_inside_78 : decode b_Mo_inside 78 = .ok (.ireturn, 1) := by sorry
theorem d_Mo_inside_79 : decode b_Mo_inside 79 = .ok (.aload_n 1, 1) := by sorry
theorem d_Mo_inside_80 : decode b_Mo_inside 80 = .ok (.getfield 204, 3) := by sorry
theorem d_Mo_inside_83 : decode b_Mo_inside 83 = .ok (.istore 6, 2) := by sorry
theorem d_Mo_inside_85 : decode b_Mo_inside 85 = .ok (.aload_n 0, 1) := by sorry
theorem d_Mo_inside_86 : decode b_Mo_inside 86 = .ok (.bipush 34, 2) := by sorry
theorem d_Mo_inside_88 : decode b_Mo_inside 88 = .ok (.aload_n 1, 1) := by sorry
theorem d_Mo_inside_89 : decode b_Mo_inside 89 = .ok (.invokevirtual 200, 3) := by sorry
theorem d_Mo_inside_92 : decode b_Mo_inside 92 = .ok (.ifCond .ne 5, 3) := by sorry
theorem d_Mo_inside_95 : decode b_Mo_inside 95 = .ok (.iconst 0, 1) := by sorry
theorem d_Mo_inside_96 : decode b_Mo_inside 96 = .ok (.ireturn, 1) := by sorry
theorem d_Mo_inside_97 : decode b_Mo_inside 97 = .ok (.aload_n 1, 1) := by sorry
theorem d_Mo_inside_98 : decode b_Mo_inside 98 = .ok (.getfield 204, 3) := by sorry
theorem d_Mo_inside_101 : decode b_Mo_inside 101 = .ok (.iload 6, 2) := by sorry
theorem d_Mo_inside_103 : decode b_Mo_inside 103 = .ok (.isub, 1) := by sorry
theorem d_Mo_inside_104 : decode b_Mo_inside 104 = .ok (.istore 7, 2) := by sorry
theorem d_Mo_inside_106 : decode b_Mo_inside 106 = .ok (.aload_n 1, 1) := by sorry
theorem d_Mo_inside_107 : decode b_Mo_inside 107 = .ok (.iload_n 2, 1) := by sorry
theorem d_Mo_inside_108 : decode b_Mo_inside 108 = .ok (.aload_n 1, 1) := by sorry
theorem d_Mo_inside_109 : decode b_Mo_inside 109 = .ok (.iload 6, 2) := by sorry
theorem d_Mo_inside_111 : decode b_Mo_inside 111 = .ok (.iload 7, 2) := by sorry
theorem d_Mo_inside_113 : decode b_Mo_inside 113 = .ok (.invokevirtual 95, 3) := by sorry
theorem d_Mo_inside_116 : decode b_Mo_inside 116 = .ok (.ifCond .lt 10, 3) := by sorry
theorem d_Mo_inside_119 : decode b_Mo_inside 119 = .ok (.aload_n 0, 1) := by sorry
theorem d_Mo_inside_120 : decode b_Mo_inside 120 = .ok (.iload 8, 2) := by sorry
theorem d_Mo_inside_122 : decode b_Mo_inside 122 = .ok (.invokevirtual 151, 3) := by sorry
theorem d_Mo_inside_125 : decode b_Mo_inside 125 = .ok (.ireturn, 1) := by sorry
theorem d_Mo_inside_126 : decode b_Mo_inside 126 = .ok (.aload_n 0, 1) := by sorry
theorem d_Mo_inside_127 : decode b_Mo_inside 127 = .ok (.invokevirtual 184, 3) := by sorry
theorem d_Mo_inside_130 : decode b_Mo_inside 130 = .ok (.aload_n 0, 1) := by sorry
theorem d_Mo_inside_131 : decode b_Mo_inside 131 = .ok (.bipush 58, 2) := by sorry
theorem d_Mo_inside_133 : decode b_Mo_inside 133 = .ok (.invokevirtual 163, 3) := by sorry
theorem d_Mo_inside_136 : decode b_Mo_inside 136 = .ok (.ifCond .ne 5, 3) := by sorry
theorem d_Mo_inside_139 : decode b_Mo_inside 139 = .ok (.iconst 0, 1) := by sorry
theorem d_Mo_inside_140 : decode b_Mo_inside 140 = .ok (.ireturn, 1) := by sorry
theorem d_Mo_inside_141 : decode b_Mo_inside 141 = .ok (.aload_n 0, 1) := by sorry
theorem d_Mo_inside_142 : decode b_Mo_inside 142 = .ok (.aload_n 1, 1) := by sorry
theorem d_Mo_inside_143 : decode b_Mo_inside 143 = .ok (.iload_n 3, 1) := by sorry
theorem d_Mo_inside_144 : decode b_Mo_inside 144 = .ok (.iconst 1, 1) := by sorry
theorem d_Mo_inside_145 : decode b_Mo_inside 145 = .ok (.iadd, 1) := by sorry
theorem d_Mo_inside_146 : decode b_Mo_inside 146 = .ok (.invokevirtual 221, 3) := by sorry
theorem d_Mo_inside_149 : decode b_Mo_inside 149 = .ok (.istore 8, 2) := by sorry
theorem d_Mo_inside_151 : decode b_Mo_inside 151 = .ok (.iload 8, 2) := by sorry
theorem d_Mo_inside_153 : decode b_Mo_inside 153 = .ok (.ifCond .ge 5, 3) := by sorry
theorem d_Mo_inside_156 : decode b_Mo_inside 156 = .ok (.iconst 0, 1) := by sorry
theorem d_Mo_inside_157 : decode b_Mo_inside 157 = .ok (.ireturn, 1) := by sorry
theorem d_Mo_inside_158 : decode b_Mo_inside 158 = .ok (.iload 4, 2) := by sorry
theorem d_Mo_inside_160 : decode b_Mo_inside 160 = .ok (.bipush 125, 2) := by sorry
theorem d_Mo_inside_162 : decode b_Mo_inside 162 = .ok (.if_icmp .ne 21, 3) := by sorry
theorem d_Mo_inside_165 : decode b_Mo_inside 165 = .ok (.aload_n 1, 1) := by sorry
theorem d_Mo_inside_166 : decode b_Mo_inside 166 = .ok (.getfield 89, 3) := by sorry
theorem d_Mo_inside_169 : decode b_Mo_inside 169 = .ok (.iload 8, 2) := by sorry
theorem d_Mo_inside_171 : decode b_Mo_inside 171 = .ok (.iload 6, 2) := by sorry
theorem d_Mo_inside_173 : decode b_Mo_inside 173 = .ok (.iastore, 1) := by sorry
theorem d_Mo_inside_174 : decode b_Mo_inside 174 = .ok (.aload_n 1, 1) := by sorry
theorem d_Mo_inside_175 : decode b_Mo_inside 175 = .ok (.getfield 92, 3) := by sorry
theorem d_Mo_inside_178 : decode b_Mo_inside 178 = .ok (.iload 8, 2) := by sorry
theorem d_Mo_inside_180 : decode b_Mo_inside 180 = .ok (.iload 7, 2) := by sorry
theorem d_Mo_inside_182 : decode b_Mo_inside 182 = .ok (.iastore, 1) := by sorry
theorem d_Mo_inside_183 : decode b_Mo_inside 183 = .ok (.aload_n 1, 1) := by sorry
theorem d_Mo_inside_184 : decode b_Mo_inside 184 = .ok (.iload_n 2, 1) := by sorry
theorem d_Mo_inside_185 : decode b_Mo_inside 185 = .ok (.iload 5, 2) := by sorry
theorem d_Mo_inside_187 : decode b_Mo_inside 187 = .ok (.iload 8, 2) := by sorry
theorem d_Mo_inside_189 : decode b_Mo_inside 189 = .ok (.invokevirtual 225, 3) := by sorry
theorem d_Mo_inside_192 : decode b_Mo_inside 192 = .ok (.iload 8, 2) := by sorry
theorem d_Mo_inside_194 : decode b_Mo_inside 194 = .ok (.istore 5, 2) := by sorry
theorem d_Mo_inside_196 : decode b_Mo_inside 196 = .ok (.aload_n 0, 1) := by sorry
theorem d_Mo_inside_197 : decode b_Mo_inside 197 = .ok (.invokevirtual 147, 3) := by sorry
theorem d_Mo_inside_200 : decode b_Mo_inside 200 = .ok (.iload 4, 2) := by sorry
theorem d_Mo_inside_202 : decode b_Mo_inside 202 = .ok (.if_icmp .ne 15, 3) := by sorry
theorem d_Mo_inside_205 : decode b_Mo_inside 205 = .ok (.aload_n 0, 1) := by sorry
theorem d_Mo_inside_206 : decode b_Mo_inside 206 = .ok (.dup, 1) := by sorry
theorem d_Mo_inside_207 : decode b_Mo_inside 207 = .ok (.getfield 135, 3) := by sorry
theorem d_Mo_inside_210 : decode b_Mo_inside 210 = .ok (.iconst 1, 1) := by sorry
theorem d_Mo_inside_211 : decode b_Mo_inside 211 = .ok (.iadd, 1) := by sorry
theorem d_Mo_inside_212 : decode b_Mo_inside 212 = .ok (.putfield 135, 3) := by sorry
theorem d_Mo_inside_215 : decode b_Mo_inside 215 = .ok (.iconst 1, 1) := by sorry
theorem d_Mo_inside_216 : decode b_Mo_inside 216 = .ok (.ireturn, 1) := by sorry
theorem d_Mo_inside_217 : decode b_Mo_inside 217 = .ok (.aload_n 0, 1) := by sorry
theorem d_Mo_inside_218 : decode b_Mo_inside 218 = .ok (.bipush 44, 2) := by sorry
theorem d_Mo_inside_220 : decode b_Mo_inside 220 = .ok (.invokevirtual 163, 3) := by sorry
theorem d_Mo_inside_223 : decode b_Mo_inside 223 = .ok (.ifCond .ne 5, 3) := by sorry
theorem d_Mo_inside_226 : decode b_Mo_inside 226 = .ok (.iconst 0, 1) := by sorry
theorem d_Mo_inside_227 : decode b_Mo_inside 227 = .ok (.ireturn, 1) := by sorry
theorem d_Mo_inside_228 : decode b_Mo_inside 228 = .ok (.goto (-190), 3) := by sorry
/-- what value does, at most r deep -/
def VC (r : Nat) : Prop := ∀ (l : Launch) (dC : Nat → ClassId) (dI : Nat → Nat → Nat) (mo : Nat) (sz : Heap) (v : Nat → Value) (cB cI cL cC : ClassId) (qx NN : Nat) (f : Nat → Int32) (n : Nat) (K : Nat → Nat × Nat) (t : Nat) (T : TS) (i : Nat) (br : Int32), n ≤ NN → NN ≤ 100000 → i ≤ n → v 6 = .ref qx → v 8 = .int (nI n) → TOK T → T.us + (n + 12 - i) ≤ 400000 → T.ct + (n + 12 - i) ≤ 400000 → Met l y_Mo_value (k_Mo_value :: gtbl) ({ frames := 8 + 2 * r, cells := ncap T (T.ct + (n + 12 - i)) + qcap T (T.us + (n + 12 - i)), slots := 20 * ncap T (T.ct + (n + 12 - i)) + 2 * qcap T (T.us + (n + 12 - i)), locals := 300 + 80 * r }) (va_Pc [.ref mo, .ref t, .int (nI (32 - r))] (me K dC dI [(mo, .inr (13, MF 30 (rf v i br))), (qx, .inl (cB, NN, .inl f)), (t, .inr (12, MF 13 (tw T))), (T.a0, .inl (cI, T.N, .inl T.kd)), (T.a1, .inl (cL, T.N, .inr (.inl T.nu))), (T.a2, .inl (cI, T.N, .inl T.st)), (T.a3, .inl (cI, T.N, .inl T.ln)), (T.a4, .inl (cI, T.N, .inl T.ki)), (T.a5, .inl (cI, T.N, .inl T.nx)), (T.a6, .inl (cI, T.N, .inl T.ns)), (T.a7, .inl (cI, T.N, .inl T.nl)), (T.a8, .inl (cI, T.N, .inl T.pa)), (T.a9, .inl (cI, T.N, .inl T.pl)), (T.au, .inl (cC, T.U, .inl T.un))] [(cB, .byte), (cI, .int), (cL, .long), (cC, .char)] sz)) (va_Qi (fun (res : Int32) (u : TS × Nat × Int32) => VPost f n r T i res u) (fun u t9 => mz dC dI [(mo, .inr (13, MF 30 (rf v u.2.1 u.2.2))), (qx, .inl (cB, NN, .inl f)), (t, .inr (12, MF 13 (tw u.1))), (u.1.a0, .inl (cI, u.1.N, .inl u.1.kd)), (u.1.a1, .inl (cL, u.1.N, .inr (.inl u.1.nu))), (u.1.a2, .inl (cI, u.1.N, .inl u.1.st)), (u.1.a3, .inl (cI, u.1.N, .inl u.1.ln)), (u.1.a4, .inl (cI, u.1.N, .inl u.1.ki)), (u.1.a5, .inl (cI, u.1.N, .inl u.1.nx)), (u.1.a6, .inl (cI, u.1.N, .inl u.1.ns)), (u.1.a7, .inl (cI, u.1.N, .inl u.1.nl)), (u.1.a8, .inl (cI, u.1.N, .inl u.1.pa)), (u.1.a9, .inl (cI, u.1.N, .inl u.1.pl)), (u.1.au, .inl (cC, u.1.U, .inl u.1.un))] [(cB, .byte), (cI, .int), (cL, .long), (cC, .char)] (va_A [(mo, .inr (13, MF 30 (rf v i br))), (qx, .inl (cB, NN, .inl f)), (t, .inr (12, MF 13 (tw T))), (T.a0, .inl (cI, T.N, .inl T.kd)), (T.a1, .inl (cL, T.N, .inr (.inl T.nu))), (T.a2, .inl (cI, T.N, .inl T.st)), (T.a3, .inl (cI, T.N, .inl T.ln)), (T.a4, .inl (cI, T.N, .inl T.ki)), (T.a5, .inl (cI, T.N, .inl T.nx)), (T.a6, .inl (cI, T.N, .inl T.ns)), (T.a7, .inl (cI, T.N, .inl T.nl)), (T.a8, .inl (cI, T.N, .inl T.pa)), (T.a9, .inl (cI, T.N, .inl T.pl)), (T.au, .inl (cC, T.U, .inl T.un))] sz.size) t9 ∧ szk sz t9.heap (cE T u.1) (sE T u.1)) (va_A [(mo, .inr (13, MF 30 (rf v i br))), (qx, .inl (cB, NN, .inl f)), (t, .inr (12, MF 13 (tw T))), (T.a0, .inl (cI, T.N, .inl T.kd)), (T.a1, .inl (cL, T.N, .inr (.inl T.nu))), (T.a2, .inl (cI, T.N, .inl T.st)), (T.a3, .inl (cI, T.N, .inl T.ln)), (T.a4, .inl (cI, T.N, .inl T.ki)), (T.a5, .inl (cI, T.N, .inl T.nx)), (T.a6, .inl (cI, T.N, .inl T.ns)), (T.a7, .inl (cI, T.N, .inl T.nl)), (T.a8, .inl (cI, T.N, .inl T.pa)), (T.a9, .inl (cI, T.N, .inl T.pl)), (T.au, .inl (cC, T.U, .inl T.un))] sz.size)) (ncap T (T.ct + (n + 12 - i)) + qcap T (T.us + (n + 12 - i))) (20 * ncap T (T.ct + (n + 12 - i)) + 2 * qcap T (T.us + (n + 12 - i))) (va_A [(mo, .inr (13, MF 30 (rf v i br))), (qx, .inl (cB, NN, .inl f)), (t, .inr (12, MF 13 (tw T))), (T.a0, .inl (cI, T.N, .inl T.kd)), (T.a1, .inl (cL, T.N, .inr (.inl T.nu))), (T.a2, .inl (cI, T.N, .inl T.st)), (T.a3, .inl (cI, T.N, .inl T.ln)), (T.a4, .inl (cI, T.N, .inl T.ki)), (T.a5, .inl (cI, T.N, .inl T.nx)), (T.a6, .inl (cI, T.N, .inl T.ns)), (T.a7, .inl (cI, T.N, .inl T.nl)), (T.a8, .inl (cI, T.N, .inl T.pa)), (T.a9, .inl (cI, T.N, .inl T.pl)), (T.au, .inl (cC, T.U, .inl T.un))] sz.size)
/-- what inside does, its members at most r deep -/
def IC (r : Nat) (op : Int32) : Prop := ∀ (l : Launch) (dC : Nat → ClassId) (dI : Nat → Nat → Nat) (mo : Nat) (sz : Heap) (v : Nat → Value) (cB cI cL cC : ClassId) (qx NN : Nat) (f : Nat → Int32) (n : Nat) (K : Nat → Nat × Nat) (t : Nat) (T : TS) (i : Nat) (br : Int32) (nd : Nat), n ≤ NN → NN ≤ 100000 → i < n → v 6 = .ref qx → v 8 = .int (nI n) → TOK T → T.us + (n + 12 - (i + 1)) ≤ 400000 → T.ct + (n + 12 - (i + 1)) ≤ 400000 → nd < T.ct → T.ki nd = -1 → Met l y_Mo_inside (k_Mo_inside :: gtbl) ({ frames := 9 + 2 * r, cells := ncap T (T.ct + (n + 12 - (i + 1))) + qcap T (T.us + (n + 12 - (i + 1))), slots := 20 * ncap T (T.ct + (n + 12 - (i + 1))) + 2 * qcap T (T.us + (n + 12 - (i + 1))), locals := 330 + 80 * r }) (va_Pc [.ref mo, .ref t, .int (nI nd), .int (nI (31 - r)), .int (clo op)] (me K dC dI [(mo, .inr (13, MF 30 (rf v i br))), (qx, .inl (cB, NN, .inl f)), (t, .inr (12, MF 13 (tw T))), (T.a0, .inl (cI, T.N, .inl T.kd)), (T.a1, .inl (cL, T.N, .inr (.inl T.nu))), (T.a2, .inl (cI, T.N, .inl T.st)), (T.a3, .inl (cI, T.N, .inl T.ln)), (T.a4, .inl (cI, T.N, .inl T.ki)), (T.a5, .inl (cI, T.N, .inl T.nx)), (T.a6, .inl (cI, T.N, .inl T.ns)), (T.a7, .inl (cI, T.N, .inl T.nl)), (T.a8, .inl (cI, T.N, .inl T.pa)), (T.a9, .inl (cI, T.N, .inl T.pl)), (T.au, .inl (cC, T.U, .inl T.un))] [(cB, .byte), (cI, .int), (cL, .long), (cC, .char)] sz)) (va_Qi (fun (res : Int32) (u : TS × Nat × Int32) => IPost f n r op T nd i res u) (fun u t9 => mz dC dI [(mo, .inr (13, MF 30 (rf v u.2.1 u.2.2))), (qx, .inl (cB, NN, .inl f)), (t, .inr (12, MF 13 (tw u.1))), (u.1.a0, .inl (cI, u.1.N, .inl u.1.kd)), (u.1.a1, .inl (cL, u.1.N, .inr (.inl u.1.nu))), (u.1.a2, .inl (cI, u.1.N, .inl u.1.st)), (u.1.a3, .inl (cI, u.1.N, .inl u.1.ln)), (u.1.a4, .inl (cI, u.1.N, .inl u.1.ki)), (u.1.a5, .inl (cI, u.1.N, .inl u.1.nx)), (u.1.a6, .inl (cI, u.1.N, .inl u.1.ns)), (u.1.a7, .inl (cI, u.1.N, .inl u.1.nl)), (u.1.a8, .inl (cI, u.1.N, .inl u.1.pa)), (u.1.a9, .inl (cI, u.1.N, .inl u.1.pl)), (u.1.au, .inl (cC, u.1.U, .inl u.1.un))] [(cB, .byte), (cI, .int), (cL, .long), (cC, .char)] (va_A [(mo, .inr (13, MF 30 (rf v i br))), (qx, .inl (cB, NN, .inl f)), (t, .inr (12, MF 13 (tw T))), (T.a0, .inl (cI, T.N, .inl T.kd)), (T.a1, .inl (cL, T.N, .inr (.inl T.nu))), (T.a2, .inl (cI, T.N, .inl T.st)), (T.a3, .inl (cI, T.N, .inl T.ln)), (T.a4, .inl (cI, T.N, .inl T.ki)), (T.a5, .inl (cI, T.N, .inl T.nx)), (T.a6, .inl (cI, T.N, .inl T.ns)), (T.a7, .inl (cI, T.N, .inl T.nl)), (T.a8, .inl (cI, T.N, .inl T.pa)), (T.a9, .inl (cI, T.N, .inl T.pl)), (T.au, .inl (cC, T.U, .inl T.un))] sz.size) t9 ∧ szk sz t9.heap (cE T u.1) (sE T u.1)) (va_A [(mo, .inr (13, MF 30 (rf v i br))), (qx, .inl (cB, NN, .inl f)), (t, .inr (12, MF 13 (tw T))), (T.a0, .inl (cI, T.N, .inl T.kd)), (T.a1, .inl (cL, T.N, .inr (.inl T.nu))), (T.a2, .inl (cI, T.N, .inl T.st)), (T.a3, .inl (cI, T.N, .inl T.ln)), (T.a4, .inl (cI, T.N, .inl T.ki)), (T.a5, .inl (cI, T.N, .inl T.nx)), (T.a6, .inl (cI, T.N, .inl T.ns)), (T.a7, .inl (cI, T.N, .inl T.nl)), (T.a8, .inl (cI, T.N, .inl T.pa)), (T.a9, .inl (cI, T.N, .inl T.pl)), (T.au, .inl (cC, T.U, .inl T.un))] sz.size)) (ncap T (T.ct + (n + 12 - (i + 1))) + qcap T (T.us + (n + 12 - (i + 1)))) (20 * ncap T (T.ct + (n + 12 - (i + 1))) + 2 * qcap T (T.us + (n + 12 - (i + 1)))) (va_A [(mo, .inr (13, MF 30 (rf v i br))), (qx, .inl (cB, NN, .inl f)), (t, .inr (12, MF 13 (tw T))), (T.a0, .inl (cI, T.N, .inl T.kd)), (T.a1, .inl (cL, T.N, .inr (.inl T.nu))), (T.a2, .inl (cI, T.N, .inl T.st)), (T.a3, .inl (cI, T.N, .inl T.ln)), (T.a4, .inl (cI, T.N, .inl T.ki)), (T.a5, .inl (cI, T.N, .inl T.nx)), (T.a6, .inl (cI, T.N, .inl T.ns)), (T.a7, .inl (cI, T.N, .inl T.nl)), (T.a8, .inl (cI, T.N, .inl T.pa)), (T.a9, .inl (cI, T.N, .inl T.pl)), (T.au, .inl (cC, T.U, .inl T.un))] sz.size)
theorem chn_lt {nx : Nat → Int32} {N : Nat} : ∀ {ks : List Nat} {k : Int32}, chn nx N ks k → ∀ a, a ∈ ks → a < N := by sorry
set_option maxHeartbeats 4000000 in
set_option maxRecDepth 100000 in
/-- the reference: inside, of a row -/
theorem c_insideA (r : Nat) (hr32 : r ≤ 31) (hVC : VC r) : IC r 91 := by sorry
set_option maxHeartbeats 4000000 in
set_option maxRecDepth 100000 in
/-- the reference: inside, of a map -/
theorem c_insideO (r : Nat) (hr32 : r ≤ 31) (hVC : VC r) : IC r 123 := by sorry
end
section
theorem w_1039 : (.fieldLink "QueryBenchModel" 103 "QueryBenchModel$Tree" "starts" "[I" : Cond) ∈ gtbl := by sorry
theorem w_1041 : (.fieldLink "QueryBenchModel" 106 "QueryBenchModel$Tree" "lengths" "[I" : Cond) ∈ gtbl := by sorry
theorem w_1240 : (.methodLink "QueryBenchModel" 193 ⟨"QueryBenchModel", "word", "(Ljava/lang/String;)Z"⟩ : Cond) ∈ gtbl := by sorry
theorem w_1242 : (.instanceMethod ⟨"QueryBenchModel", "word", "(Ljava/lang/String;)Z"⟩ : Cond) ∈ gtbl := by sorry
theorem w_1254 : (.methodLink "QueryBenchModel" 197 ⟨"QueryBenchModel$Tree", "add", "(I)I"⟩ : Cond) ∈ gtbl := by sorry
theorem w_1255 : (.instanceMethod ⟨"QueryBenchModel$Tree", "add", "(I)I"⟩ : Cond) ∈ gtbl := by sorry
theorem w_1256 : (.selects "QueryBenchModel$Tree" ⟨"QueryBenchModel$Tree", "add", "(I)I"⟩ ⟨"QueryBenchModel$Tree", "add", "(I)I"⟩ : Cond) ∈ gtbl := by sorry
theorem w_1339 : (.methodLink "QueryBenchModel" 207 ⟨"QueryBenchModel", "number", "(LQueryBenchModel$Tree;I)Z"⟩ : Cond) ∈ gtbl := by sorry
theorem w_1341 : (.instanceMethod ⟨"QueryBenchModel", "number", "(LQueryBenchModel$Tree;I)Z"⟩ : Cond) ∈ gtbl := by sorry
theorem w_1346 : (.methodLink "QueryBenchModel" 211 ⟨"QueryBenchModel", "inside", "(LQueryBenchModel$Tree;III)Z"⟩ : Cond) ∈ gtbl := by sorry
theorem w_1348 : (.instanceMethod ⟨"QueryBenchModel", "inside", "(LQueryBenchModel$Tree;III)Z"⟩ : Cond) ∈ gtbl := by sorry
theorem TE_of {T T2 T3 : TS} (h : TE T T2) (h1 : T3.ct = T2.ct) (h2 : T3.us = T2.us) (h3 : T3.un = T2.un) (h4 : alk T2 T3 (fun j => j < T.ct)) : TE T T3 := by sorry
theorem TB.toTE {T T1 T2 : TS} (h : TE T T1) (hb : TB T1 T2 T.ct) : TE T T2 := by sorry
theorem RepK_ob {β : Type} {rep : Nat → Nat → β → Prop} {T : TS} {ob ob2 : Prop} {a hi lo : Nat} {z k : Int32} {cs : List (List Int32 × β)} (e : ob ↔ ob2) (h : RepK rep T ob a hi z lo k cs) : RepK rep T ob2 a hi z lo k cs := by sorry
theorem dgM_at (f : Nat → Int32) (n : Nat) : ∀ (k j : Nat) (a : Int64), j ≤ (dgM f n k j a).2 := by sorry
theorem dgN_lt {f : Nat → Int32} {n i : Nat} (h : digH (hereV f n i)) : i < (dgN f n i).2 := by sorry
theorem nuB_lt {f : Nat → Int32} {n i : Nat} {mi : Bool} {p : Int64 × Nat} (h : nuB f n i mi = some p) : i < p.2 := by sorry
theorem numM_lt {f : Nat → Int32} {n i j : Nat} {x : Int64} (h : numM f n i = some (x, j)) : i < j := by sorry
set_option maxHeartbeats 4000000 in
set_option maxRecDepth 100000 in
/-- the reference: value -/
theorem c_value0 : VC 0 := by sorry
set_option maxHeartbeats 4000000 in
set_option maxRecDepth 100000 in
/-- the reference: value -/
theorem c_valueS (r : Nat) (hr32 : r + 1 ≤ 32) (hIA : IC r 91) (hIO : IC r 123) : VC (r + 1) := by sorry
theorem c_IC (r : Nat) (h : r ≤ 31) (hV : VC r) : IC r 91 ∧ IC r 123 := by sorry
/-- the reference: value, at every depth -/
theorem c_VC : ∀ r : Nat, r ≤ 32 → VC r := by sorry
end
section
theorem w_1221 : (.methodLink "QueryBenchModel" 229 ⟨"QueryBenchModel$Tree", "clear", "()V"⟩ : Cond) ∈ gtbl := by sorry
theorem w_1222 : (.instanceMethod ⟨"QueryBenchModel$Tree", "clear", "()V"⟩ : Cond) ∈ gtbl := by sorry
theorem w_1223 : (.selects "QueryBenchModel$Tree" ⟨"QueryBenchModel$Tree", "clear", "()V"⟩ ⟨"QueryBenchModel$Tree", "clear", "()V"⟩ : Cond) ∈ gtbl := by sorry
/-- a whole document -/
def pR (f : Nat → Int32) (n : Nat) : Option (JVt 32) := match pV f n 32 0 with
  | none => none
  | some p => if p.2 < n then none else some p.1
/-- the reader's text -/
def tx (v : Nat → Value) (qx n : Nat) : Nat → Value := va_up (va_up v 6 (.ref qx)) 8 (.int (nI n))
theorem tx_rf {v : Nat → Value} {qx n : Nat} : va_up (va_up (va_up (va_up v 6 (.ref qx)) 7 (.int 0)) 8 (.int (nI n))) 9 (.int (-1)) = rf (tx v qx n) 0 (-1) := by sorry
theorem tx_6 {v : Nat → Value} {qx n : Nat} : tx v qx n 6 = .ref qx := by sorry
theorem tx_8 {v : Nat → Value} {qx n : Nat} : tx v qx n 8 = .int (nI n) := by sorry
theorem tx_ne {v : Nat → Value} {qx n j : Nat} (h1 : j ≠ 6) (h2 : j ≠ 8) : tx v qx n j = v j := by sorry
def RPost (f : Nat → Int32) (n : Nat) (T : TS) (res : Int32) (u : TS × Nat × Int32) : Prop := TOK u.1 ∧ GB (n + 12) (n + 12) T u.1 ∧ ((∃ x, res = 0 ∧ pR f n = some x ∧ RepV u.1 32 0 u.1.ct x ∧ u.1.pa 0 = -1 ∧ 0 < u.1.ct ∧ u.1.ct ≤ n ∧ u.1.us ≤ n) ∨ (res = -1 ∧ pR f n = none))
abbrev b_Mo_readT : ByteArray := prog_14_method_25_code
def y_Mo_readT : MethodName := ⟨"QueryBenchModel", "read", "([BILQueryBenchModel$Tree;)I"⟩
abbrev k_Mo_readT : Cond := .code y_Mo_readT b_Mo_readT 5 (some .int)
theorem i_Mo_readT : k_Mo_readT ∈ gtbl := by sorry
theorem d_Mo_readT_0 : decode b_Mo_readT 0 = .ok (.aload_n 0, 1) := by sorry
theorem d_Mo_readT_1 : decode b_Mo_readT 1 = .ok (.aload_n 1, 1) := by sorry
theorem d_Mo_readT_2 : decode b_Mo_readT 2 = .ok (.putfield 141, 3) := by sorry
theorem d_Mo_readT_5 : decode b_Mo_readT 5 = .ok (.aload_n 0, 1) := by sorry
theorem d_Mo_readT_6 : decode b_Mo_readT 6 = .ok (.iconst 0, 1) := by sorry
theorem d_Mo_readT_7 : decode b_Mo_readT 7 = .ok (.putfield 135, 3) := by sorry
theorem d_Mo_readT_10 : decode b_Mo_readT 10 = .ok (.aload_n 0, 1) := by sorry
theorem d_Mo_readT_11 : decode b_Mo_readT 11 = .ok (.iload_n 2, 1) := by sorry
theorem d_Mo_readT_12 : decode b_Mo_readT 12 = .ok (.putfield 138, 3) := by sorry
theorem d_Mo_readT_15 : decode b_Mo_readT 15 = .ok (.aload_n 0, 1) := by sorry
theorem d_Mo_readT_16 : decode b_Mo_readT 16 = .ok (.iconst (-1), 1) := by sorry
theorem d_Mo_readT_17 : decode b_Mo_readT 17 = .ok (.putfield 144, 3) := by sorry
theorem d_Mo_readT_20 : decode b_Mo_readT 20 = .ok (.aload_n 3, 1) := by sorry
theorem d_Mo_readT_21 : decode b_Mo_readT 21 = .ok (.invokevirtual 229, 3) := by sorry
theorem d_Mo_readT_24 : decode b_Mo_readT 24 = .ok (.aload_n 0, 1) := by sorry
theorem d_Mo_readT_25 : decode b_Mo_readT 25 = .ok (.aload_n 3, 1) := by sorry
theorem d_Mo_readT_26 : decode b_Mo_readT 26 = .ok (.iconst 0, 1) := by sorry
theorem d_Mo_readT_27 : decode b_Mo_readT 27 = .ok (.invokevirtual 221, 3) := by sorry
theorem d_Mo_readT_30 : decode b_Mo_readT 30 = .ok (.istore 4, 2) := by sorry
theorem d_Mo_readT_32 : decode b_Mo_readT 32 = .ok (.iload 4, 2) := by sorry
theorem d_Mo_readT_34 : decode b_Mo_readT 34 = .ok (.ifCond .lt 25, 3) := by sorry
theorem d_Mo_readT_37 : decode b_Mo_readT 37 = .ok (.aload_n 0, 1) := by sorry
theorem d_Mo_readT_38 : decode b_Mo_readT 38 = .ok (.getfield 135, 3) := by sorry
theorem d_Mo_readT_41 : decode b_Mo_readT 41 = .ok (.aload_n 0, 1) := by sorry
theorem d_Mo_readT_42 : decode b_Mo_readT 42 = .ok (.getfield 138, 3) := by sorry
theorem d_Mo_readT_45 : decode b_Mo_readT 45 = .ok (.if_icmp .ge 14, 3) := by sorry
theorem d_Mo_readT_48 : decode b_Mo_readT 48 = .ok (.aload_n 0, 1) := by sorry
theorem d_Mo_readT_49 : decode b_Mo_readT 49 = .ok (.aload_n 0, 1) := by sorry
theorem d_Mo_readT_50 : decode b_Mo_readT 50 = .ok (.getfield 135, 3) := by sorry
theorem d_Mo_readT_53 : decode b_Mo_readT 53 = .ok (.invokevirtual 151, 3) := by sorry
theorem d_Mo_readT_56 : decode b_Mo_readT 56 = .ok (.pop, 1) := by sorry
theorem d_Mo_readT_57 : decode b_Mo_readT 57 = .ok (.iconst (-1), 1) := by sorry
theorem d_Mo_readT_58 : decode b_Mo_readT 58 = .ok (.ireturn, 1) := by sorry
theorem d_Mo_readT_59 : decode b_Mo_readT 59 = .ok (.iload 4, 2) := by sorry
theorem d_Mo_readT_61 : decode b_Mo_readT 61 = .ok (.ireturn, 1) := by sorry
set_option maxHeartbeats 4000000 in
set_option maxRecDepth 100000 in
/-- the reference: read a document -/
theorem c_Mo_readT (l : Launch) (dC : Nat → ClassId) (dI : Nat → Nat → Nat) (mo : Nat) (sz : Heap) (v : Nat → Value) (cB cI cL cC : ClassId) (qx NN : Nat) (f : Nat → Int32) (n : Nat) (K : Nat → Nat × Nat) (t : Nat) (T : TS) (hnN : n ≤ NN) (hNN : NN ≤ 100000) (hT : TOK T) : Met l y_Mo_readT (k_Mo_readT :: gtbl) ({ frames := 73, cells := ncap T (n + 12) + qcap T (n + 12), slots := 20 * ncap T (n + 12) + 2 * qcap T (n + 12), locals := 2900 }) (va_Pc [.ref mo, .ref qx, .int (nI n), .ref t] (me K dC dI [(mo, .inr (13, MF 30 v)), (qx, .inl (cB, NN, .inl f)), (t, .inr (12, MF 13 (tw T))), (T.a0, .inl (cI, T.N, .inl T.kd)), (T.a1, .inl (cL, T.N, .inr (.inl T.nu))), (T.a2, .inl (cI, T.N, .inl T.st)), (T.a3, .inl (cI, T.N, .inl T.ln)), (T.a4, .inl (cI, T.N, .inl T.ki)), (T.a5, .inl (cI, T.N, .inl T.nx)), (T.a6, .inl (cI, T.N, .inl T.ns)), (T.a7, .inl (cI, T.N, .inl T.nl)), (T.a8, .inl (cI, T.N, .inl T.pa)), (T.a9, .inl (cI, T.N, .inl T.pl)), (T.au, .inl (cC, T.U, .inl T.un))] [(cB, .byte), (cI, .int), (cL, .long), (cC, .char)] sz)) (va_Qi (fun (res : Int32) (u : TS × Nat × Int32) => RPost f n T res u) (fun u t9 => mz dC dI [(mo, .inr (13, MF 30 (rf (tx v qx n) u.2.1 u.2.2))), (qx, .inl (cB, NN, .inl f)), (t, .inr (12, MF 13 (tw u.1))), (u.1.a0, .inl (cI, u.1.N, .inl u.1.kd)), (u.1.a1, .inl (cL, u.1.N, .inr (.inl u.1.nu))), (u.1.a2, .inl (cI, u.1.N, .inl u.1.st)), (u.1.a3, .inl (cI, u.1.N, .inl u.1.ln)), (u.1.a4, .inl (cI, u.1.N, .inl u.1.ki)), (u.1.a5, .inl (cI, u.1.N, .inl u.1.nx)), (u.1.a6, .inl (cI, u.1.N, .inl u.1.ns)), (u.1.a7, .inl (cI, u.1.N, .inl u.1.nl)), (u.1.a8, .inl (cI, u.1.N, .inl u.1.pa)), (u.1.a9, .inl (cI, u.1.N, .inl u.1.pl)), (u.1.au, .inl (cC, u.1.U, .inl u.1.un))] [(cB, .byte), (cI, .int), (cL, .long), (cC, .char)] (va_A [(mo, .inr (13, MF 30 v)), (qx, .inl (cB, NN, .inl f)), (t, .inr (12, MF 13 (tw T))), (T.a0, .inl (cI, T.N, .inl T.kd)), (T.a1, .inl (cL, T.N, .inr (.inl T.nu))), (T.a2, .inl (cI, T.N, .inl T.st)), (T.a3, .inl (cI, T.N, .inl T.ln)), (T.a4, .inl (cI, T.N, .inl T.ki)), (T.a5, .inl (cI, T.N, .inl T.nx)), (T.a6, .inl (cI, T.N, .inl T.ns)), (T.a7, .inl (cI, T.N, .inl T.nl)), (T.a8, .inl (cI, T.N, .inl T.pa)), (T.a9, .inl (cI, T.N, .inl T.pl)), (T.au, .inl (cC, T.U, .inl T.un))] sz.size) t9 ∧ szk sz t9.heap (cE T u.1) (sE T u.1)) (va_A [(mo, .inr (13, MF 30 v)), (qx, .inl (cB, NN, .inl f)), (t, .inr (12, MF 13 (tw T))), (T.a0, .inl (cI, T.N, .inl T.kd)), (T.a1, .inl (cL, T.N, .inr (.inl T.nu))), (T.a2, .inl (cI, T.N, .inl T.st)), (T.a3, .inl (cI, T.N, .inl T.ln)), (T.a4, .inl (cI, T.N, .inl T.ki)), (T.a5, .inl (cI, T.N, .inl T.nx)), (T.a6, .inl (cI, T.N, .inl T.ns)), (T.a7, .inl (cI, T.N, .inl T.nl)), (T.a8, .inl (cI, T.N, .inl T.pa)), (T.a9, .inl (cI, T.N, .inl T.pl)), (T.au, .inl (cC, T.U, .inl T.un))] sz.size)) (ncap T (n + 12) + qcap T (n + 12)) (20 * ncap T (n + 12) + 2 * qcap T (n + 12)) (va_A [(mo, .inr (13, MF 30 v)), (qx, .inl (cB, NN, .inl f)), (t, .inr (12, MF 13 (tw T))), (T.a0, .inl (cI, T.N, .inl T.kd)), (T.a1, .inl (cL, T.N, .inr (.inl T.nu))), (T.a2, .inl (cI, T.N, .inl T.st)), (T.a3, .inl (cI, T.N, .inl T.ln)), (T.a4, .inl (cI, T.N, .inl T.ki)), (T.a5, .inl (cI, T.N, .inl T.nx)), (T.a6, .inl (cI, T.N, .inl T.ns)), (T.a7, .inl (cI, T.N, .inl T.nl)), (T.a8, .inl (cI, T.N, .inl T.pa)), (T.a9, .inl (cI, T.N, .inl T.pl)), (T.au, .inl (cC, T.U, .inl T.un))] sz.size) := by sorry
end
section
theorem w_1382 : (.constantLong "QueryBenchModel" 242 (-10) : Cond) ∈ gtbl := by sorry
/-- the power of ten that a number begins with -/
def tenK (m : Nat) : Nat → Nat → Nat
  | 0, k => k
  | f + 1, k => if 10 ≤ m / 10 ^ k then tenK m f (k + 1) else k
def dgK (m : Nat) : Nat → List Int32
  | 0 => []
  | c + 1 => (48 + nI (m / 10 ^ c % 10)) :: dgK m c
def nmB (v : Int64) : List Int32 := (if v.toInt < 0 then [45] else []) ++ dgK v.toInt.natAbs (tenK v.toInt.natAbs 16 0 + 1)
def tK (c : Nat) : Int64 := if c = 0 then 0 else Int64.ofNat (10 ^ (c - 1))
abbrev smL (v : Int64) : Prop := -(10 ^ 16 : Int) < v.toInt ∧ v.toInt < 10 ^ 16
theorem p10_lt {k : Nat} (h : k ≤ 16) : 10 ^ k < 2 ^ 62 := by sorry
theorem toI_ofN {t : Nat} (ht : t < 2 ^ 62) : (Int64.ofNat t).toInt = (t : Int) := by sorry
theorem tdiv_small {v : Int64} {t : Nat} (ht2 : t < 2 ^ 62) (h : smL v) : (v / Int64.ofNat t).toInt = v.toInt.tdiv (t : Int) := by sorry
theorem tdiv_abs (a : Int) (t : Nat) : (a.tdiv (t : Int)).natAbs = a.natAbs / t := by sorry
theorem ten_ge {v : Int64} {k : Nat} (hk : k ≤ 16) (h : smL v) : (10 ≤ v / Int64.ofNat (10 ^ k) ∨ v / Int64.ofNat (10 ^ k) ≤ -10) ↔ 10 ≤ v.toInt.natAbs / 10 ^ k := by sorry
theorem ten_mul (k : Nat) : Int64.ofNat (10 ^ k) * 10 = Int64.ofNat (10 ^ (k + 1)) := by sorry
theorem tK_s {k : Nat} : tK (k + 1) = Int64.ofNat (10 ^ k) := by sorry
theorem tK_pos {c : Nat} (h : c ≤ 17) : tK c ≤ 0 ↔ c = 0 := by sorry
theorem tK_div {c : Nat} (h : c ≤ 16) : tK (c + 1) / 10 = tK c := by sorry
theorem dig_eq {v : Int64} {k : Nat} (hk : k ≤ 16) (h : smL v) : (48 + (if 0 ≤ v / Int64.ofNat (10 ^ k) % 10 then v / Int64.ofNat (10 ^ k) % 10 else -(v / Int64.ofNat (10 ^ k) % 10)).toInt32 : Int32) = 48 + nI (v.toInt.natAbs / 10 ^ k % 10) := by sorry
theorem rem_eq {q : Int64} (h : smL q) : q - q / 10 * 10 = q % 10 := by sorry
theorem smL_div {v : Int64} {t : Int64} (e : (v / t).toInt = v.toInt.tdiv t.toInt) (h : smL v) : smL (v / t) := by sorry
theorem and15 (x : Int32) : ∃ m, m < 16 ∧ x &&& 15 = nI m := by sorry
abbrev PS : Type := Nat × Int32 × (Nat → Int32)
/-- the pen writes these -/
def penL (s : PS) (l : List Int32) : PS := l.foldl pen1 s
theorem penL_snoc {s : PS} {l : List Int32} {x : Int32} : pen1 (penL s l) x = penL s (l ++ [x]) := by sorry
theorem penL_le {s : PS} (h : s.1 ≤ 16384) : ∀ (l : List Int32), (penL s l).1 ≤ 16384 := by sorry
theorem penL_app {s : PS} {l k : List Int32} : penL (penL s l) k = penL s (l ++ k) := by sorry
theorem penN_L {b : Nat → Int32} {s : PS} : ∀ (j : Nat), penN b s j = penL s ((List.range j).map (fun i => b i &&& 255)) := by sorry
def hxD (x : Int32) : Int32 := mtx 6 (x &&& 15).toNatClampNeg &&& 255
def escK (u : Int32) : Int32 := if u = 8 then 0 else if u = 9 then 1 else if u = 10 then 2 else if u = 12 then 3 else if u = 13 then 4 else -1
/-- how a unit is written -/
def unB (q u : Int32) : List Int32 := if u = q ∨ u = 92 then [92, u] else if ¬ escK u < 0 then [92, mtx 4 (escK u).toNatClampNeg &&& 255] else if u < 32 ∨ ¬ u ≤ 126 then [92, 117, hxD (u >>> (12 &&& 31)), hxD (u >>> (8 &&& 31)), hxD (u >>> (4 &&& 31)), hxD (u >>> (0 &&& 31))] else [u]
def unL (q : Int32) (l : List Int32) : List Int32 := [q] ++ l.flatMap (unB q) ++ [q]
abbrev b_Mo_numberJ : ByteArray := prog_14_method_27_code
def y_Mo_numberJ : MethodName := ⟨"QueryBenchModel", "number", "(J)V"⟩
abbrev k_Mo_numberJ : Cond := .code y_Mo_numberJ b_Mo_numberJ 9 none
theorem i_Mo_numberJ : k_Mo_numberJ ∈ gtbl := by sorry
theorem d_Mo_numberJ_0 : decode b_Mo_numberJ 0 = .ok (.lload_n 1, 1) := by sorry
theorem d_Mo_numberJ_1 : decode b_Mo_numberJ 1 = .ok (.lconst 0, 1) := by sorry
theorem d_Mo_numberJ_2 : decode b_Mo_numberJ 2 = .ok (.lcmp, 1) := by sorry
theorem d_Mo_numberJ_3 : decode b_Mo_numberJ 3 = .ok (.ifCond .ge 9, 3) := by sorry
theorem d_Mo_numberJ_6 : decode b_Mo_numberJ 6 = .ok (.aload_n 0, 1) := by sorry
theorem d_Mo_numberJ_7 : decode b_Mo_numberJ 7 = .ok (.bipush 45, 2) := by sorry
theorem d_Mo_numberJ_9 : decode b_Mo_numberJ 9 = .ok (.invokevirtual 239, 3) := by sorry
theorem d_Mo_numberJ_12 : decode b_Mo_numberJ 12 = .ok (.lconst 1, 1) := by sorry
theorem d_Mo_numberJ_13 : decode b_Mo_numberJ 13 = .ok (.lstore_n 3, 1) := by sorry
theorem d_Mo_numberJ_14 : decode b_Mo_numberJ 14 = .ok (.lload_n 1, 1) := by sorry
theorem d_Mo_numberJ_15 : decode b_Mo_numberJ 15 = .ok (.lload_n 3, 1) := by sorry
theorem d_Mo_numberJ_16 : decode b_Mo_numberJ 16 = .ok (.ldiv, 1) := by sorry
theorem d_Mo_numberJ_17 : decode b_Mo_numberJ 17 = .ok (.ldc2_w 217, 3) := by sorry
theorem d_Mo_numberJ_20 : decode b_Mo_numberJ 20 = .ok (.lcmp, 1) := by sorry
theorem d_Mo_numberJ_21 : decode b_Mo_numberJ 21 = .ok (.ifCond .ge 13, 3) := by sorry
theorem d_Mo_numberJ_24 : decode b_Mo_numberJ 24 = .ok (.lload_n 1, 1) := by sorry
theorem d_Mo_numberJ_25 : decode b_Mo_numberJ 25 = .ok (.lload_n 3, 1) := by sorry
theorem d_Mo_numberJ_26 : decode b_Mo_numberJ 26 = .ok (.ldiv, 1) := by sorry
theorem d_Mo_numberJ_27 : decode b_Mo_numberJ 27 = .ok (.ldc2_w 242, 3) := by sorry
theorem d_Mo_numberJ_30 : decode b_Mo_numberJ 30 = .ok (.lcmp, 1) := by sorry
theorem d_Mo_numberJ_31 : decode b_Mo_numberJ 31 = .ok (.ifCond .gt 12, 3) := by sorry
theorem d_Mo_numberJ_34 : decode b_Mo_numberJ 34 = .ok (.lload_n 3, 1) := by sorry
theorem d_Mo_numberJ_35 : decode b_Mo_numberJ 35 = .ok (.ldc2_w 217, 3) := by sorry
theorem d_Mo_numberJ_38 : decode b_Mo_numberJ 38 = .ok (.lmul, 1) := by sorry
theorem d_Mo_numberJ_39 : decode b_Mo_numberJ 39 = .ok (.lstore_n 3, 1) := by sorry
theorem d_Mo_numberJ_40 : decode b_Mo_numberJ 40 = .ok (.goto (-26), 3) := by sorry
theorem d_Mo_numberJ_43 : decode b_Mo_numberJ 43 = .ok (.lload_n 3, 1) := by sorry
theorem d_Mo_numberJ_44 : decode b_Mo_numberJ 44 = .ok (.lstore 5, 2) := by sorry
theorem d_Mo_numberJ_46 : decode b_Mo_numberJ 46 = .ok (.lload 5, 2) := by sorry
theorem d_Mo_numberJ_48 : decode b_Mo_numberJ 48 = .ok (.lconst 0, 1) := by sorry
theorem d_Mo_numberJ_49 : decode b_Mo_numberJ 49 = .ok (.lcmp, 1) := by sorry
theorem d_Mo_numberJ_50 : decode b_Mo_numberJ 50 = .ok (.ifCond .le 47, 3) := by sorry
theorem d_Mo_numberJ_53 : decode b_Mo_numberJ 53 = .ok (.lload_n 1, 1) := by sorry
theorem d_Mo_numberJ_54 : decode b_Mo_numberJ 54 = .ok (.lload 5, 2) := by sorry
theorem d_Mo_numberJ_56 : decode b_Mo_numberJ 56 = .ok (.ldiv, 1) := by sorry
theorem d_Mo_numberJ_57 : decode b_Mo_numberJ 57 = .ok (.ldc2_w 217, 3) := by sorry
theorem d_Mo_numberJ_60 : decode b_Mo_numberJ 60 = .ok (.lrem, 1) := by sorry
theorem d_Mo_numberJ_61 : decode b_Mo_numberJ 61 = .ok (.lstore 7, 2) := by sorry
theorem d_Mo_numberJ_63 : decode b_Mo_numberJ 63 = .ok (.aload_n 0, 1) := by sorry
theorem d_Mo_numberJ_64 : decode b_Mo_numberJ 64 = .ok (.bipush 48, 2) := by sorry
theorem d_Mo_numberJ_66 : decode b_Mo_numberJ 66 = .ok (.lload 7, 2) := by sorry
theorem d_Mo_numberJ_68 : decode b_Mo_numberJ 68 = .ok (.lconst 0, 1) := by sorry
theorem d_Mo_numberJ_69 : decode b_Mo_numberJ 69 = .ok (.lcmp, 1) := by sorry
theorem d_Mo_numberJ_70 : decode b_Mo_numberJ 70 = .ok (.ifCond .ge 9, 3) := by sorry
theorem d_Mo_numberJ_73 : decode b_Mo_numberJ 73 = .ok (.lload 7, 2) := by sorry
theorem d_Mo_numberJ_75 : decode b_Mo_numberJ 75 = .ok (.lneg, 1) := by sorry
theorem d_Mo_numberJ_76 : decode b_Mo_numberJ 76 = .ok (.goto 5, 3) := by sorry
theorem d_Mo_numberJ_79 : decode b_Mo_numberJ 79 = .ok (.lload 7, 2) := by sorry
theorem d_Mo_numberJ_81 : decode b_Mo_numberJ 81 = .ok (.l2i, 1) := by sorry
theorem d_Mo_numberJ_82 : decode b_Mo_numberJ 82 = .ok (.iadd, 1) := by sorry
theorem d_Mo_numberJ_83 : decode b_Mo_numberJ 83 = .ok (.invokevirtual 239, 3) := by sorry
theorem d_Mo_numberJ_86 : decode b_Mo_numberJ 86 = .ok (.lload 5, 2) := by sorry
theorem d_Mo_numberJ_88 : decode b_Mo_numberJ 88 = .ok (.ldc2_w 217, 3) := by sorry
theorem d_Mo_numberJ_91 : decode b_Mo_numberJ 91 = .ok (.ldiv, 1) := by sorry
theorem d_Mo_numberJ_92 : decode b_Mo_numberJ 92 = .ok (.lstore 5, 2) := by sorry
theorem d_Mo_numberJ_94 : decode b_Mo_numberJ 94 = .ok (.goto (-48), 3) := by sorry
theorem d_Mo_numberJ_97 : decode b_Mo_numberJ 97 = .ok (.return_, 1) := by sorry
set_option maxHeartbeats 4000000 in
set_option maxRecDepth 100000 in
/-- the reference: number(long) -/
theorem c_Mo_numberJ (l : Launch) (dC : Nat → ClassId) (dI : Nat → Nat → Nat) (mo : Nat) (sz : Heap) (v : Nat → Value) (cB : ClassId) (qo : Nat) (s0 : PS) (x9 : Int64) (hk0 : s0.1 ≤ 16384) (h10 : v 10 = .ref qo) (hsm : smL x9) : Met l y_Mo_numberJ (k_Mo_numberJ :: gtbl) ({ frames := 1, cells := 0, slots := 0, locals := 30 }) (va_Pc [.ref mo, .long x9] (mp dC dI [(mo, .inr (13, MF 30 (nf v s0.1 s0.2.1))), (qo, .inl (cB, 16392, .inl s0.2.2))] [(cB, .byte)] sz)) (va_Qv (fun (_ : Unit) => True) (fun _ => mz dC dI [(mo, .inr (13, MF 30 (nf v (penL s0 (nmB x9)).1 (penL s0 (nmB x9)).2.1))), (qo, .inl (cB, 16392, .inl (penL s0 (nmB x9)).2.2))] [(cB, .byte)] (va_A [(mo, .inr (13, MF 30 (nf v s0.1 s0.2.1))), (qo, .inl (cB, 16392, .inl s0.2.2))] sz.size)) (va_A [(mo, .inr (13, MF 30 (nf v s0.1 s0.2.1))), (qo, .inl (cB, 16392, .inl s0.2.2))] sz.size)) 0 0 (va_A [(mo, .inr (13, MF 30 (nf v s0.1 s0.2.1))), (qo, .inl (cB, 16392, .inl s0.2.2))] sz.size) := by sorry
end
section
theorem w_1056 : (.fieldLink "QueryBenchModel" 107 "QueryBenchModel$Tree" "units" "[C" : Cond) ∈ gtbl := by sorry
theorem w_1370 : (.methodLink "QueryBenchModel" 248 ⟨"QueryBenchModel", "write", "(Ljava/lang/String;)V"⟩ : Cond) ∈ gtbl := by sorry
theorem w_1372 : (.instanceMethod ⟨"QueryBenchModel", "write", "(Ljava/lang/String;)V"⟩ : Cond) ∈ gtbl := by sorry
def upL (q : Int32) (u : Nat → Int32) : Nat → List Int32
  | 0 => [q]
  | j + 1 => upL q u j ++ unB q (u j)
theorem upL_sl {q : Int32} {u : Nat → Int32} {s : Nat} : ∀ (n : Nat), upL q (fun i => u (s + i)) n ++ [q] = unL q (sl u s n) := by sorry
theorem hxD_eq {x : Int32} {m : Nat} (hm : m < 16) (h : x &&& 15 = nI m) : hxD x = mtx 6 m &&& 255 := by sorry
abbrev b_Mo_units : ByteArray := prog_14_method_29_code
def y_Mo_units : MethodName := ⟨"QueryBenchModel", "units", "(LQueryBenchModel$Tree;III)V"⟩
abbrev k_Mo_units : Cond := .code y_Mo_units b_Mo_units 9 none
theorem i_Mo_units : k_Mo_units ∈ gtbl := by sorry
theorem d_Mo_units_0 : decode b_Mo_units 0 = .ok (.aload_n 0, 1) := by sorry
theorem d_Mo_units_1 : decode b_Mo_units 1 = .ok (.iload 4, 2) := by sorry
theorem d_Mo_units_3 : decode b_Mo_units 3 = .ok (.invokevirtual 239, 3) := by sorry
theorem d_Mo_units_6 : decode b_Mo_units 6 = .ok (.iload_n 2, 1) := by sorry
theorem d_Mo_units_7 : decode b_Mo_units 7 = .ok (.istore 5, 2) := by sorry
theorem d_Mo_units_9 : decode b_Mo_units 9 = .ok (.iload 5, 2) := by sorry
theorem d_Mo_units_11 : decode b_Mo_units 11 = .ok (.iload_n 2, 1) := by sorry
theorem d_Mo_units_12 : decode b_Mo_units 12 = .ok (.iload_n 3, 1) := by sorry
theorem d_Mo_units_13 : decode b_Mo_units 13 = .ok (.iadd, 1) := by sorry
theorem d_Mo_units_14 : decode b_Mo_units 14 = .ok (.if_icmp .ge 191, 3) := by sorry
theorem d_Mo_units_17 : decode b_Mo_units 17 = .ok (.aload_n 1, 1) := by sorry
theorem d_Mo_units_18 : decode b_Mo_units 18 = .ok (.getfield 107, 3) := by sorry
theorem d_Mo_units_21 : decode b_Mo_units 21 = .ok (.iload 5, 2) := by sorry
theorem d_Mo_units_23 : decode b_Mo_units 23 = .ok (.caload, 1) := by sorry
theorem d_Mo_units_24 : decode b_Mo_units 24 = .ok (.istore 6, 2) := by sorry
theorem d_Mo_units_26 : decode b_Mo_units 26 = .ok (.iload 6, 2) := by sorry
theorem d_Mo_units_28 : decode b_Mo_units 28 = .ok (.bipush 8, 2) := by sorry
theorem d_Mo_units_30 : decode b_Mo_units 30 = .ok (.if_icmp .ne 7, 3) := by sorry
theorem d_Mo_units_33 : decode b_Mo_units 33 = .ok (.iconst 0, 1) := by sorry
theorem d_Mo_units_34 : decode b_Mo_units 34 = .ok (.goto 48, 3) := by sorry
theorem d_Mo_units_37 : decode b_Mo_units 37 = .ok (.iload 6, 2) := by sorry
theorem d_Mo_units_39 : decode b_Mo_units 39 = .ok (.bipush 9, 2) := by sorry
theorem d_Mo_units_41 : decode b_Mo_units 41 = .ok (.if_icmp .ne 7, 3) := by sorry
theorem d_Mo_units_44 : decode b_Mo_units 44 = .ok (.iconst 1, 1) := by sorry
theorem d_Mo_units_45 : decode b_Mo_units 45 = .ok (.goto 37, 3) := by sorry
theorem d_Mo_units_48 : decode b_Mo_units 48 = .ok (.iload 6, 2) := by sorry
theorem d_Mo_units_50 : decode b_Mo_units 50 = .ok (.bipush 10, 2) := by sorry
theorem d_Mo_units_52 : decode b_Mo_units 52 = .ok (.if_icmp .ne 7, 3) := by sorry
theorem d_Mo_units_55 : decode b_Mo_units 55 = .ok (.iconst 2, 1) := by sorry
theorem d_Mo_units_56 : decode b_Mo_units 56 = .ok (.goto 26, 3) := by sorry
theorem d_Mo_units_59 : decode b_Mo_units 59 = .ok (.iload 6, 2) := by sorry
theorem d_Mo_units_61 : decode b_Mo_units 61 = .ok (.bipush 12, 2) := by sorry
theorem d_Mo_units_63 : decode b_Mo_units 63 = .ok (.if_icmp .ne 7, 3) := by sorry
theorem d_Mo_units_66 : decode b_Mo_units 66 = .ok (.iconst 3, 1) := by sorry
theorem d_Mo_units_67 : decode b_Mo_units 67 = .ok (.goto 15, 3) := by sorry
theorem d_Mo_units_70 : decode b_Mo_units 70 = .ok (.iload 6, 2) := by sorry
theorem d_Mo_units_72 : decode b_Mo_units 72 = .ok (.bipush 13, 2) := by sorry
theorem d_Mo_units_74 : decode b_Mo_units 74 = .ok (.if_icmp .ne 7, 3) := by sorry
theorem d_Mo_units_77 : decode b_Mo_units 77 = .ok (.iconst 4, 1) := by sorry
theorem d_Mo_units_78 : decode b_Mo_units 78 = .ok (.goto 4, 3) := by sorry
theorem d_Mo_units_81 : decode b_Mo_units 81 = .ok (.iconst (-1), 1) := by sorry
theorem d_Mo_units_82 : decode b_Mo_units 82 = .ok (.istore 7, 2) := by sorry
theorem d_Mo_units_84 : decode b_Mo_units 84 = .ok (.iload 6, 2) := by sorry
theorem d_Mo_units_86 : decode b_Mo_units 86 = .ok (.iload 4, 2) := by sorry
theorem d_Mo_units_88 : decode b_Mo_units 88 = .ok (.if_icmp .eq 10, 3) := by sorry
theorem d_Mo_units_91 : decode b_Mo_units 91 = .ok (.iload 6, 2) := by sorry
theorem d_Mo_units_93 : decode b_Mo_units 93 = .ok (.bipush 92, 2) := by sorry
theorem d_Mo_units_95 : decode b_Mo_units 95 = .ok (.if_icmp .ne 18, 3) := by sorry
theorem d_Mo_units_98 : decode b_Mo_units 98 = .ok (.aload_n 0, 1) := by sorry
theorem d_Mo_units_99 : decode b_Mo_units 99 = .ok (.bipush 92, 2) := by sorry
theorem d_Mo_units_101 : decode b_Mo_units 101 = .ok (.invokevirtual 239, 3) := by sorry
theorem d_Mo_units_104 : decode b_Mo_units 104 = .ok (.aload_n 0, 1) := by sorry
theorem d_Mo_units_105 : decode b_Mo_units 105 = .ok (.iload 6, 2) := by sorry
theorem d_Mo_units_107 : decode b_Mo_units 107 = .ok (.invokevirtual 239, 3) := by sorry
theorem d_Mo_units_110 : decode b_Mo_units 110 = .ok (.goto 89, 3) := by sorry
theorem d_Mo_units_113 : decode b_Mo_units 113 = .ok (.iload 7, 2) := by sorry
theorem d_Mo_units_115 : decode b_Mo_units 115 = .ok (.ifCond .lt 23, 3) := by sorry
theorem d_Mo_units_118 : decode b_Mo_units 118 = .ok (.aload_n 0, 1) := by sorry
theorem d_Mo_units_119 : decode b_Mo_units 119 = .ok (.bipush 92, 2) := by sorry
theorem d_Mo_units_121 : decode b_Mo_units 121 = .ok (.invokevirtual 239, 3) := by sorry
theorem d_Mo_units_124 : decode b_Mo_units 124 = .ok (.aload_n 0, 1) := by sorry
theorem d_Mo_units_125 : decode b_Mo_units 125 = .ok (.ldc 244, 2) := by sorry
theorem d_Mo_units_127 : decode b_Mo_units 127 = .ok (.iload 7, 2) := by sorry
theorem d_Mo_units_129 : decode b_Mo_units 129 = .ok (.invokevirtual 159, 3) := by sorry
theorem d_Mo_units_132 : decode b_Mo_units 132 = .ok (.invokevirtual 239, 3) := by sorry
theorem d_Mo_units_135 : decode b_Mo_units 135 = .ok (.goto 64, 3) := by sorry
theorem d_Mo_units_138 : decode b_Mo_units 138 = .ok (.iload 6, 2) := by sorry
theorem d_Mo_units_140 : decode b_Mo_units 140 = .ok (.bipush 32, 2) := by sorry
theorem d_Mo_units_142 : decode b_Mo_units 142 = .ok (.if_icmp .lt 10, 3) := by sorry
theorem d_Mo_units_145 : decode b_Mo_units 145 = .ok (.iload 6, 2) := by sorry
theorem d_Mo_units_147 : decode b_Mo_units 147 = .ok (.bipush 126, 2) := by sorry
theorem d_Mo_units_149 : decode b_Mo_units 149 = .ok (.if_icmp .le 44, 3) := by sorry
theorem d_Mo_units_152 : decode b_Mo_units 152 = .ok (.aload_n 0, 1) := by sorry
theorem d_Mo_units_153 : decode b_Mo_units 153 = .ok (.ldc 246, 2) := by sorry
theorem d_Mo_units_155 : decode b_Mo_units 155 = .ok (.invokevirtual 248, 3) := by sorry
theorem d_Mo_units_158 : decode b_Mo_units 158 = .ok (.bipush 12, 2) := by sorry
theorem d_Mo_units_160 : decode b_Mo_units 160 = .ok (.istore 8, 2) := by sorry
theorem d_Mo_units_162 : decode b_Mo_units 162 = .ok (.iload 8, 2) := by sorry
theorem d_Mo_units_164 : decode b_Mo_units 164 = .ok (.ifCond .lt 26, 3) := by sorry
theorem d_Mo_units_167 : decode b_Mo_units 167 = .ok (.aload_n 0, 1) := by sorry
theorem d_Mo_units_168 : decode b_Mo_units 168 = .ok (.ldc 251, 2) := by sorry
theorem d_Mo_units_170 : decode b_Mo_units 170 = .ok (.iload 6, 2) := by sorry
theorem d_Mo_units_172 : decode b_Mo_units 172 = .ok (.iload 8, 2) := by sorry
theorem d_Mo_units_174 : decode b_Mo_units 174 = .ok (.ishr, 1) := by sorry
theorem d_Mo_units_175 : decode b_Mo_units 175 = .ok (.bipush 15, 2) := by sorry
theorem d_Mo_units_177 : decode b_Mo_units 177 = .ok (.iand, 1) := by sorry
theorem d_Mo_units_178 : decode b_Mo_units 178 = .ok (.invokevirtual 159, 3) := by sorry
theorem d_Mo_units_181 : decode b_Mo_units 181 = .ok (.invokevirtual 239, 3) := by sorry
theorem d_Mo_units_184 : decode b_Mo_units 184 = .ok (.iinc 8 (-4), 3) := by sorry
theorem d_Mo_units_187 : decode b_Mo_units 187 = .ok (.goto (-25), 3) := by sorry
theorem d_Mo_units_190 : decode b_Mo_units 190 = .ok (.goto 9, 3) := by sorry
theorem d_Mo_units_193 : decode b_Mo_units 193 = .ok (.aload_n 0, 1) := by sorry
theorem d_Mo_units_194 : decode b_Mo_units 194 = .ok (.iload 6, 2) := by sorry
theorem d_Mo_units_196 : decode b_Mo_units 196 = .ok (.invokevirtual 239, 3) := by sorry
theorem d_Mo_units_199 : decode b_Mo_units 199 = .ok (.iinc 5 1, 3) := by sorry
theorem d_Mo_units_202 : decode b_Mo_units 202 = .ok (.goto (-193), 3) := by sorry
theorem d_Mo_units_205 : decode b_Mo_units 205 = .ok (.aload_n 0, 1) := by sorry
theorem d_Mo_units_206 : decode b_Mo_units 206 = .ok (.iload 4, 2) := by sorry
theorem d_Mo_units_208 : decode b_Mo_units 208 = .ok (.invokevirtual 239, 3) := by sorry
theorem d_Mo_units_211 : decode b_Mo_units 211 = .ok (.return_, 1) := by sorry
set_option maxHeartbeats 4000000 in
set_option maxRecDepth 100000 in
/-- the reference: units -/
theorem c_Mo_units (l : Launch) (dC : Nat → ClassId) (dI : Nat → Nat → Nat) (mo : Nat) (sz : Heap) (v : Nat → Value) (cB cC : ClassId) (qo : Nat) (s0 : PS) (K : Nat → Nat × Nat) (t : Nat) (T : TS) (st ln : Nat) (q : Int32) (hk0 : s0.1 ≤ 16384) (h10 : v 10 = .ref qo) (hT : TOK T) (hsl : st + ln ≤ T.us) : Met l y_Mo_units (k_Mo_units :: gtbl) ({ frames := 5, cells := 0, slots := 0, locals := 120 }) (va_Pc [.ref mo, .ref t, .int (nI st), .int (nI ln), .int q] (me K dC dI [(mo, .inr (13, MF 30 (nf v s0.1 s0.2.1))), (qo, .inl (cB, 16392, .inl s0.2.2)), (t, .inr (12, MF 13 (tw T))), (T.au, .inl (cC, T.U, .inl T.un))] [(cB, .byte), (cC, .char)] sz)) (va_Qv (fun (_ : Unit) => True) (fun _ => mz dC dI [(mo, .inr (13, MF 30 (nf v (penL s0 (unL q (sl T.un st ln))).1 (penL s0 (unL q (sl T.un st ln))).2.1))), (qo, .inl (cB, 16392, .inl (penL s0 (unL q (sl T.un st ln))).2.2)), (t, .inr (12, MF 13 (tw T))), (T.au, .inl (cC, T.U, .inl T.un))] [(cB, .byte), (cC, .char)] (va_A [(mo, .inr (13, MF 30 (nf v s0.1 s0.2.1))), (qo, .inl (cB, 16392, .inl s0.2.2)), (t, .inr (12, MF 13 (tw T))), (T.au, .inl (cC, T.U, .inl T.un))] sz.size)) (va_A [(mo, .inr (13, MF 30 (nf v s0.1 s0.2.1))), (qo, .inl (cB, 16392, .inl s0.2.2)), (t, .inr (12, MF 13 (tw T))), (T.au, .inl (cC, T.U, .inl T.un))] sz.size)) 0 0 (va_A [(mo, .inr (13, MF 30 (nf v s0.1 s0.2.1))), (qo, .inl (cB, 16392, .inl s0.2.2)), (t, .inr (12, MF 13 (tw T))), (T.au, .inl (cC, T.U, .inl T.un))] sz.size) := by sorry
end
section
theorem w_1035 : (.fieldLink "QueryBenchModel" 65 "QueryBenchModel$Tree" "kinds" "[I" : Cond) ∈ gtbl := by sorry
theorem w_1043 : (.fieldLink "QueryBenchModel" 75 "QueryBenchModel$Tree" "kids" "[I" : Cond) ∈ gtbl := by sorry
theorem w_1045 : (.fieldLink "QueryBenchModel" 82 "QueryBenchModel$Tree" "nexts" "[I" : Cond) ∈ gtbl := by sorry
theorem w_1366 : (.methodLink "QueryBenchModel" 259 ⟨"QueryBenchModel", "print", "(LQueryBenchModel$Tree;I)V"⟩ : Cond) ∈ gtbl := by sorry
theorem w_1368 : (.instanceMethod ⟨"QueryBenchModel", "print", "(LQueryBenchModel$Tree;I)V"⟩ : Cond) ∈ gtbl := by sorry
theorem w_1378 : (.methodLink "QueryBenchModel" 253 ⟨"QueryBenchModel", "number", "(J)V"⟩ : Cond) ∈ gtbl := by sorry
theorem w_1380 : (.instanceMethod ⟨"QueryBenchModel", "number", "(J)V"⟩ : Cond) ∈ gtbl := by sorry
theorem w_1383 : (.methodLink "QueryBenchModel" 256 ⟨"QueryBenchModel", "units", "(LQueryBenchModel$Tree;III)V"⟩ : Cond) ∈ gtbl := by sorry
theorem w_1385 : (.instanceMethod ⟨"QueryBenchModel", "units", "(LQueryBenchModel$Tree;III)V"⟩ : Cond) ∈ gtbl := by sorry
/-- a leaf as it is written -/
def prLf (x : LF) : List Int32 := if x.1 = 0 then [110, 117, 108, 108] else if x.1 = 1 then [116, 114, 117, 101] else if x.1 = 2 then [102, 97, 108, 115, 101] else if x.1 = 3 then nmB x.2.1 else if x.1 = 4 then unL 34 x.2.2 else []
def prK {β : Type} (pr : β → List Int32) (ob : Bool) : Bool → List (List Int32 × β) → List Int32
  | _, [] => []
  | fst, c :: cs => (if fst = true then [] else [44]) ++ (if ob = true then unL 34 c.1 ++ [58] else []) ++ pr c.2 ++ prK pr ob false cs
/-- a value as it is written -/
def prV : (r : Nat) → JVt r → List Int32
  | 0, x => prLf x
  | r + 1, x => if x.1.1 < 5 then prLf x.1 else [if x.1.1 = 5 then 91 else 123] ++ prK (prV r) (decide (x.1.1 = 6)) true x.2 ++ [if x.1.1 = 5 then 93 else 125]
def allL (P : LF → Prop) : (r : Nat) → JVt r → Prop
  | 0, x => P x
  | r + 1, x => P x.1 ∧ ∀ c, c ∈ x.2 → allL P r c.2
abbrev smF (x : LF) : Prop := x.1 = 3 → smL x.2.1
theorem RepV_L {T : TS} : ∀ {r : Nat} {a e : Nat} {x : JVt r}, RepV T r a e x → ∃ y : LF, RepL T a y ∧ (allL smF r x → smF y) ∧ (y.1 < 5 → prV r x = prLf y) ∧ (y.1 < 5 ∨ ∃ r0, r = r0 + 1) := by sorry
abbrev b_Mo_print : ByteArray := prog_14_method_30_code
def y_Mo_print : MethodName := ⟨"QueryBenchModel", "print", "(LQueryBenchModel$Tree;I)V"⟩
abbrev k_Mo_print : Cond := .code y_Mo_print b_Mo_print 5 none
theorem i_Mo_print : k_Mo_print ∈ gtbl := by sorry
theorem d_Mo_print_0 : decode b_Mo_print 0 = .ok (.aload_n 1, 1) := by sorry
theorem d_Mo_print_1 : decode b_Mo_print 1 = .ok (.getfield 65, 3) := by sorry
theorem d_Mo_print_4 : decode b_Mo_print 4 = .ok (.iload_n 2, 1) := by sorry
theorem d_Mo_print_5 : decode b_Mo_print 5 = .ok (.iaload, 1) := by sorry
theorem d_Mo_print_6 : decode b_Mo_print 6 = .ok (.tableswitch 96 0 4 #[34, 43, 52, 61, 74], 34) := by sorry
theorem d_Mo_print_40 : decode b_Mo_print 40 = .ok (.aload_n 0, 1) := by sorry
theorem d_Mo_print_41 : decode b_Mo_print 41 = .ok (.ldc 187, 2) := by sorry
theorem d_Mo_print_43 : decode b_Mo_print 43 = .ok (.invokevirtual 248, 3) := by sorry
theorem d_Mo_print_46 : decode b_Mo_print 46 = .ok (.goto 182, 3) := by sorry
theorem d_Mo_print_49 : decode b_Mo_print 49 = .ok (.aload_n 0, 1) := by sorry
theorem d_Mo_print_50 : decode b_Mo_print 50 = .ok (.ldc 189, 2) := by sorry
theorem d_Mo_print_52 : decode b_Mo_print 52 = .ok (.invokevirtual 248, 3) := by sorry
theorem d_Mo_print_55 : decode b_Mo_print 55 = .ok (.goto 173, 3) := by sorry
theorem d_Mo_print_58 : decode b_Mo_print 58 = .ok (.aload_n 0, 1) := by sorry
theorem d_Mo_print_59 : decode b_Mo_print 59 = .ok (.ldc 191, 2) := by sorry
theorem d_Mo_print_61 : decode b_Mo_print 61 = .ok (.invokevirtual 248, 3) := by sorry
theorem d_Mo_print_64 : decode b_Mo_print 64 = .ok (.goto 164, 3) := by sorry
theorem d_Mo_print_67 : decode b_Mo_print 67 = .ok (.aload_n 0, 1) := by sorry
theorem d_Mo_print_68 : decode b_Mo_print 68 = .ok (.aload_n 1, 1) := by sorry
theorem d_Mo_print_69 : decode b_Mo_print 69 = .ok (.getfield 68, 3) := by sorry
theorem d_Mo_print_72 : decode b_Mo_print 72 = .ok (.iload_n 2, 1) := by sorry
theorem d_Mo_print_73 : decode b_Mo_print 73 = .ok (.laload, 1) := by sorry
theorem d_Mo_print_74 : decode b_Mo_print 74 = .ok (.invokevirtual 253, 3) := by sorry
theorem d_Mo_print_77 : decode b_Mo_print 77 = .ok (.goto 151, 3) := by sorry
theorem d_Mo_print_80 : decode b_Mo_print 80 = .ok (.aload_n 0, 1) := by sorry
theorem d_Mo_print_81 : decode b_Mo_print 81 = .ok (.aload_n 1, 1) := by sorry
theorem d_Mo_print_82 : decode b_Mo_print 82 = .ok (.aload_n 1, 1) := by sorry
theorem d_Mo_print_83 : decode b_Mo_print 83 = .ok (.getfield 103, 3) := by sorry
theorem d_Mo_print_86 : decode b_Mo_print 86 = .ok (.iload_n 2, 1) := by sorry
theorem d_Mo_print_87 : decode b_Mo_print 87 = .ok (.iaload, 1) := by sorry
theorem d_Mo_print_88 : decode b_Mo_print 88 = .ok (.aload_n 1, 1) := by sorry
theorem d_Mo_print_89 : decode b_Mo_print 89 = .ok (.getfield 106, 3) := by sorry
theorem d_Mo_print_92 : decode b_Mo_print 92 = .ok (.iload_n 2, 1) := by sorry
theorem d_Mo_print_93 : decode b_Mo_print 93 = .ok (.iaload, 1) := by sorry
theorem d_Mo_print_94 : decode b_Mo_print 94 = .ok (.bipush 34, 2) := by sorry
theorem d_Mo_print_96 : decode b_Mo_print 96 = .ok (.invokevirtual 256, 3) := by sorry
theorem d_Mo_print_99 : decode b_Mo_print 99 = .ok (.goto 129, 3) := by sorry
theorem d_Mo_print_102 : decode b_Mo_print 102 = .ok (.aload_n 1, 1) := by sorry
theorem d_Mo_print_103 : decode b_Mo_print 103 = .ok (.getfield 65, 3) := by sorry
theorem d_Mo_print_106 : decode b_Mo_print 106 = .ok (.iload_n 2, 1) := by sorry
theorem d_Mo_print_107 : decode b_Mo_print 107 = .ok (.iaload, 1) := by sorry
theorem d_Mo_print_108 : decode b_Mo_print 108 = .ok (.iconst 5, 1) := by sorry
theorem d_Mo_print_109 : decode b_Mo_print 109 = .ok (.if_icmp .ne 7, 3) := by sorry
theorem d_Mo_print_112 : decode b_Mo_print 112 = .ok (.iconst 1, 1) := by sorry
theorem d_Mo_print_113 : decode b_Mo_print 113 = .ok (.goto 4, 3) := by sorry
theorem d_Mo_print_116 : decode b_Mo_print 116 = .ok (.iconst 0, 1) := by sorry
theorem d_Mo_print_117 : decode b_Mo_print 117 = .ok (.istore_n 3, 1) := by sorry
theorem d_Mo_print_118 : decode b_Mo_print 118 = .ok (.aload_n 0, 1) := by sorry
theorem d_Mo_print_119 : decode b_Mo_print 119 = .ok (.iload_n 3, 1) := by sorry
theorem d_Mo_print_120 : decode b_Mo_print 120 = .ok (.ifCond .eq 8, 3) := by sorry
theorem d_Mo_print_123 : decode b_Mo_print 123 = .ok (.bipush 91, 2) := by sorry
theorem d_Mo_print_125 : decode b_Mo_print 125 = .ok (.goto 5, 3) := by sorry
theorem d_Mo_print_128 : decode b_Mo_print 128 = .ok (.bipush 123, 2) := by sorry
theorem d_Mo_print_130 : decode b_Mo_print 130 = .ok (.invokevirtual 239, 3) := by sorry
theorem d_Mo_print_133 : decode b_Mo_print 133 = .ok (.aload_n 1, 1) := by sorry
theorem d_Mo_print_134 : decode b_Mo_print 134 = .ok (.getfield 75, 3) := by sorry
theorem d_Mo_print_137 : decode b_Mo_print 137 = .ok (.iload_n 2, 1) := by sorry
theorem d_Mo_print_138 : decode b_Mo_print 138 = .ok (.iaload, 1) := by sorry
theorem d_Mo_print_139 : decode b_Mo_print 139 = .ok (.istore 4, 2) := by sorry
theorem d_Mo_print_141 : decode b_Mo_print 141 = .ok (.iload 4, 2) := by sorry
theorem d_Mo_print_143 : decode b_Mo_print 143 = .ok (.ifCond .lt 70, 3) := by sorry
theorem d_Mo_print_146 : decode b_Mo_print 146 = .ok (.iload 4, 2) := by sorry
theorem d_Mo_print_148 : decode b_Mo_print 148 = .ok (.aload_n 1, 1) := by sorry
theorem d_Mo_print_149 : decode b_Mo_print 149 = .ok (.getfield 75, 3) := by sorry
theorem d_Mo_print_152 : decode b_Mo_print 152 = .ok (.iload_n 2, 1) := by sorry
theorem d_Mo_print_153 : decode b_Mo_print 153 = .ok (.iaload, 1) := by sorry
theorem d_Mo_print_154 : decode b_Mo_print 154 = .ok (.if_icmp .eq 9, 3) := by sorry
theorem d_Mo_print_157 : decode b_Mo_print 157 = .ok (.aload_n 0, 1) := by sorry
theorem d_Mo_print_158 : decode b_Mo_print 158 = .ok (.bipush 44, 2) := by sorry
theorem d_Mo_print_160 : decode b_Mo_print 160 = .ok (.invokevirtual 239, 3) := by sorry
theorem d_Mo_print_163 : decode b_Mo_print 163 = .ok (.iload_n 3, 1) := by sorry
theorem d_Mo_print_164 : decode b_Mo_print 164 = .ok (.ifCond .ne 30, 3) := by sorry
theorem d_Mo_print_167 : decode b_Mo_print 167 = .ok (.aload_n 0, 1) := by sorry
theorem d_Mo_print_168 : decode b_Mo_print 168 = .ok (.aload_n 1, 1) := by sorry
theorem d_Mo_print_169 : decode b_Mo_print 169 = .ok (.aload_n 1, 1) := by sorry
theorem d_Mo_print_170 : decode b_Mo_print 170 = .ok (.getfield 89, 3) := by sorry
theorem d_Mo_print_173 : decode b_Mo_print 173 = .ok (.iload 4, 2) := by sorry
theorem d_Mo_print_175 : decode b_Mo_print 175 = .ok (.iaload, 1) := by sorry
theorem d_Mo_print_176 : decode b_Mo_print 176 = .ok (.aload_n 1, 1) := by sorry
theorem d_Mo_print_177 : decode b_Mo_print 177 = .ok (.getfield 92, 3) := by sorry
theorem d_Mo_print_180 : decode b_Mo_print 180 = .ok (.iload 4, 2) := by sorry
theorem d_Mo_print_182 : decode b_Mo_print 182 = .ok (.iaload, 1) := by sorry
theorem d_Mo_print_183 : decode b_Mo_print 183 = .ok (.bipush 34, 2) := by sorry
theorem d_Mo_print_185 : decode b_Mo_print 185 = .ok (.invokevirtual 256, 3) := by sorry
theorem d_Mo_print_188 : decode b_Mo_print 188 = .ok (.aload_n 0, 1) := by sorry
theorem d_Mo_print_189 : decode b_Mo_print 189 = .ok (.bipush 58, 2) := by sorry
theorem d_Mo_print_191 : decode b_Mo_print 191 = .ok (.invokevirtual 239, 3) := by sorry
theorem d_Mo_print_194 : decode b_Mo_print 194 = .ok (.aload_n 0, 1) := by sorry
theorem d_Mo_print_195 : decode b_Mo_print 195 = .ok (.aload_n 1, 1) := by sorry
theorem d_Mo_print_196 : decode b_Mo_print 196 = .ok (.iload 4, 2) := by sorry
theorem d_Mo_print_198 : decode b_Mo_print 198 = .ok (.invokevirtual 259, 3) := by sorry
theorem d_Mo_print_201 : decode b_Mo_print 201 = .ok (.aload_n 1, 1) := by sorry
theorem d_Mo_print_202 : decode b_Mo_print 202 = .ok (.getfield 82, 3) := by sorry
theorem d_Mo_print_205 : decode b_Mo_print 205 = .ok (.iload 4, 2) := by sorry
theorem d_Mo_print_207 : decode b_Mo_print 207 = .ok (.iaload, 1) := by sorry
theorem d_Mo_print_208 : decode b_Mo_print 208 = .ok (.istore 4, 2) := by sorry
theorem d_Mo_print_210 : decode b_Mo_print 210 = .ok (.goto (-69), 3) := by sorry
theorem d_Mo_print_213 : decode b_Mo_print 213 = .ok (.aload_n 0, 1) := by sorry
theorem d_Mo_print_214 : decode b_Mo_print 214 = .ok (.iload_n 3, 1) := by sorry
theorem d_Mo_print_215 : decode b_Mo_print 215 = .ok (.ifCond .eq 8, 3) := by sorry
theorem d_Mo_print_218 : decode b_Mo_print 218 = .ok (.bipush 93, 2) := by sorry
theorem d_Mo_print_220 : decode b_Mo_print 220 = .ok (.goto 5, 3) := by sorry
theorem d_Mo_print_223 : decode b_Mo_print 223 = .ok (.bipush 125, 2) := by sorry
theorem d_Mo_print_225 : decode b_Mo_print 225 = .ok (.invokevirtual 239, 3) := by sorry
theorem d_Mo_print_228 : decode b_Mo_print 228 = .ok (.return_, 1) := by sorry
/-- what print does, at most r deep -/
def PCc (r : Nat) : Prop := ∀ (l : Launch) (dC : Nat → ClassId) (dI : Nat → Nat → Nat) (mo : Nat) (sz : Heap) (v : Nat → Value) (cB cI cL cC : ClassId) (qo : Nat) (s0 : PS) (K : Nat → Nat × Nat) (t : Nat) (T : TS) (a9 e9 : Nat) (x : JVt r), s0.1 ≤ 16384 → v 10 = .ref qo → TOK T → RepV T r a9 e9 x → allL smF r x → Met l y_Mo_print (k_Mo_print :: gtbl) ({ frames := 8 + r, cells := 0, slots := 0, locals := 180 + 60 * r }) (va_Pc [.ref mo, .ref t, .int (nI a9)] (me K dC dI [(mo, .inr (13, MF 30 (nf v s0.1 s0.2.1))), (qo, .inl (cB, 16392, .inl s0.2.2)), (t, .inr (12, MF 13 (tw T))), (T.a0, .inl (cI, T.N, .inl T.kd)), (T.a1, .inl (cL, T.N, .inr (.inl T.nu))), (T.a2, .inl (cI, T.N, .inl T.st)), (T.a3, .inl (cI, T.N, .inl T.ln)), (T.a4, .inl (cI, T.N, .inl T.ki)), (T.a5, .inl (cI, T.N, .inl T.nx)), (T.a6, .inl (cI, T.N, .inl T.ns)), (T.a7, .inl (cI, T.N, .inl T.nl)), (T.a8, .inl (cI, T.N, .inl T.pa)), (T.a9, .inl (cI, T.N, .inl T.pl)), (T.au, .inl (cC, T.U, .inl T.un))] [(cB, .byte), (cI, .int), (cL, .long), (cC, .char)] sz)) (va_Qv (fun (_ : Unit) => True) (fun _ => mz dC dI [(mo, .inr (13, MF 30 (nf v (penL s0 (prV r x)).1 (penL s0 (prV r x)).2.1))), (qo, .inl (cB, 16392, .inl (penL s0 (prV r x)).2.2)), (t, .inr (12, MF 13 (tw T))), (T.a0, .inl (cI, T.N, .inl T.kd)), (T.a1, .inl (cL, T.N, .inr (.inl T.nu))), (T.a2, .inl (cI, T.N, .inl T.st)), (T.a3, .inl (cI, T.N, .inl T.ln)), (T.a4, .inl (cI, T.N, .inl T.ki)), (T.a5, .inl (cI, T.N, .inl T.nx)), (T.a6, .inl (cI, T.N, .inl T.ns)), (T.a7, .inl (cI, T.N, .inl T.nl)), (T.a8, .inl (cI, T.N, .inl T.pa)), (T.a9, .inl (cI, T.N, .inl T.pl)), (T.au, .inl (cC, T.U, .inl T.un))] [(cB, .byte), (cI, .int), (cL, .long), (cC, .char)] (va_A [(mo, .inr (13, MF 30 (nf v s0.1 s0.2.1))), (qo, .inl (cB, 16392, .inl s0.2.2)), (t, .inr (12, MF 13 (tw T))), (T.a0, .inl (cI, T.N, .inl T.kd)), (T.a1, .inl (cL, T.N, .inr (.inl T.nu))), (T.a2, .inl (cI, T.N, .inl T.st)), (T.a3, .inl (cI, T.N, .inl T.ln)), (T.a4, .inl (cI, T.N, .inl T.ki)), (T.a5, .inl (cI, T.N, .inl T.nx)), (T.a6, .inl (cI, T.N, .inl T.ns)), (T.a7, .inl (cI, T.N, .inl T.nl)), (T.a8, .inl (cI, T.N, .inl T.pa)), (T.a9, .inl (cI, T.N, .inl T.pl)), (T.au, .inl (cC, T.U, .inl T.un))] sz.size)) (va_A [(mo, .inr (13, MF 30 (nf v s0.1 s0.2.1))), (qo, .inl (cB, 16392, .inl s0.2.2)), (t, .inr (12, MF 13 (tw T))), (T.a0, .inl (cI, T.N, .inl T.kd)), (T.a1, .inl (cL, T.N, .inr (.inl T.nu))), (T.a2, .inl (cI, T.N, .inl T.st)), (T.a3, .inl (cI, T.N, .inl T.ln)), (T.a4, .inl (cI, T.N, .inl T.ki)), (T.a5, .inl (cI, T.N, .inl T.nx)), (T.a6, .inl (cI, T.N, .inl T.ns)), (T.a7, .inl (cI, T.N, .inl T.nl)), (T.a8, .inl (cI, T.N, .inl T.pa)), (T.a9, .inl (cI, T.N, .inl T.pl)), (T.au, .inl (cC, T.U, .inl T.un))] sz.size)) 0 0 (va_A [(mo, .inr (13, MF 30 (nf v s0.1 s0.2.1))), (qo, .inl (cB, 16392, .inl s0.2.2)), (t, .inr (12, MF 13 (tw T))), (T.a0, .inl (cI, T.N, .inl T.kd)), (T.a1, .inl (cL, T.N, .inr (.inl T.nu))), (T.a2, .inl (cI, T.N, .inl T.st)), (T.a3, .inl (cI, T.N, .inl T.ln)), (T.a4, .inl (cI, T.N, .inl T.ki)), (T.a5, .inl (cI, T.N, .inl T.nx)), (T.a6, .inl (cI, T.N, .inl T.ns)), (T.a7, .inl (cI, T.N, .inl T.nl)), (T.a8, .inl (cI, T.N, .inl T.pa)), (T.a9, .inl (cI, T.N, .inl T.pl)), (T.au, .inl (cC, T.U, .inl T.un))] sz.size)
set_option maxHeartbeats 4000000 in
set_option maxRecDepth 100000 in
/-- the reference: print -/
theorem c_print0 : PCc 0 := by sorry
set_option maxHeartbeats 4000000 in
set_option maxRecDepth 100000 in
/-- the reference: print -/
theorem c_printS (r : Nat) (hPC : PCc r) : PCc (r + 1) := by sorry
/-- the reference: print, at every depth -/
theorem c_PC : ∀ r : Nat, PCc r := by sorry
end
section
theorem i32_lit {x : Int32} {w : Nat} (h0 : 0 ≤ x) (h : x ≤ nI w) (hw : w < 2 ^ 31) : ∃ m, m ≤ w ∧ x = nI m := by sorry
theorem nI_bv {w : Nat} (hw : w < 2 ^ 32) : (nI w).toBitVec.toNat = w := by sorry
theorem shr_nI {w : Nat} (s : Int32) (k : Nat) (hw : w < 65536) (hk : ((s &&& 31).toBitVec.smod 32).toNat = k) : nI w >>> (s &&& 31) &&& 15 = nI (w / 2 ^ k % 16) := by sorry
theorem nI_add' (a b : Nat) : nI a + nI b = nI (a + b) := by sorry
theorem nI_mul' (a b : Nat) : nI a * nI b = nI (a * b) := by sorry
theorem hexV_d {m : Nat} (hm : m < 16) : hexV (mtx 6 m &&& 255) = nI m := by sorry
theorem hexV_hxD {y : Int32} : hexV (hxD y) = y &&& 15 := by sorry
theorem nI_nn {m : Nat} (hm : m < 2 ^ 31) : ¬ nI m < 0 := by sorry
/-- the text holds l from i on -/
def At (f : Nat → Int32) (n : Nat) : Nat → List Int32 → Prop
  | _, [] => True
  | i, x :: l => hereV f n i = x ∧ f i = x ∧ At f n (i + 1) l
theorem At_app {f : Nat → Int32} {n : Nat} : ∀ {l m : List Int32} {i : Nat}, At f n i (l ++ m) ↔ At f n i l ∧ At f n (i + l.length) m := by sorry
theorem hexM_pr {f : Nat → Int32} {n j w : Nat} (hw : w < 65536) (h : At f n j [hxD (nI w >>> (12 &&& 31)), hxD (nI w >>> (8 &&& 31)), hxD (nI w >>> (4 &&& 31)), hxD (nI w >>> (0 &&& 31))]) : hexM f n 4 j 0 = (nI w, j + 4) := by sorry
abbrev hiU (u : Int32) : Prop := 55296 ≤ u ∧ u ≤ 56319
abbrev loU (u : Int32) : Prop := 56320 ≤ u ∧ u ≤ 57343
/-- units that a text may hold: pairs are whole -/
def uOK : List Int32 → Prop
  | [] => True
  | [u] => 0 ≤ u ∧ u ≤ 65535 ∧ ¬ loU u ∧ ¬ hiU u
  | u :: v :: vs => 0 ≤ u ∧ u ≤ 65535 ∧ ¬ loU u ∧ ((hiU u ∧ loU v ∧ uOK vs) ∨ (¬ hiU u ∧ uOK (v :: vs)))
/-- how one unit that is written is read -/
theorem esc_pr {f : Nat → Int32} {n i : Nat} {u : Int32} (h0 : 0 ≤ u) (h1 : u ≤ 65535) (hs : ¬ (u = 34 ∨ u = 92)) (hk : escK u < 0) (hp : u < 32 ∨ ¬ u ≤ 126) (h : At f n i (unB 34 u)) : hereV f n i = 92 ∧ escM f n 34 i = (u, i + 6) ∧ (unB 34 u).length = 6 ∧ f (i + 1) = 117 ∧ i + 1 < n := by sorry
theorem i32_or (a b : Int32) : a < b ∨ b ≤ a := by sorry
theorem qt_one {f : Nat → Int32} {n i k : Nat} {u : Int32} {acc : List Int32} (h0 : 0 ≤ u) (h1 : u ≤ 65535) (hl : ¬ loU u) (hh : ¬ hiU u) (h : At f n i (unB 34 u)) : qtM f n 34 (k + 1) i acc = qtM f n 34 k (i + (unB 34 u).length) (acc ++ [u]) := by sorry
theorem sur_hyp {u : Int32} (h : hiU u ∨ loU u) : 0 ≤ u ∧ u ≤ 65535 ∧ ¬ (u = 34 ∨ u = 92) ∧ escK u < 0 ∧ (u < 32 ∨ ¬ u ≤ 126) := by sorry
theorem qt_two {f : Nat → Int32} {n i k : Nat} {u v : Int32} {acc : List Int32} (hu : hiU u) (hv : loU v) (h : At f n i (unB 34 u ++ unB 34 v)) : qtM f n 34 (k + 1) i acc = qtM f n 34 k (i + (unB 34 u ++ unB 34 v).length) (acc ++ [u] ++ [v]) := by sorry
/-- a text that is written is read again -/
theorem qt_pr {f : Nat → Int32} {n : Nat} : ∀ (us : List Int32) (i k : Nat) (acc : List Int32), uOK us → us.length < k → At f n i (us.flatMap (unB 34) ++ [34]) → qtM f n 34 k i acc = some (acc ++ us, i + (us.flatMap (unB 34)).length + 1) := by sorry
/-- four digits that are read: what they may say -/
theorem hexV_r (x : Int32) : hexV x < 0 ∨ ∃ m, m < 16 ∧ hexV x = nI m := by sorry
theorem hexM_r {f : Nat → Int32} {n : Nat} : ∀ (k j w b : Nat), w < b → (hexM f n k j (nI w)).1 = -1 ∨ ∃ w', w' < b * 16 ^ k ∧ hexM f n k j (nI w) = (nI w', j + k) := by sorry
theorem nI_le' {a b : Nat} (h : a ≤ b) (hb : b < 2 ^ 31) : nI a ≤ nI b := by sorry
theorem unB_len (q u : Int32) : (unB q u).length ≤ 6 := by sorry
/-- an escape that is read: its unit, and that it is written no longer -/
theorem escM_ok {f : Nat → Int32} {n i : Nat} (h : 0 ≤ (escM f n 34 i).1) : (escM f n 34 i).1 ≤ 65535 ∧ i + (unB 34 (escM f n 34 i).1).length ≤ (escM f n 34 i).2 := by sorry
theorem unB_1 {u : Int32} (h1 : ¬ (u < 32 ∨ ¬ u ≤ 126)) (h2 : ¬ u = 34) (h3 : ¬ u = 92) : unB 34 u = [u] := by sorry
theorem uOK_cons {u : Int32} {us : List Int32} (h0 : 0 ≤ u) (h1 : u ≤ 65535) (h2 : ¬ loU u) (h3 : ¬ hiU u) (h : uOK us) : uOK (u :: us) := by sorry
/-- a text that is read: its units, and that it is written no longer -/
theorem qt_ok {f : Nat → Int32} {n : Nat} : ∀ (k i j : Nat) (acc us : List Int32), qtM f n 34 k i acc = some (us, j) → ∃ vs, us = acc ++ vs ∧ uOK vs ∧ i + (vs.flatMap (unB 34)).length + 1 ≤ j := by sorry
theorem c16_id {u : Int32} (h0 : 0 ≤ u) (h1 : u ≤ 65535) : c16 u = u := by sorry
theorem uOK_mem : ∀ {us : List Int32}, uOK us → ∀ u, u ∈ us → 0 ≤ u ∧ u ≤ 65535 := by sorry
theorem c16_map {us : List Int32} (h : uOK us) : us.map c16 = us := by sorry
theorem qtQ_ok {f : Nat → Int32} {n i j : Nat} {us : List Int32} (h : qtQ f n 34 i = some (us, j)) : uOK us ∧ us.map c16 = us ∧ i + (unL 34 us).length ≤ j := by sorry
theorem qtQ_pr {f : Nat → Int32} {n i : Nat} {us : List Int32} (h : uOK us) (hl : us.length ≤ n + 12) (hA : At f n i (unL 34 us)) : qtQ f n 34 i = some (us, i + (unL 34 us).length) := by sorry
theorem dgK_len (m : Nat) : ∀ c, (dgK m c).length = c := by sorry
theorem G_nat {a : Nat} (h : a < 2 ^ 62) : 0 < lg_cmp (Int64.ofNat a) 9007199254740991 ↔ 9007199254740991 < a := by sorry
theorem dig_64 {d : Nat} (hd : d < 10) : (48 + nI d : Int32).toInt64 = Int64.ofNat (48 + d) ∧ digH (48 + nI d) ∧ 0 ≤ (48 + nI d : Int32) ∧ (¬ d = 0 → ¬ (48 + nI d : Int32) = 48) := by sorry
theorem acc_64 (a d : Nat) : 10 * Int64.ofNat a + Int64.ofNat (48 + d) - 48 = Int64.ofNat (10 * a + d) := by sorry
theorem dgM_pr {f : Nat → Int32} {n m : Nat} (hm : m ≤ 9007199254740991) : ∀ (c i k : Nat), At f n i (dgK m c) → ¬ digH (hereV f n (i + c)) → c < k → dgM f n k i (Int64.ofNat (m / 10 ^ c)) = (Int64.ofNat m, i + c) := by sorry
theorem tenK_sp {m : Nat} (hm : m < 10 ^ 16) : ∀ (f k : Nat), (k = 0 ∨ 1 ≤ m / 10 ^ k) → k ≤ 15 → 16 ≤ k + f → m / 10 ^ (tenK m f k) < 10 ∧ (tenK m f k = 0 ∨ 1 ≤ m / 10 ^ (tenK m f k)) ∧ tenK m f k ≤ 15 := by sorry
theorem tenK_lt {m D : Nat} (hD : 1 ≤ D) (hm : m < 10 ^ D) : ∀ (f k : Nat), k ≤ D - 1 → tenK m f k ≤ D - 1 := by sorry
theorem At_len {f : Nat → Int32} {n : Nat} : ∀ {l : List Int32} {i : Nat}, (∀ x, x ∈ l → 0 ≤ x) → At f n i l → l = [] ∨ i + l.length ≤ n := by sorry
theorem dgK_nn (m : Nat) : ∀ c x, x ∈ dgK m c → 0 ≤ x := by sorry
abbrev gL (v : Int64) : Prop := v.toInt.natAbs ≤ 9007199254740991
theorem nuB_pr {f : Nat → Int32} {n i m : Nat} {mi : Bool} (hm : m ≤ 9007199254740991) (hA : At f n i (dgK m (tenK m 16 0 + 1))) (h0 : ¬ digH (hereV f n (i + (tenK m 16 0 + 1)))) (h1 : ¬ hereV f n (i + (tenK m 16 0 + 1)) = 46) (h2 : ¬ hereV f n (i + (tenK m 16 0 + 1)) = 101) (h3 : ¬ hereV f n (i + (tenK m 16 0 + 1)) = 69) : nuB f n i mi = some (if mi = true then -Int64.ofNat m else Int64.ofNat m, i + (tenK m 16 0 + 1)) := by sorry
theorem neg_ofN {v : Int64} {m : Nat} (h : v.toInt = -(m : Int)) (hm : m < 2 ^ 62) : -Int64.ofNat m = v := by sorry
/-- a number that is written is read again -/
theorem num_pr {f : Nat → Int32} {n i : Nat} {v : Int64} (hv : gL v) (hA : At f n i (nmB v)) (h0 : ¬ digH (hereV f n (i + (nmB v).length))) (h1 : ¬ hereV f n (i + (nmB v).length) = 46) (h2 : ¬ hereV f n (i + (nmB v).length) = 101) (h3 : ¬ hereV f n (i + (nmB v).length) = 69) : numM f n i = some (v, i + (nmB v).length) ∧ (hereV f n i = 45 ∨ digH (hereV f n i)) := by sorry
theorem dgM_ok {f : Nat → Int32} {n : Nat} : ∀ (k j A D : Nat), A < 10 ^ D → A < 10 ^ 17 → ∃ B, (dgM f n k j (Int64.ofNat A)).1 = Int64.ofNat B ∧ B < 10 ^ 17 ∧ B < 10 ^ (D + ((dgM f n k j (Int64.ofNat A)).2 - j)) ∧ j ≤ (dgM f n k j (Int64.ofNat A)).2 := by sorry
theorem nuB_ok {f : Nat → Int32} {n i : Nat} {mi : Bool} {p : Int64 × Nat} (h : nuB f n i mi = some p) : ∃ B, B ≤ 9007199254740991 ∧ p.1 = (if mi = true then -Int64.ofNat B else Int64.ofNat B) ∧ i < p.2 ∧ tenK B 16 0 + 1 ≤ p.2 - i := by sorry
/-- a number that is read: its size, and that it is written no longer -/
theorem num_ok {f : Nat → Int32} {n i j : Nat} {v : Int64} (h : numM f n i = some (v, j)) : gL v ∧ i + (nmB v).length ≤ j := by sorry
def wfL (x : LF) : Prop := x = (0, 0, []) ∨ x = (1, 0, []) ∨ x = (2, 0, []) ∨ (∃ v, gL v ∧ x = (3, v, [])) ∨ (∃ us, uOK us ∧ x = (4, 0, us))
/-- a value that a document may hold -/
def wfV : (r : Nat) → JVt r → Prop
  | 0, x => wfL x
  | r + 1, x => (wfL x.1 ∧ x.2 = []) ∨ (x.1 = (5, 0, []) ∧ ∀ c, c ∈ x.2 → c.1 = [] ∧ wfV r c.2) ∨ (x.1 = (6, 0, []) ∧ (∀ c, c ∈ x.2 → uOK c.1 ∧ wfV r c.2) ∧ (x.2.map (·.1)).Nodup)
theorem wfL_5 {x : LF} (h : wfL x) : x.1 < 5 := by sorry
theorem wf_leaf {x : LF} (h : wfL x) (r : Nat) : wfV r (jleaf r x) := by sorry
theorem prV_leaf {x : LF} (h : x.1 < 5) (r : Nat) : prV r (jleaf r x) = prLf x := by sorry
theorem prV_5 {r : Nat} {ks : List (List Int32 × JVt r)} : prV (r + 1) (((5, 0, []), ks) : JVt (r + 1)) = [91] ++ prK (prV r) false true ks ++ [93] := by sorry
theorem prV_6 {r : Nat} {ks : List (List Int32 × JVt r)} : prV (r + 1) (((6, 0, []), ks) : JVt (r + 1)) = [123] ++ prK (prV r) true true ks ++ [125] := by sorry
theorem leaf_ok {f : Nat → Int32} {n i j : Nat} {x : LF} (h : pLeaf f n i = some (x, j)) : wfL x ∧ i + (prLf x).length ≤ j := by sorry
/-- a name -/
theorem nam_ok {f : Nat → Int32} {n i : Nat} {op : Int32} {nms : List (List Int32)} {p : List Int32 × Nat} (h : pNam f n op nms i = some p) : (op = 91 ∧ p = ([], i)) ∨ (¬ op = 91 ∧ uOK p.1 ∧ ¬ p.1 ∈ nms ∧ i + (unL 34 p.1).length + 1 ≤ p.2) := by sorry
theorem prK_f {β : Type} {pr : β → List Int32} {ob : Bool} {cs : List (List Int32 × β)} (h : cs ≠ []) : (prK pr ob false cs).length = (prK pr ob true cs).length + 1 := by sorry
theorem in_ok {β : Type} {f : Nat → Int32} {n : Nat} {pv : Nat → Option (β × Nat)} {op : Int32} {pr : β → List Int32} {Q : β → Prop} (hpv : ∀ i x j, pv i = some (x, j) → Q x ∧ i + (pr x).length ≤ j) : ∀ (m i j : Nat) (acc ks : List (List Int32 × β)), pIn f n pv op m i acc = some (ks, j) → ∃ more, ks = acc ++ more ∧ more ≠ [] ∧ (∀ c, c ∈ more → (op = 91 → c.1 = []) ∧ (¬ op = 91 → uOK c.1) ∧ Q c.2) ∧ (¬ op = 91 → (acc.map (·.1)).Nodup → (ks.map (·.1)).Nodup) ∧ i + (prK pr (decide (¬ op = 91)) true more).length + 1 ≤ j := by sorry
/-- a value that is read: it may stand in a document, and it is written no longer -/
theorem val_ok {f : Nat → Int32} {n : Nat} : ∀ (r i : Nat) (x : JVt r) (j : Nat), pV f n r i = some (x, j) → wfV r x ∧ i + (prV r x).length ≤ j := by sorry
abbrev tmC (c : Int32) : Prop := c = -1 ∨ c = 44 ∨ c = 93 ∨ c = 125
theorem tm_nb {c : Int32} (h : tmC c) : ¬ blkH c ∧ ¬ digH c ∧ ¬ c = 46 ∧ ¬ c = 101 ∧ ¬ c = 69 := by sorry
/-- a value begins so -/
abbrev hdC (c : Int32) : Prop := c = 110 ∨ c = 116 ∨ c = 102 ∨ c = 34 ∨ c = 45 ∨ digH c ∨ c = 91 ∨ c = 123
theorem hd_nb {c : Int32} (h : hdC c) : ¬ blkH c ∧ ¬ c = 93 ∧ ¬ c = 125 := by sorry
theorem nmB_hd (v : Int64) : ∃ c l, nmB v = c :: l ∧ hdC c := by sorry
theorem prLf_hd {x : LF} (h : wfL x) : ∃ c l, prLf x = c :: l ∧ hdC c := by sorry
theorem prV_hd : ∀ {r : Nat} {x : JVt r}, wfV r x → ∃ c l, prV r x = c :: l ∧ hdC c := by sorry
theorem unL_ge (q : Int32) : ∀ us : List Int32, us.length + 2 ≤ (unL q us).length := by sorry
theorem mt_pr {f : Nat → Int32} {n i k : Nat} {l : List Int32} (hA : At f n i l) (hk : ∀ j, j < l.length → mtx k j &&& 255 = l.getD j 0) : mtB f n i (mtx k) l.length = true := by sorry
theorem leaf_pr {f : Nat → Int32} {n i : Nat} {x : LF} (h : wfL x) (hn : (prLf x).length ≤ n) (hA : At f n i (prLf x)) (ht : tmC (hereV f n (i + (prLf x).length))) : pLeaf f n i = some (x, i + (prLf x).length) := by sorry
theorem At_bd {f : Nat → Int32} {n : Nat} : ∀ {l : List Int32} {i : Nat} {z : Int32}, At f n i (l ++ [z]) → 0 ≤ z → i + l.length < n := by sorry
theorem kids_len {β : Type} {f : Nat → Int32} {n i : Nat} {pr : β → List Int32} {ob b : Bool} {z : Int32} {cs : List (List Int32 × β)} (h : At f n i (prK pr ob b cs ++ [z])) (hh : ∀ c, c ∈ cs → ∃ w l, pr c.2 = w :: l ∧ hdC w) (hz : 0 ≤ z := by decide) : cs.length ≤ n + 1 := by sorry
theorem name_len {β : Type} {f : Nat → Int32} {n i : Nat} {pr : β → List Int32} {b : Bool} {z : Int32} {cs : List (List Int32 × β)} (h : At f n i (prK pr true b cs ++ [z])) {c : List Int32 × β} (hc : c ∈ cs) (hz : 0 ≤ z := by decide) : c.1.length ≤ n := by sorry
theorem unB_asc {q u : Int32} (hq : 0 ≤ q ∧ q ≤ 126) (h0 : 0 ≤ u) : ∀ y, y ∈ unB q u → 0 ≤ y ∧ y ≤ 126 := by sorry
theorem unL_asc {us : List Int32} (h : uOK us) : ∀ y, y ∈ unL 34 us → 0 ≤ y ∧ y ≤ 126 := by sorry
theorem dig_asc {d : Nat} (hd : d < 10) : 0 ≤ (48 + nI d : Int32) ∧ (48 + nI d : Int32) ≤ 126 := by sorry
theorem nmB_asc (v : Int64) : ∀ y, y ∈ nmB v → 0 ≤ y ∧ y ≤ 126 := by sorry
theorem prLf_asc {x : LF} (h : wfL x) : ∀ y, y ∈ prLf x → 0 ≤ y ∧ y ≤ 126 := by sorry
theorem prLf_nn {x : LF} (h : wfL x) : ∀ y, y ∈ prLf x → 0 ≤ y := by sorry
theorem prK_asc {β : Type} {pr : β → List Int32} {ob : Bool} : ∀ (cs : List (List Int32 × β)) (b : Bool), (∀ c, c ∈ cs → (ob = true → uOK c.1) ∧ ∀ y, y ∈ pr c.2 → 0 ≤ y ∧ y ≤ 126) → ∀ y, y ∈ prK pr ob b cs → 0 ≤ y ∧ y ≤ 126 := by sorry
/-- what is written is plain -/
theorem prV_asc : ∀ (r : Nat) (x : JVt r), wfV r x → ∀ y, y ∈ prV r x → 0 ≤ y ∧ y ≤ 126 := by sorry
theorem wf_sm : ∀ (r : Nat) (x : JVt r), wfV r x → allL smF r x := by sorry
theorem in_pr {β : Type} {f : Nat → Int32} {n : Nat} {pv : Nat → Option (β × Nat)} {pr : β → List Int32} {op : Int32} (ho : op = 91 ∨ op = 123) {Q : β → Prop} (hpv : ∀ x i, Q x → At f n i (pr x) → tmC (hereV f n (i + (pr x).length)) → pv i = some (x, i + (pr x).length)) :
    ∀ (cs : List (List Int32 × β)) (acc : List (List Int32 × β)) (m i : Nat), cs ≠ [] → (∀ c, c ∈ cs → (op = 91 → c.1 = []) ∧ (op = 123 → uOK c.1 ∧ c.1.length ≤ n) ∧ Q c.2) → (op = 123 → ((acc ++ cs).map (·.1)).Nodup) → cs.length ≤ m → At f n i (prK pr (decide (op = 123)) true cs ++ [clo op]) → pIn f n pv op m i acc = some (acc ++ cs, i + (prK pr (decide (op = 123)) true cs).length + 1) := by sorry
/-- a value that is written is read again -/
theorem val_pr {f : Nat → Int32} {n : Nat} : ∀ (r : Nat) (x : JVt r) (i : Nat), wfV r x → At f n i (prV r x) → tmC (hereV f n (i + (prV r x).length)) → pV f n r i = some (x, i + (prV r x).length) := by sorry
theorem qt_le {f : Nat → Int32} {n : Nat} : ∀ (k i j : Nat) (acc us : List Int32), qtM f n 34 k i acc = some (us, j) → j ≤ n := by sorry
theorem dgM_le {f : Nat → Int32} {n : Nat} : ∀ (k j : Nat) (a : Int64), j ≤ n → (dgM f n k j a).2 ≤ n := by sorry
theorem nuB_le {f : Nat → Int32} {n i : Nat} {mi : Bool} {p : Int64 × Nat} (h : nuB f n i mi = some p) : p.2 ≤ n := by sorry
theorem leaf_le {f : Nat → Int32} {n i : Nat} {p : LF × Nat} (h : pLeaf f n i = some p) : p.2 ≤ n := by sorry
theorem in_le {β : Type} {f : Nat → Int32} {n : Nat} {pv : Nat → Option (β × Nat)} {op : Int32} (ho : 0 ≤ clo op) : ∀ (m i : Nat) (acc : List (List Int32 × β)) (p : List (List Int32 × β) × Nat), pIn f n pv op m i acc = some p → p.2 ≤ n := by sorry
theorem pV_le {f : Nat → Int32} {n : Nat} : ∀ {r i : Nat} {p : JVt r × Nat}, pV f n r i = some p → p.2 ≤ n := by sorry
theorem pR_ok {f : Nat → Int32} {n : Nat} {x : JVt 32} (h : pR f n = some x) : wfV 32 x ∧ (prV 32 x).length ≤ n ∧ allL smF 32 x := by sorry
/-- what is written of a document is a document -/
theorem pR_pr {f : Nat → Int32} {n : Nat} {x : JVt 32} (h : wfV 32 x) (hn : (prV 32 x).length = n) (hA : At f n 0 (prV 32 x)) : pR f n = some x := by sorry
end
section
theorem w_1391 : (.instanceMethod ⟨"QueryBenchModel$Tree", "depth", "(I)I"⟩ : Cond) ∈ gtbl := by sorry
theorem w_1392 : (.selects "QueryBenchModel$Tree" ⟨"QueryBenchModel$Tree", "depth", "(I)I"⟩ ⟨"QueryBenchModel$Tree", "depth", "(I)I"⟩ : Cond) ∈ gtbl := by sorry
theorem w_1394 : (.methodLink "QueryBenchModel$Tree" 62 ⟨"QueryBenchModel$Tree", "depth", "(I)I"⟩ : Cond) ∈ gtbl := by sorry
/-- how deep it is -/
def dpK {β : Type} (dp : β → Nat) : List (List Int32 × β) → Nat
  | [] => 0
  | c :: cs => max (dp c.2) (dpK dp cs)
def dpJ : (r : Nat) → JVt r → Nat
  | 0, _ => 0
  | r + 1, x => if 5 ≤ x.1.1 then dpK (dpJ r) x.2 + 1 else 0
theorem dpK_app {β : Type} (dp : β → Nat) (c : List Int32 × β) : ∀ l : List (List Int32 × β), dpK dp (l ++ [c]) = max (dpK dp l) (dp c.2) := by sorry
theorem dpK_le {β : Type} {dp : β → Nat} {m : Nat} (h : ∀ x, dp x ≤ m) : ∀ l : List (List Int32 × β), dpK dp l ≤ m := by sorry
theorem dpJ_le : ∀ (r : Nat) (x : JVt r), dpJ r x ≤ r := by sorry
abbrev b_Tree_depth : ByteArray := prog_15_method_12_code
def y_Tree_depth : MethodName := ⟨"QueryBenchModel$Tree", "depth", "(I)I"⟩
abbrev k_Tree_depth : Cond := .code y_Tree_depth b_Tree_depth 5 (some .int)
theorem i_Tree_depth : k_Tree_depth ∈ gtbl := by sorry
theorem d_Tree_depth_0 : decode b_Tree_depth 0 = .ok (.iconst 0, 1) := by sorry
theorem d_Tree_depth_1 : decode b_Tree_depth 1 = .ok (.istore_n 2, 1) := by sorry
theorem d_Tree_depth_2 : decode b_Tree_depth 2 = .ok (.aload_n 0, 1) := by sorry
theorem d_Tree_depth_3 : decode b_Tree_depth 3 = .ok (.getfield 25, 3) := by sorry
theorem d_Tree_depth_6 : decode b_Tree_depth 6 = .ok (.iload_n 1, 1) := by sorry
theorem d_Tree_depth_7 : decode b_Tree_depth 7 = .ok (.iaload, 1) := by sorry
theorem d_Tree_depth_8 : decode b_Tree_depth 8 = .ok (.istore_n 3, 1) := by sorry
theorem d_Tree_depth_9 : decode b_Tree_depth 9 = .ok (.iload_n 3, 1) := by sorry
theorem d_Tree_depth_10 : decode b_Tree_depth 10 = .ok (.ifCond .lt 29, 3) := by sorry
theorem d_Tree_depth_13 : decode b_Tree_depth 13 = .ok (.aload_n 0, 1) := by sorry
theorem d_Tree_depth_14 : decode b_Tree_depth 14 = .ok (.iload_n 3, 1) := by sorry
theorem d_Tree_depth_15 : decode b_Tree_depth 15 = .ok (.invokevirtual 62, 3) := by sorry
theorem d_Tree_depth_18 : decode b_Tree_depth 18 = .ok (.istore 4, 2) := by sorry
theorem d_Tree_depth_20 : decode b_Tree_depth 20 = .ok (.iload 4, 2) := by sorry
theorem d_Tree_depth_22 : decode b_Tree_depth 22 = .ok (.iload_n 2, 1) := by sorry
theorem d_Tree_depth_23 : decode b_Tree_depth 23 = .ok (.if_icmp .le 6, 3) := by sorry
theorem d_Tree_depth_26 : decode b_Tree_depth 26 = .ok (.iload 4, 2) := by sorry
theorem d_Tree_depth_28 : decode b_Tree_depth 28 = .ok (.istore_n 2, 1) := by sorry
theorem d_Tree_depth_29 : decode b_Tree_depth 29 = .ok (.aload_n 0, 1) := by sorry
theorem d_Tree_depth_30 : decode b_Tree_depth 30 = .ok (.getfield 28, 3) := by sorry
theorem d_Tree_depth_33 : decode b_Tree_depth 33 = .ok (.iload_n 3, 1) := by sorry
theorem d_Tree_depth_34 : decode b_Tree_depth 34 = .ok (.iaload, 1) := by sorry
theorem d_Tree_depth_35 : decode b_Tree_depth 35 = .ok (.istore_n 3, 1) := by sorry
theorem d_Tree_depth_36 : decode b_Tree_depth 36 = .ok (.goto (-27), 3) := by sorry
theorem d_Tree_depth_39 : decode b_Tree_depth 39 = .ok (.aload_n 0, 1) := by sorry
theorem d_Tree_depth_40 : decode b_Tree_depth 40 = .ok (.getfield 9, 3) := by sorry
theorem d_Tree_depth_43 : decode b_Tree_depth 43 = .ok (.iload_n 1, 1) := by sorry
theorem d_Tree_depth_44 : decode b_Tree_depth 44 = .ok (.iaload, 1) := by sorry
theorem d_Tree_depth_45 : decode b_Tree_depth 45 = .ok (.iconst 5, 1) := by sorry
theorem d_Tree_depth_46 : decode b_Tree_depth 46 = .ok (.if_icmp .lt 9, 3) := by sorry
theorem d_Tree_depth_49 : decode b_Tree_depth 49 = .ok (.iload_n 2, 1) := by sorry
theorem d_Tree_depth_50 : decode b_Tree_depth 50 = .ok (.iconst 1, 1) := by sorry
theorem d_Tree_depth_51 : decode b_Tree_depth 51 = .ok (.iadd, 1) := by sorry
theorem d_Tree_depth_52 : decode b_Tree_depth 52 = .ok (.goto 4, 3) := by sorry
theorem d_Tree_depth_55 : decode b_Tree_depth 55 = .ok (.iload_n 2, 1) := by sorry
theorem d_Tree_depth_56 : decode b_Tree_depth 56 = .ok (.ireturn, 1) := by sorry
/-- what depth does, at most r deep -/
def DCc (r : Nat) : Prop := ∀ (l : Launch) (dC : Nat → ClassId) (dI : Nat → Nat → Nat) (t : Nat) (sz : Heap) (cI : ClassId) (T : TS) (a9 e9 : Nat) (x : JVt r), r ≤ 1000 → TOK T → RepV T r a9 e9 x → Met l y_Tree_depth (k_Tree_depth :: gtbl) ({ frames := 1 + r, cells := 0, slots := 0, locals := 30 + 30 * r }) (va_Pc [.ref t, .int (nI a9)] (mp dC dI [(t, .inr (12, MF 13 (tw T))), (T.a0, .inl (cI, T.N, .inl T.kd)), (T.a4, .inl (cI, T.N, .inl T.ki)), (T.a5, .inl (cI, T.N, .inl T.nx))] [(cI, .int)] sz)) (va_Qi (fun (res : Int32) (_ : Unit) => res = nI (dpJ r x)) (fun _ => mz dC dI [(t, .inr (12, MF 13 (tw T))), (T.a0, .inl (cI, T.N, .inl T.kd)), (T.a4, .inl (cI, T.N, .inl T.ki)), (T.a5, .inl (cI, T.N, .inl T.nx))] [(cI, .int)] (va_A [(t, .inr (12, MF 13 (tw T))), (T.a0, .inl (cI, T.N, .inl T.kd)), (T.a4, .inl (cI, T.N, .inl T.ki)), (T.a5, .inl (cI, T.N, .inl T.nx))] sz.size)) (va_A [(t, .inr (12, MF 13 (tw T))), (T.a0, .inl (cI, T.N, .inl T.kd)), (T.a4, .inl (cI, T.N, .inl T.ki)), (T.a5, .inl (cI, T.N, .inl T.nx))] sz.size)) 0 0 (va_A [(t, .inr (12, MF 13 (tw T))), (T.a0, .inl (cI, T.N, .inl T.kd)), (T.a4, .inl (cI, T.N, .inl T.ki)), (T.a5, .inl (cI, T.N, .inl T.nx))] sz.size)
set_option maxHeartbeats 4000000 in
set_option maxRecDepth 100000 in
/-- Tree.depth -/
theorem c_depth0 : DCc 0 := by sorry
set_option maxHeartbeats 4000000 in
set_option maxRecDepth 100000 in
/-- Tree.depth -/
theorem c_depthS (r : Nat) (hDC : DCc r) : DCc (r + 1) := by sorry
theorem c_DC : ∀ r : Nat, DCc r := by sorry
theorem asc_all : ∀ m : Nat, m < 127 → vp_nar .byte ((nI m).toInt8.toInt32) = nI m ∧ nI m &&& 255 = nI m := by sorry
theorem asc_b {x : Int32} (h : 0 ≤ x ∧ x ≤ 126) : vp_nar .byte (x.toInt8.toInt32) = x ∧ x &&& 255 = x := by sorry
theorem penL_get : ∀ (l : List Int32) (k : Nat) (o : Int32) (g : Nat → Int32), k + l.length ≤ 16384 → ∃ g', penL (k, o, g) l = (k + l.length, o, g') ∧ (∀ j, j < k → g' j = g j) ∧ ∀ j, j < l.length → g' (k + j) = vp_nar .byte ((l.getD j 0).toInt8.toInt32) := by sorry
theorem At_of {f : Nat → Int32} {n : Nat} : ∀ (l : List Int32) (i : Nat), i + l.length ≤ n → (∀ y, y ∈ l → 0 ≤ y ∧ y ≤ 126) → (∀ j, j < l.length → f (i + j) = l.getD j 0) → At f n i l := by sorry
/-- a held document: its text is read again -/
def HOK (f : Nat → Int32) (n : Nat) : Prop := n ≤ 4096 ∧ ∃ x, pR f n = some x
theorem held_ok {f g : Nat → Int32} {n : Nat} {x : JVt 32} {og : Nat → Int32} (hn : n ≤ 4096) (h : pR f n = some x) (hg : ∀ j, j < (prV 32 x).length → g j = (penL (0, 0, og) (prV 32 x)).2.2 j) : HOK g (prV 32 x).length ∧ (penL (0, 0, og) (prV 32 x)).1 = (prV 32 x).length := by sorry
/-- what is held is read again as what it was -/
theorem held_eq {f g : Nat → Int32} {n : Nat} {x : JVt 32} {og : Nat → Int32} (hn : n ≤ 4096) (h : pR f n = some x) (hg : ∀ j, j < (prV 32 x).length → g j = (penL (0, 0, og) (prV 32 x)).2.2 j) : pR g (prV 32 x).length = some x := by sorry
end
section
theorem w_1102 : (.fieldLink "QueryBenchModel" 25 "QueryBenchModel" "held" "[[B" : Cond) ∈ gtbl := by sorry
theorem w_1103 : (.fieldLink "QueryBenchModel" 28 "QueryBenchModel" "lengths" "[I" : Cond) ∈ gtbl := by sorry
theorem w_1104 : (.fieldLink "QueryBenchModel" 32 "QueryBenchModel" "there" "[Z" : Cond) ∈ gtbl := by sorry
theorem w_1107 : (.fieldLink "QueryBenchModel" 45 "QueryBenchModel" "document" "LQueryBenchModel$Tree;" : Cond) ∈ gtbl := by sorry
theorem w_1213 : (.methodLink "QueryBenchModel" 404 ⟨"QueryBenchModel", "used", "()I"⟩ : Cond) ∈ gtbl := by sorry
theorem w_1215 : (.instanceMethod ⟨"QueryBenchModel", "used", "()I"⟩ : Cond) ∈ gtbl := by sorry
theorem w_1217 : (.methodLink "QueryBenchModel" 406 ⟨"QueryBenchModel", "read", "([BILQueryBenchModel$Tree;)I"⟩ : Cond) ∈ gtbl := by sorry
theorem w_1219 : (.instanceMethod ⟨"QueryBenchModel", "read", "([BILQueryBenchModel$Tree;)I"⟩ : Cond) ∈ gtbl := by sorry
theorem w_1362 : (.methodLink "QueryBenchModel" 410 ⟨"QueryBenchModel", "begin", "()V"⟩ : Cond) ∈ gtbl := by sorry
theorem w_1364 : (.instanceMethod ⟨"QueryBenchModel", "begin", "()V"⟩ : Cond) ∈ gtbl := by sorry
theorem w_1390 : (.methodLink "QueryBenchModel" 413 ⟨"QueryBenchModel$Tree", "depth", "(I)I"⟩ : Cond) ∈ gtbl := by sorry
section
variable {p : Program} {l : Launch} {e : Env} {R : Room} {s : State} {m : MethodId} {args : Array Value} {below : List Frame} {meth : Method} {c : Code} {Q : State → Prop} {H : Heap} {locs : List Loc} {cells slots pc a : Nat} {ls : Array Slot} {rest : List Value} {cc : ByteArray} {D : va_G} {cl : List vw_C} {tys : List (ClassId × FieldType)} {ws : va_W}
/-- a row of a row of rows -/
theorem va_aldA (hexec : p.tables.exec = Jvm.exec) (hb : c.code = cc) (hK : va_K D cl tys s) (hP : va_P D cl ws H) (q0 t0 : Nat) {cA : ClassId} {n : Nat} {f : Nat → Option Nat} (ha : ws[q0]? = some (a, .inl (cA, n, .inr (.inr (.inr (.inr f)))))) (ht : tys[t0]? = some (cA, .array .byte)) {i : Int32} (hin : vp_in i n) (hdg : decode cc pc = .ok (.aaload, 1))
    (kk : W p l e R s m args below meth c H locs cells slots Q (F0 m (pc + 1) ls (va_rf (f i.toNatClampNeg) :: rest))) : W p l e R s m args below meth c H locs cells slots Q (F0 m pc ls (.int i :: .ref a :: rest)) := by sorry
end
/-- the held documents -/
def HI (g : Nat → Nat → Int32) (lf tf : Nat → Int32) : Prop := ∀ k, k < 4 → (tf k = 0 ∨ tf k = 1) ∧ (tf k = 1 → ∃ n, lf k = nI n ∧ HOK (g k) n)
theorem HI.set {g : Nat → Nat → Int32} {lf tf : Nat → Int32} (h : HI g lf tf) {k n : Nat} {row : Nat → Int32} (hr : HOK row n) : HI (fun j => if j = k then row else g j) (upd lf k (nI n)) (upd tf k 1) := by sorry
/-- the documents that are held, as values -/
def Xr (g : Nat → Nat → Int32) (lf tf : Nat → Int32) (k : Nat) : Option (JVt 32) := if tf k = 0 then none else pR (g k) (lf k).toNatClampNeg
theorem Xr_set {g : Nat → Nat → Int32} {lf tf : Nat → Int32} {q n : Nat} {row : Nat → Int32} {x : JVt 32} (hn : n ≤ 4096) (h : pR row n = some x) (k : Nat) : Xr (fun j => if j = q then row else g j) (upd lf q (nI n)) (upd tf q 1) k = va_up (Xr g lf tf) q (some x) k := by sorry
theorem Xr_0 {g : Nat → Nat → Int32} {lf tf : Nat → Int32} {k : Nat} (h : tf k = 0) : Xr g lf tf k = none := by sorry
theorem Xr_1 {g : Nat → Nat → Int32} {lf tf : Nat → Int32} {k n : Nat} (h : tf k = 1) (hl : lf k = nI n) (hn : n ≤ 4096) : Xr g lf tf k = pR (g k) n := by sorry
/-- fields of the reference that a load may change -/
abbrev ldF (j : Nat) : Prop := j = 1 ∨ j = 4 ∨ j = 5 ∨ j = 6 ∨ j = 7 ∨ j = 8 ∨ j = 9 ∨ j = 11 ∨ j = 12
def cpR (g o : Nat → Int32) (j : Nat) : Nat → Int32 := fun i => if i < j then o i else g i
theorem cpR_0 (g o : Nat → Int32) : cpR g o 0 = g := by sorry
theorem cpR_s (g o : Nat → Int32) (j : Nat) : upd (cpR g o j) j (o j) = cpR g o (j + 1) := by sorry
theorem ncap_mono {T : TS} {a b : Nat} (h : a ≤ b) : ncap T a ≤ ncap T b ∧ qcap T a ≤ qcap T b := by sorry
/-- what a load answers -/
def LDR (f : Nat → Int32) (tp : Nat) (dd res : Int32) (v4 : Value) : Prop := (¬ (¬ dd < 0 ∧ dd < 4) ∧ v4 = .int 1) ∨ ((¬ dd < 0 ∧ dd < 4) ∧ ((∃ x, pR f tp = some x ∧ v4 = .int 0 ∧ res = nI (dpJ 32 x)) ∨ (pR f tp = none ∧ v4 = .int 2)))
/-- what a load leaves of the documents -/
def LDX (g : Nat → Nat → Int32) (lf tf : Nat → Int32) (g2 : Nat → Nat → Int32) (lf2 tf2 : Nat → Int32) (f : Nat → Int32) (tp : Nat) (dd : Int32) : Prop := (g2 = g ∧ lf2 = lf ∧ tf2 = tf ∧ (¬ (¬ dd < 0 ∧ dd < 4) ∨ pR f tp = none)) ∨ ∃ (j : Nat) (x : JVt 32), j < 4 ∧ dd = nI j ∧ pR f tp = some x ∧ ∀ k, Xr g2 lf2 tf2 k = va_up (Xr g lf tf) j (some x) k
theorem GB.mono {a b a2 b2 : Nat} {T T2 : TS} (h : GB a b T T2) (h1 : a ≤ a2) (h2 : b ≤ b2) : GB a2 b2 T T2 := by sorry
abbrev b_Mo_load : ByteArray := prog_14_method_64_code
def y_Mo_load : MethodName := ⟨"QueryBenchModel", "load", "(I)I"⟩
abbrev k_Mo_load : Cond := .code y_Mo_load b_Mo_load 5 (some .int)
theorem i_Mo_load : k_Mo_load ∈ gtbl := by sorry
theorem d_Mo_load_0 : decode b_Mo_load 0 = .ok (.aload_n 0, 1) := by sorry
theorem d_Mo_load_1 : decode b_Mo_load 1 = .ok (.iload_n 1, 1) := by sorry
theorem d_Mo_load_2 : decode b_Mo_load 2 = .ok (.ifCond .lt 12, 3) := by sorry
theorem d_Mo_load_5 : decode b_Mo_load 5 = .ok (.iload_n 1, 1) := by sorry
theorem d_Mo_load_6 : decode b_Mo_load 6 = .ok (.iconst 4, 1) := by sorry
theorem d_Mo_load_7 : decode b_Mo_load 7 = .ok (.if_icmp .ge 7, 3) := by sorry
theorem d_Mo_load_10 : decode b_Mo_load 10 = .ok (.iconst 1, 1) := by sorry
theorem d_Mo_load_11 : decode b_Mo_load 11 = .ok (.goto 4, 3) := by sorry
theorem d_Mo_load_14 : decode b_Mo_load 14 = .ok (.iconst 0, 1) := by sorry
theorem d_Mo_load_15 : decode b_Mo_load 15 = .ok (.iconst 1, 1) := by sorry
theorem d_Mo_load_16 : decode b_Mo_load 16 = .ok (.invokevirtual 122, 3) := by sorry
theorem d_Mo_load_19 : decode b_Mo_load 19 = .ok (.ifCond .ne 5, 3) := by sorry
theorem d_Mo_load_22 : decode b_Mo_load 22 = .ok (.iconst 0, 1) := by sorry
theorem d_Mo_load_23 : decode b_Mo_load 23 = .ok (.ireturn, 1) := by sorry
theorem d_Mo_load_24 : decode b_Mo_load 24 = .ok (.aload_n 0, 1) := by sorry
theorem d_Mo_load_25 : decode b_Mo_load 25 = .ok (.invokevirtual 404, 3) := by sorry
theorem d_Mo_load_28 : decode b_Mo_load 28 = .ok (.istore_n 2, 1) := by sorry
theorem d_Mo_load_29 : decode b_Mo_load 29 = .ok (.aload_n 0, 1) := by sorry
theorem d_Mo_load_30 : decode b_Mo_load 30 = .ok (.iconst (-1), 1) := by sorry
theorem d_Mo_load_31 : decode b_Mo_load 31 = .ok (.putfield 16, 3) := by sorry
theorem d_Mo_load_34 : decode b_Mo_load 34 = .ok (.aload_n 0, 1) := by sorry
theorem d_Mo_load_35 : decode b_Mo_load 35 = .ok (.aload_n 0, 1) := by sorry
theorem d_Mo_load_36 : decode b_Mo_load 36 = .ok (.getfield 7, 3) := by sorry
theorem d_Mo_load_39 : decode b_Mo_load 39 = .ok (.iload_n 2, 1) := by sorry
theorem d_Mo_load_40 : decode b_Mo_load 40 = .ok (.aload_n 0, 1) := by sorry
theorem d_Mo_load_41 : decode b_Mo_load 41 = .ok (.getfield 45, 3) := by sorry
theorem d_Mo_load_44 : decode b_Mo_load 44 = .ok (.invokevirtual 406, 3) := by sorry
theorem d_Mo_load_47 : decode b_Mo_load 47 = .ok (.istore_n 3, 1) := by sorry
theorem d_Mo_load_48 : decode b_Mo_load 48 = .ok (.iload_n 3, 1) := by sorry
theorem d_Mo_load_49 : decode b_Mo_load 49 = .ok (.ifCond .ge 18, 3) := by sorry
theorem d_Mo_load_52 : decode b_Mo_load 52 = .ok (.aload_n 0, 1) := by sorry
theorem d_Mo_load_53 : decode b_Mo_load 53 = .ok (.aload_n 0, 1) := by sorry
theorem d_Mo_load_54 : decode b_Mo_load 54 = .ok (.getfield 144, 3) := by sorry
theorem d_Mo_load_57 : decode b_Mo_load 57 = .ok (.putfield 16, 3) := by sorry
theorem d_Mo_load_60 : decode b_Mo_load 60 = .ok (.aload_n 0, 1) := by sorry
theorem d_Mo_load_61 : decode b_Mo_load 61 = .ok (.iconst 2, 1) := by sorry
theorem d_Mo_load_62 : decode b_Mo_load 62 = .ok (.putfield 116, 3) := by sorry
theorem d_Mo_load_65 : decode b_Mo_load 65 = .ok (.iconst 0, 1) := by sorry
theorem d_Mo_load_66 : decode b_Mo_load 66 = .ok (.ireturn, 1) := by sorry
theorem d_Mo_load_67 : decode b_Mo_load 67 = .ok (.aload_n 0, 1) := by sorry
theorem d_Mo_load_68 : decode b_Mo_load 68 = .ok (.invokevirtual 410, 3) := by sorry
theorem d_Mo_load_71 : decode b_Mo_load 71 = .ok (.aload_n 0, 1) := by sorry
theorem d_Mo_load_72 : decode b_Mo_load 72 = .ok (.aload_n 0, 1) := by sorry
theorem d_Mo_load_73 : decode b_Mo_load 73 = .ok (.getfield 45, 3) := by sorry
theorem d_Mo_load_76 : decode b_Mo_load 76 = .ok (.iload_n 3, 1) := by sorry
theorem d_Mo_load_77 : decode b_Mo_load 77 = .ok (.invokevirtual 259, 3) := by sorry
theorem d_Mo_load_80 : decode b_Mo_load 80 = .ok (.iconst 0, 1) := by sorry
theorem d_Mo_load_81 : decode b_Mo_load 81 = .ok (.istore 4, 2) := by sorry
theorem d_Mo_load_83 : decode b_Mo_load 83 = .ok (.iload 4, 2) := by sorry
theorem d_Mo_load_85 : decode b_Mo_load 85 = .ok (.aload_n 0, 1) := by sorry
theorem d_Mo_load_86 : decode b_Mo_load 86 = .ok (.getfield 232, 3) := by sorry
theorem d_Mo_load_89 : decode b_Mo_load 89 = .ok (.if_icmp .ge 25, 3) := by sorry
theorem d_Mo_load_92 : decode b_Mo_load 92 = .ok (.aload_n 0, 1) := by sorry
theorem d_Mo_load_93 : decode b_Mo_load 93 = .ok (.getfield 25, 3) := by sorry
theorem d_Mo_load_96 : decode b_Mo_load 96 = .ok (.iload_n 1, 1) := by sorry
theorem d_Mo_load_97 : decode b_Mo_load 97 = .ok (.aaload, 1) := by sorry
theorem d_Mo_load_98 : decode b_Mo_load 98 = .ok (.iload 4, 2) := by sorry
theorem d_Mo_load_100 : decode b_Mo_load 100 = .ok (.aload_n 0, 1) := by sorry
theorem d_Mo_load_101 : decode b_Mo_load 101 = .ok (.getfield 20, 3) := by sorry
theorem d_Mo_load_104 : decode b_Mo_load 104 = .ok (.iload 4, 2) := by sorry
theorem d_Mo_load_106 : decode b_Mo_load 106 = .ok (.baload, 1) := by sorry
theorem d_Mo_load_107 : decode b_Mo_load 107 = .ok (.bastore, 1) := by sorry
theorem d_Mo_load_108 : decode b_Mo_load 108 = .ok (.iinc 4 1, 3) := by sorry
theorem d_Mo_load_111 : decode b_Mo_load 111 = .ok (.goto (-28), 3) := by sorry
theorem d_Mo_load_114 : decode b_Mo_load 114 = .ok (.aload_n 0, 1) := by sorry
theorem d_Mo_load_115 : decode b_Mo_load 115 = .ok (.getfield 28, 3) := by sorry
theorem d_Mo_load_118 : decode b_Mo_load 118 = .ok (.iload_n 1, 1) := by sorry
theorem d_Mo_load_119 : decode b_Mo_load 119 = .ok (.aload_n 0, 1) := by sorry
theorem d_Mo_load_120 : decode b_Mo_load 120 = .ok (.getfield 232, 3) := by sorry
theorem d_Mo_load_123 : decode b_Mo_load 123 = .ok (.iastore, 1) := by sorry
theorem d_Mo_load_124 : decode b_Mo_load 124 = .ok (.aload_n 0, 1) := by sorry
theorem d_Mo_load_125 : decode b_Mo_load 125 = .ok (.getfield 32, 3) := by sorry
theorem d_Mo_load_128 : decode b_Mo_load 128 = .ok (.iload_n 1, 1) := by sorry
theorem d_Mo_load_129 : decode b_Mo_load 129 = .ok (.iconst 1, 1) := by sorry
theorem d_Mo_load_130 : decode b_Mo_load 130 = .ok (.bastore, 1) := by sorry
theorem d_Mo_load_131 : decode b_Mo_load 131 = .ok (.aload_n 0, 1) := by sorry
theorem d_Mo_load_132 : decode b_Mo_load 132 = .ok (.getfield 45, 3) := by sorry
theorem d_Mo_load_135 : decode b_Mo_load 135 = .ok (.iload_n 3, 1) := by sorry
theorem d_Mo_load_136 : decode b_Mo_load 136 = .ok (.invokevirtual 413, 3) := by sorry
theorem d_Mo_load_139 : decode b_Mo_load 139 = .ok (.ireturn, 1) := by sorry
theorem nar_asc : ∀ m : Nat, m < 127 → vp_nar .byte (nI m) = nI m := by sorry
theorem pen_b (l : List Int32) {x : JVt 32} {og : Nat → Int32} {n : Nat} (h1 : wfV 32 x) (hn : n ≤ 4096) (h2 : (prV 32 x).length ≤ n) (j : Nat) (hj : j < (prV 32 x).length) : vp_nar .byte ((penL (0, 0, og) (prV 32 x)).2.2 j) = (penL (0, 0, og) (prV 32 x)).2.2 j := by sorry
set_option maxHeartbeats 4000000 in
set_option maxRecDepth 100000 in
/-- the reference: load -/
theorem c_Mo_load (l : Launch) (dC : Nat → ClassId) (dI : Nat → Nat → Nat) (mo : Nat) (sz : Heap) (v : Nat → Value) (cB cI cL cC cH cZ : ClassId) (qx qo hh hl_ ht_ : Nat) (ra9 : Nat → Nat) (f og lf tf : Nat → Int32) (g : Nat → Nat → Int32) (K : Nat → Nat × Nat) (t : Nat) (T : TS) (tp : Nat) (dd : Int32) (htp : tp ≤ 4096) (hT : TOK T) (hHI : HI g lf tf) (h0 : v 0 = .ref qx) (h1 : v 1 = .int (nI tp)) (h10 : v 10 = .ref qo) (h13 : v 13 = .ref hh) (h14 : v 14 = .ref hl_) (h15 : v 15 = .ref ht_) (h18 : v 18 = .ref t) : Met l y_Mo_load (k_Mo_load :: gtbl) ({ frames := 75, cells := ncap T 4108 + qcap T 4108, slots := 20 * ncap T 4108 + 2 * qcap T 4108, locals := 3000 }) (va_Pc [.ref mo, .int dd] (me K dC dI [(mo, .inr (13, MF 30 v)), (qx, .inl (cB, 4096, .inl f)), (qo, .inl (cB, 16392, .inl og)), (hh, .inl (cH, 4, .inr (.inr (.inr (.inr (fun j9 => some (ra9 j9))))))), ((ra9 0), .inl (cB, 4096, .inl (g 0))), ((ra9 1), .inl (cB, 4096, .inl (g 1))), ((ra9 2), .inl (cB, 4096, .inl (g 2))), ((ra9 3), .inl (cB, 4096, .inl (g 3))), (hl_, .inl (cI, 4, .inl lf)), (ht_, .inl (cZ, 4, .inl tf)), (t, .inr (12, MF 13 (tw T))), (T.a0, .inl (cI, T.N, .inl T.kd)), (T.a1, .inl (cL, T.N, .inr (.inl T.nu))), (T.a2, .inl (cI, T.N, .inl T.st)), (T.a3, .inl (cI, T.N, .inl T.ln)), (T.a4, .inl (cI, T.N, .inl T.ki)), (T.a5, .inl (cI, T.N, .inl T.nx)), (T.a6, .inl (cI, T.N, .inl T.ns)), (T.a7, .inl (cI, T.N, .inl T.nl)), (T.a8, .inl (cI, T.N, .inl T.pa)), (T.a9, .inl (cI, T.N, .inl T.pl)), (T.au, .inl (cC, T.U, .inl T.un))] [(cB, .byte), (cI, .int), (cL, .long), (cC, .char), (cH, .array .byte), (cZ, .boolean)] sz)) (va_Qi (fun (res : Int32) (u : (Nat → Value) × TS × (Nat → Int32) × (Nat → Nat → Int32) × (Nat → Int32) × (Nat → Int32)) => TOK u.2.1 ∧ GB 4108 4108 T u.2.1 ∧ HI u.2.2.2.1 u.2.2.2.2.1 u.2.2.2.2.2 ∧ u.1 1 = .int (nI (if ¬ dd < 0 ∧ dd < 4 then 0 else tp)) ∧ (∀ j9, ¬ ldF j9 → u.1 j9 = v j9) ∧ ((∃ z5, u.1 5 = .int z5) ∨ u.1 5 = v 5) ∧ LDR f tp dd res (u.1 4) ∧ LDX g lf tf u.2.2.2.1 u.2.2.2.2.1 u.2.2.2.2.2 f tp dd) (fun u t9 => mz dC dI [(mo, .inr (13, MF 30 u.1)), (qx, .inl (cB, 4096, .inl f)), (qo, .inl (cB, 16392, .inl u.2.2.1)), (hh, .inl (cH, 4, .inr (.inr (.inr (.inr (fun j9 => some (ra9 j9))))))), ((ra9 0), .inl (cB, 4096, .inl (u.2.2.2.1 0))), ((ra9 1), .inl (cB, 4096, .inl (u.2.2.2.1 1))), ((ra9 2), .inl (cB, 4096, .inl (u.2.2.2.1 2))), ((ra9 3), .inl (cB, 4096, .inl (u.2.2.2.1 3))), (hl_, .inl (cI, 4, .inl u.2.2.2.2.1)), (ht_, .inl (cZ, 4, .inl u.2.2.2.2.2)), (t, .inr (12, MF 13 (tw u.2.1))), (u.2.1.a0, .inl (cI, u.2.1.N, .inl u.2.1.kd)), (u.2.1.a1, .inl (cL, u.2.1.N, .inr (.inl u.2.1.nu))), (u.2.1.a2, .inl (cI, u.2.1.N, .inl u.2.1.st)), (u.2.1.a3, .inl (cI, u.2.1.N, .inl u.2.1.ln)), (u.2.1.a4, .inl (cI, u.2.1.N, .inl u.2.1.ki)), (u.2.1.a5, .inl (cI, u.2.1.N, .inl u.2.1.nx)), (u.2.1.a6, .inl (cI, u.2.1.N, .inl u.2.1.ns)), (u.2.1.a7, .inl (cI, u.2.1.N, .inl u.2.1.nl)), (u.2.1.a8, .inl (cI, u.2.1.N, .inl u.2.1.pa)), (u.2.1.a9, .inl (cI, u.2.1.N, .inl u.2.1.pl)), (u.2.1.au, .inl (cC, u.2.1.U, .inl u.2.1.un))] [(cB, .byte), (cI, .int), (cL, .long), (cC, .char), (cH, .array .byte), (cZ, .boolean)] (va_A [(mo, .inr (13, MF 30 v)), (qx, .inl (cB, 4096, .inl f)), (qo, .inl (cB, 16392, .inl og)), (hh, .inl (cH, 4, .inr (.inr (.inr (.inr (fun j9 => some (ra9 j9))))))), ((ra9 0), .inl (cB, 4096, .inl (g 0))), ((ra9 1), .inl (cB, 4096, .inl (g 1))), ((ra9 2), .inl (cB, 4096, .inl (g 2))), ((ra9 3), .inl (cB, 4096, .inl (g 3))), (hl_, .inl (cI, 4, .inl lf)), (ht_, .inl (cZ, 4, .inl tf)), (t, .inr (12, MF 13 (tw T))), (T.a0, .inl (cI, T.N, .inl T.kd)), (T.a1, .inl (cL, T.N, .inr (.inl T.nu))), (T.a2, .inl (cI, T.N, .inl T.st)), (T.a3, .inl (cI, T.N, .inl T.ln)), (T.a4, .inl (cI, T.N, .inl T.ki)), (T.a5, .inl (cI, T.N, .inl T.nx)), (T.a6, .inl (cI, T.N, .inl T.ns)), (T.a7, .inl (cI, T.N, .inl T.nl)), (T.a8, .inl (cI, T.N, .inl T.pa)), (T.a9, .inl (cI, T.N, .inl T.pl)), (T.au, .inl (cC, T.U, .inl T.un))] sz.size) t9 ∧ szk sz t9.heap (cE T u.2.1) (sE T u.2.1)) (va_A [(mo, .inr (13, MF 30 v)), (qx, .inl (cB, 4096, .inl f)), (qo, .inl (cB, 16392, .inl og)), (hh, .inl (cH, 4, .inr (.inr (.inr (.inr (fun j9 => some (ra9 j9))))))), ((ra9 0), .inl (cB, 4096, .inl (g 0))), ((ra9 1), .inl (cB, 4096, .inl (g 1))), ((ra9 2), .inl (cB, 4096, .inl (g 2))), ((ra9 3), .inl (cB, 4096, .inl (g 3))), (hl_, .inl (cI, 4, .inl lf)), (ht_, .inl (cZ, 4, .inl tf)), (t, .inr (12, MF 13 (tw T))), (T.a0, .inl (cI, T.N, .inl T.kd)), (T.a1, .inl (cL, T.N, .inr (.inl T.nu))), (T.a2, .inl (cI, T.N, .inl T.st)), (T.a3, .inl (cI, T.N, .inl T.ln)), (T.a4, .inl (cI, T.N, .inl T.ki)), (T.a5, .inl (cI, T.N, .inl T.nx)), (T.a6, .inl (cI, T.N, .inl T.ns)), (T.a7, .inl (cI, T.N, .inl T.nl)), (T.a8, .inl (cI, T.N, .inl T.pa)), (T.a9, .inl (cI, T.N, .inl T.pl)), (T.au, .inl (cC, T.U, .inl T.un))] sz.size)) (ncap T 4108 + qcap T 4108) (20 * ncap T 4108 + 2 * qcap T 4108) (va_A [(mo, .inr (13, MF 30 v)), (qx, .inl (cB, 4096, .inl f)), (qo, .inl (cB, 16392, .inl og)), (hh, .inl (cH, 4, .inr (.inr (.inr (.inr (fun j9 => some (ra9 j9))))))), ((ra9 0), .inl (cB, 4096, .inl (g 0))), ((ra9 1), .inl (cB, 4096, .inl (g 1))), ((ra9 2), .inl (cB, 4096, .inl (g 2))), ((ra9 3), .inl (cB, 4096, .inl (g 3))), (hl_, .inl (cI, 4, .inl lf)), (ht_, .inl (cZ, 4, .inl tf)), (t, .inr (12, MF 13 (tw T))), (T.a0, .inl (cI, T.N, .inl T.kd)), (T.a1, .inl (cL, T.N, .inr (.inl T.nu))), (T.a2, .inl (cI, T.N, .inl T.st)), (T.a3, .inl (cI, T.N, .inl T.ln)), (T.a4, .inl (cI, T.N, .inl T.ki)), (T.a5, .inl (cI, T.N, .inl T.nx)), (T.a6, .inl (cI, T.N, .inl T.ns)), (T.a7, .inl (cI, T.N, .inl T.nl)), (T.a8, .inl (cI, T.N, .inl T.pa)), (T.a9, .inl (cI, T.N, .inl T.pl)), (T.au, .inl (cC, T.U, .inl T.un))] sz.size) := by sorry
end
section
theorem w_1109 : (.fieldLink "QueryBenchModel" 52 "QueryBenchModel" "ends" "[J" : Cond) ∈ gtbl := by sorry
theorem w_1110 : (.fieldLink "QueryBenchModel" 263 "QueryBenchModel" "rows" "I" : Cond) ∈ gtbl := by sorry
/-- the rows of a query: room for how many, how many, where they lie, what they hold -/
def QS : Type := Nat × Nat × Nat × Nat × (Nat → Int32) × (Nat → Int64)
def QS.C (Q : QS) : Nat := Q.1
def QS.R (Q : QS) : Nat := Q.2.1
def QS.qq (Q : QS) : Nat := Q.2.2.1
def QS.qe (Q : QS) : Nat := Q.2.2.2.1
def QS.qf (Q : QS) : (Nat → Int32) := Q.2.2.2.2.1
def QS.ef (Q : QS) : (Nat → Int64) := Q.2.2.2.2.2
def QS.mk (C : Nat) (R : Nat) (qq : Nat) (qe : Nat) (qf : (Nat → Int32)) (ef : (Nat → Int64)) : QS := (C, R, qq, qe, qf, ef)
/-- the reference with these rows, so many brackets open -/
def rs (v : Nat → Value) (Q : QS) (o : Nat) : Nat → Value := va_up (va_up (va_up (va_up v 19 (.ref Q.qq)) 20 (.ref Q.qe)) 21 (.int (nI Q.R))) 23 (.int (nI o))
theorem rs_19 {v : Nat → Value} {Q : QS} {o : Nat} : rs v Q o 19 = .ref Q.qq := by sorry
theorem rs_20 {v : Nat → Value} {Q : QS} {o : Nat} : rs v Q o 20 = .ref Q.qe := by sorry
theorem rs_21 {v : Nat → Value} {Q : QS} {o : Nat} : rs v Q o 21 = .int (nI Q.R) := by sorry
theorem rs_23 {v : Nat → Value} {Q : QS} {o : Nat} : rs v Q o 23 = .int (nI o) := by sorry
theorem rs_ne {v : Nat → Value} {Q : QS} {o j : Nat} (h1 : j ≠ 19) (h2 : j ≠ 20) (h3 : j ≠ 21) (h4 : j ≠ 23) : rs v Q o j = v j := by sorry
theorem rs_row {v : Nat → Value} {Q Q2 : QS} {o i a c r : Nat} {b : Int32} (h1 : Q2.qq = a) (h2 : Q2.qe = c) (h3 : Q2.R = r) : va_up (va_up (va_up (rf (rs v Q o) i b) 19 (.ref a)) 20 (.ref c)) 21 (.int (nI r)) = rf (rs v Q2 o) i b := by sorry
theorem rs_r21 {v : Nat → Value} {Q Q2 : QS} {o i r : Nat} {b : Int32} (h1 : Q2.qq = Q.qq) (h2 : Q2.qe = Q.qe) (h3 : Q2.R = r) : va_up (rf (rs v Q o) i b) 21 (.int (nI r)) = rf (rs v Q2 o) i b := by sorry
theorem rs_o {v : Nat → Value} {Q : QS} {o o2 i : Nat} {b : Int32} : va_up (rf (rs v Q o) i b) 23 (.int (nI o2)) = rf (rs v Q o2) i b := by sorry
def QOK (Q : QS) : Prop := 16 ≤ Q.C ∧ Q.C ≤ 100000 ∧ Q.R ≤ Q.C ∧ ∀ j, gL (Q.ef j)
def rwC (Q : QS) : Nat := if Q.R = Q.C then 2 else 0
def rwS (Q : QS) : Nat := if Q.R = Q.C then 22 * Q.C else 0
/-- Q2 is Q and one more row -/
def QAd (Q Q2 : QS) (k : Int32) : Prop := (Q2.C = if Q.R = Q.C then 2 * Q.C else Q.C) ∧ Q2.R = Q.R + 1 ∧ (∀ j, j < 8 * Q.R → Q2.qf j = Q.qf j) ∧ ((∀ j, Q2.ef j = Q.ef j ∨ Q2.ef j = 0) ∧ ∀ j, j < 3 * Q.R → Q2.ef j = Q.ef j) ∧ Q2.qf (8 * Q.R) = k ∧ ∀ j, 0 < j → j < 8 → Q2.qf (8 * Q.R + j) = -1
/-- the first j fields of row R are -1 -/
def m1F (f : Nat → Int32) (b : Nat) (j : Nat) : Nat → Int32 := fun i => if b ≤ i ∧ i < b + j then -1 else f i
theorem m1F_0 (f : Nat → Int32) (b : Nat) : m1F f b 0 = f := by sorry
theorem m1F_s (f : Nat → Int32) (b j : Nat) : upd (m1F f b j) (b + j) (-1) = m1F f b (j + 1) := by sorry
abbrev b_Mo_row : ByteArray := prog_14_method_33_code
def y_Mo_row : MethodName := ⟨"QueryBenchModel", "row", "(I)I"⟩
abbrev k_Mo_row : Cond := .code y_Mo_row b_Mo_row 5 (some .int)
theorem i_Mo_row : k_Mo_row ∈ gtbl := by sorry
theorem d_Mo_row_0 : decode b_Mo_row 0 = .ok (.bipush 8, 2) := by sorry
theorem d_Mo_row_2 : decode b_Mo_row 2 = .ok (.aload_n 0, 1) := by sorry
theorem d_Mo_row_3 : decode b_Mo_row 3 = .ok (.getfield 263, 3) := by sorry
theorem d_Mo_row_6 : decode b_Mo_row 6 = .ok (.imul, 1) := by sorry
theorem d_Mo_row_7 : decode b_Mo_row 7 = .ok (.aload_n 0, 1) := by sorry
theorem d_Mo_row_8 : decode b_Mo_row 8 = .ok (.getfield 49, 3) := by sorry
theorem d_Mo_row_11 : decode b_Mo_row 11 = .ok (.arraylength, 1) := by sorry
theorem d_Mo_row_12 : decode b_Mo_row 12 = .ok (.if_icmp .ne 89, 3) := by sorry
theorem d_Mo_row_15 : decode b_Mo_row 15 = .ok (.iconst 2, 1) := by sorry
theorem d_Mo_row_16 : decode b_Mo_row 16 = .ok (.aload_n 0, 1) := by sorry
theorem d_Mo_row_17 : decode b_Mo_row 17 = .ok (.getfield 49, 3) := by sorry
theorem d_Mo_row_20 : decode b_Mo_row 20 = .ok (.arraylength, 1) := by sorry
theorem d_Mo_row_21 : decode b_Mo_row 21 = .ok (.imul, 1) := by sorry
theorem d_Mo_row_22 : decode b_Mo_row 22 = .ok (.newarray .int, 2) := by sorry
theorem d_Mo_row_24 : decode b_Mo_row 24 = .ok (.astore_n 2, 1) := by sorry
theorem d_Mo_row_25 : decode b_Mo_row 25 = .ok (.iconst 0, 1) := by sorry
theorem d_Mo_row_26 : decode b_Mo_row 26 = .ok (.istore_n 3, 1) := by sorry
theorem d_Mo_row_27 : decode b_Mo_row 27 = .ok (.iload_n 3, 1) := by sorry
theorem d_Mo_row_28 : decode b_Mo_row 28 = .ok (.aload_n 0, 1) := by sorry
theorem d_Mo_row_29 : decode b_Mo_row 29 = .ok (.getfield 49, 3) := by sorry
theorem d_Mo_row_32 : decode b_Mo_row 32 = .ok (.arraylength, 1) := by sorry
theorem d_Mo_row_33 : decode b_Mo_row 33 = .ok (.if_icmp .ge 18, 3) := by sorry
theorem d_Mo_row_36 : decode b_Mo_row 36 = .ok (.aload_n 2, 1) := by sorry
theorem d_Mo_row_37 : decode b_Mo_row 37 = .ok (.iload_n 3, 1) := by sorry
theorem d_Mo_row_38 : decode b_Mo_row 38 = .ok (.aload_n 0, 1) := by sorry
theorem d_Mo_row_39 : decode b_Mo_row 39 = .ok (.getfield 49, 3) := by sorry
theorem d_Mo_row_42 : decode b_Mo_row 42 = .ok (.iload_n 3, 1) := by sorry
theorem d_Mo_row_43 : decode b_Mo_row 43 = .ok (.iaload, 1) := by sorry
theorem d_Mo_row_44 : decode b_Mo_row 44 = .ok (.iastore, 1) := by sorry
theorem d_Mo_row_45 : decode b_Mo_row 45 = .ok (.iinc 3 1, 3) := by sorry
theorem d_Mo_row_48 : decode b_Mo_row 48 = .ok (.goto (-21), 3) := by sorry
theorem d_Mo_row_51 : decode b_Mo_row 51 = .ok (.aload_n 0, 1) := by sorry
theorem d_Mo_row_52 : decode b_Mo_row 52 = .ok (.aload_n 2, 1) := by sorry
theorem d_Mo_row_53 : decode b_Mo_row 53 = .ok (.putfield 49, 3) := by sorry
theorem d_Mo_row_56 : decode b_Mo_row 56 = .ok (.iconst 2, 1) := by sorry
theorem d_Mo_row_57 : decode b_Mo_row 57 = .ok (.aload_n 0, 1) := by sorry
theorem d_Mo_row_58 : decode b_Mo_row 58 = .ok (.getfield 52, 3) := by sorry
theorem d_Mo_row_61 : decode b_Mo_row 61 = .ok (.arraylength, 1) := by sorry
theorem d_Mo_row_62 : decode b_Mo_row 62 = .ok (.imul, 1) := by sorry
theorem d_Mo_row_63 : decode b_Mo_row 63 = .ok (.newarray .long, 2) := by sorry
theorem d_Mo_row_65 : decode b_Mo_row 65 = .ok (.astore_n 3, 1) := by sorry
theorem d_Mo_row_66 : decode b_Mo_row 66 = .ok (.iconst 0, 1) := by sorry
theorem d_Mo_row_67 : decode b_Mo_row 67 = .ok (.istore 4, 2) := by sorry
theorem d_Mo_row_69 : decode b_Mo_row 69 = .ok (.iload 4, 2) := by sorry
theorem d_Mo_row_71 : decode b_Mo_row 71 = .ok (.aload_n 0, 1) := by sorry
theorem d_Mo_row_72 : decode b_Mo_row 72 = .ok (.getfield 52, 3) := by sorry
theorem d_Mo_row_75 : decode b_Mo_row 75 = .ok (.arraylength, 1) := by sorry
theorem d_Mo_row_76 : decode b_Mo_row 76 = .ok (.if_icmp .ge 20, 3) := by sorry
theorem d_Mo_row_79 : decode b_Mo_row 79 = .ok (.aload_n 3, 1) := by sorry
theorem d_Mo_row_80 : decode b_Mo_row 80 = .ok (.iload 4, 2) := by sorry
theorem d_Mo_row_82 : decode b_Mo_row 82 = .ok (.aload_n 0, 1) := by sorry
theorem d_Mo_row_83 : decode b_Mo_row 83 = .ok (.getfield 52, 3) := by sorry
theorem d_Mo_row_86 : decode b_Mo_row 86 = .ok (.iload 4, 2) := by sorry
theorem d_Mo_row_88 : decode b_Mo_row 88 = .ok (.laload, 1) := by sorry
theorem d_Mo_row_89 : decode b_Mo_row 89 = .ok (.lastore, 1) := by sorry
theorem d_Mo_row_90 : decode b_Mo_row 90 = .ok (.iinc 4 1, 3) := by sorry
theorem d_Mo_row_93 : decode b_Mo_row 93 = .ok (.goto (-24), 3) := by sorry
theorem d_Mo_row_96 : decode b_Mo_row 96 = .ok (.aload_n 0, 1) := by sorry
theorem d_Mo_row_97 : decode b_Mo_row 97 = .ok (.aload_n 3, 1) := by sorry
theorem d_Mo_row_98 : decode b_Mo_row 98 = .ok (.putfield 52, 3) := by sorry
theorem d_Mo_row_101 : decode b_Mo_row 101 = .ok (.iconst 0, 1) := by sorry
theorem d_Mo_row_102 : decode b_Mo_row 102 = .ok (.istore_n 2, 1) := by sorry
theorem d_Mo_row_103 : decode b_Mo_row 103 = .ok (.iload_n 2, 1) := by sorry
theorem d_Mo_row_104 : decode b_Mo_row 104 = .ok (.bipush 8, 2) := by sorry
theorem d_Mo_row_106 : decode b_Mo_row 106 = .ok (.if_icmp .ge 24, 3) := by sorry
theorem d_Mo_row_109 : decode b_Mo_row 109 = .ok (.aload_n 0, 1) := by sorry
theorem d_Mo_row_110 : decode b_Mo_row 110 = .ok (.getfield 49, 3) := by sorry
theorem d_Mo_row_113 : decode b_Mo_row 113 = .ok (.bipush 8, 2) := by sorry
theorem d_Mo_row_115 : decode b_Mo_row 115 = .ok (.aload_n 0, 1) := by sorry
theorem d_Mo_row_116 : decode b_Mo_row 116 = .ok (.getfield 263, 3) := by sorry
theorem d_Mo_row_119 : decode b_Mo_row 119 = .ok (.imul, 1) := by sorry
theorem d_Mo_row_120 : decode b_Mo_row 120 = .ok (.iload_n 2, 1) := by sorry
theorem d_Mo_row_121 : decode b_Mo_row 121 = .ok (.iadd, 1) := by sorry
theorem d_Mo_row_122 : decode b_Mo_row 122 = .ok (.iconst (-1), 1) := by sorry
theorem d_Mo_row_123 : decode b_Mo_row 123 = .ok (.iastore, 1) := by sorry
theorem d_Mo_row_124 : decode b_Mo_row 124 = .ok (.iinc 2 1, 3) := by sorry
theorem d_Mo_row_127 : decode b_Mo_row 127 = .ok (.goto (-24), 3) := by sorry
theorem d_Mo_row_130 : decode b_Mo_row 130 = .ok (.aload_n 0, 1) := by sorry
theorem d_Mo_row_131 : decode b_Mo_row 131 = .ok (.getfield 49, 3) := by sorry
theorem d_Mo_row_134 : decode b_Mo_row 134 = .ok (.bipush 8, 2) := by sorry
theorem d_Mo_row_136 : decode b_Mo_row 136 = .ok (.aload_n 0, 1) := by sorry
theorem d_Mo_row_137 : decode b_Mo_row 137 = .ok (.getfield 263, 3) := by sorry
theorem d_Mo_row_140 : decode b_Mo_row 140 = .ok (.imul, 1) := by sorry
theorem d_Mo_row_141 : decode b_Mo_row 141 = .ok (.iload_n 1, 1) := by sorry
theorem d_Mo_row_142 : decode b_Mo_row 142 = .ok (.iastore, 1) := by sorry
theorem d_Mo_row_143 : decode b_Mo_row 143 = .ok (.aload_n 0, 1) := by sorry
theorem d_Mo_row_144 : decode b_Mo_row 144 = .ok (.dup, 1) := by sorry
theorem d_Mo_row_145 : decode b_Mo_row 145 = .ok (.getfield 263, 3) := by sorry
theorem d_Mo_row_148 : decode b_Mo_row 148 = .ok (.iconst 1, 1) := by sorry
theorem d_Mo_row_149 : decode b_Mo_row 149 = .ok (.iadd, 1) := by sorry
theorem d_Mo_row_150 : decode b_Mo_row 150 = .ok (.putfield 263, 3) := by sorry
theorem d_Mo_row_153 : decode b_Mo_row 153 = .ok (.aload_n 0, 1) := by sorry
theorem d_Mo_row_154 : decode b_Mo_row 154 = .ok (.getfield 263, 3) := by sorry
theorem d_Mo_row_157 : decode b_Mo_row 157 = .ok (.iconst 1, 1) := by sorry
theorem d_Mo_row_158 : decode b_Mo_row 158 = .ok (.isub, 1) := by sorry
theorem d_Mo_row_159 : decode b_Mo_row 159 = .ok (.ireturn, 1) := by sorry
theorem cap2 {D : va_G} {cl : List vw_C} {H : Heap} {x0 : Nat × va_E} {a b C : Nat} {cI cL : ClassId} {f : Nat → Int32} {g : Nat → Int64} (h : va_P D cl [x0, (a, .inl (cI, (2 * (8 * C)), .inl f)), (b, .inl (cL, (2 * (3 * C)), .inr (.inl g)))] H) : va_P D cl [x0, (a, .inl (cI, (8 * (2 * C)), .inl f)), (b, .inl (cL, (3 * (2 * C)), .inr (.inl g)))] H := by sorry
theorem cap2D {A : Nat → Prop} {x0 : Nat × va_E} {a b C : Nat} {cI cL : ClassId} {f : Nat → Int32} {g : Nat → Int64} (h : va_D A [x0, (a, .inl (cI, (2 * (8 * C)), .inl f)), (b, .inl (cL, (2 * (3 * C)), .inr (.inl g)))]) : va_D A [x0, (a, .inl (cI, (8 * (2 * C)), .inl f)), (b, .inl (cL, (3 * (2 * C)), .inr (.inl g)))] := by sorry
set_option maxHeartbeats 4000000 in
set_option maxRecDepth 100000 in
/-- the reference: row -/
theorem c_Mo_row (l : Launch) (dC : Nat → ClassId) (dI : Nat → Nat → Nat) (mo : Nat) (sz : Heap) (v : Nat → Value) (cI cL : ClassId) (Q : QS) (o i : Nat) (br x : Int32) (hQ : QOK Q) : Met l y_Mo_row (k_Mo_row :: gtbl) ({ frames := 0, cells := rwC Q, slots := rwS Q, locals := 0 }) (va_Pc [.ref mo, .int x] (mp dC dI [(mo, .inr (13, MF 30 (rf (rs v Q o) i br))), (Q.qq, .inl (cI, (8 * Q.C), .inl Q.qf)), (Q.qe, .inl (cL, (3 * Q.C), .inr (.inl Q.ef)))] [(cI, .int), (cL, .long)] sz)) (va_Qi (fun (r : Int32) (Q2 : QS) => r = nI Q.R ∧ QAd Q Q2 x) (fun Q2 t9 => mz dC dI [(mo, .inr (13, MF 30 (rf (rs v Q2 o) i br))), (Q2.qq, .inl (cI, (8 * Q2.C), .inl Q2.qf)), (Q2.qe, .inl (cL, (3 * Q2.C), .inr (.inl Q2.ef)))] [(cI, .int), (cL, .long)] (va_A [(mo, .inr (13, MF 30 (rf (rs v Q o) i br))), (Q.qq, .inl (cI, (8 * Q.C), .inl Q.qf)), (Q.qe, .inl (cL, (3 * Q.C), .inr (.inl Q.ef)))] sz.size) t9 ∧ szk sz t9.heap (rwC Q) (rwS Q)) (va_A [(mo, .inr (13, MF 30 (rf (rs v Q o) i br))), (Q.qq, .inl (cI, (8 * Q.C), .inl Q.qf)), (Q.qe, .inl (cL, (3 * Q.C), .inr (.inl Q.ef)))] sz.size)) (rwC Q) (rwS Q) (va_A [(mo, .inr (13, MF 30 (rf (rs v Q o) i br))), (Q.qq, .inl (cI, (8 * Q.C), .inl Q.qf)), (Q.qe, .inl (cL, (3 * Q.C), .inr (.inl Q.ef)))] sz.size) := by sorry
end
section
theorem w_1411 : (.methodLink "QueryBenchModel" 272 ⟨"QueryBenchModel", "set", "(III)V"⟩ : Cond) ∈ gtbl := by sorry
theorem w_1413 : (.instanceMethod ⟨"QueryBenchModel", "set", "(III)V"⟩ : Cond) ∈ gtbl := by sorry
theorem w_1431 : (.methodLink "QueryBenchModel" 286 ⟨"QueryBenchModel", "field", "(II)I"⟩ : Cond) ∈ gtbl := by sorry
theorem w_1433 : (.instanceMethod ⟨"QueryBenchModel", "field", "(II)I"⟩ : Cond) ∈ gtbl := by sorry
/-- a whole number of a query: its sign has been read (mi) -/
def whB (f : Nat → Int32) (n i : Nat) (mi : Bool) : Option (Int64 × Nat) :=
  if ¬ digH (hereV f n i) ∨ (mi = true ∧ hereV f n i = 48) then none
  else if 0 < lg_cmp (dgN f n i).1 9007199254740991 then none
  else some (if mi = true then -(dgN f n i).1 else (dgN f n i).1, (dgN f n i).2)
def whM (f : Nat → Int32) (n i : Nat) : Option (Int64 × Nat) := if hereV f n i = 45 then whB f n (i + 1) true else whB f n i false
def QS.wf (Q : QS) (g : Nat → Int32) : QS := QS.mk Q.C Q.R Q.qq Q.qe g Q.ef
abbrev b_Mo_whole : ByteArray := prog_14_method_43_code
def y_Mo_whole : MethodName := ⟨"QueryBenchModel", "whole", "(II)Z"⟩
abbrev k_Mo_whole : Cond := .code y_Mo_whole b_Mo_whole 7 (some .boolean)
theorem i_Mo_whole : k_Mo_whole ∈ gtbl := by sorry
theorem d_Mo_whole_0 : decode b_Mo_whole 0 = .ok (.aload_n 0, 1) := by sorry
theorem d_Mo_whole_1 : decode b_Mo_whole 1 = .ok (.getfield 135, 3) := by sorry
theorem d_Mo_whole_4 : decode b_Mo_whole 4 = .ok (.istore_n 3, 1) := by sorry
theorem d_Mo_whole_5 : decode b_Mo_whole 5 = .ok (.aload_n 0, 1) := by sorry
theorem d_Mo_whole_6 : decode b_Mo_whole 6 = .ok (.invokevirtual 147, 3) := by sorry
theorem d_Mo_whole_9 : decode b_Mo_whole 9 = .ok (.bipush 45, 2) := by sorry
theorem d_Mo_whole_11 : decode b_Mo_whole 11 = .ok (.if_icmp .ne 7, 3) := by sorry
theorem d_Mo_whole_14 : decode b_Mo_whole 14 = .ok (.iconst 1, 1) := by sorry
theorem d_Mo_whole_15 : decode b_Mo_whole 15 = .ok (.goto 4, 3) := by sorry
theorem d_Mo_whole_18 : decode b_Mo_whole 18 = .ok (.iconst 0, 1) := by sorry
theorem d_Mo_whole_19 : decode b_Mo_whole 19 = .ok (.istore 4, 2) := by sorry
theorem d_Mo_whole_21 : decode b_Mo_whole 21 = .ok (.iload 4, 2) := by sorry
theorem d_Mo_whole_23 : decode b_Mo_whole 23 = .ok (.ifCond .eq 13, 3) := by sorry
theorem d_Mo_whole_26 : decode b_Mo_whole 26 = .ok (.aload_n 0, 1) := by sorry
theorem d_Mo_whole_27 : decode b_Mo_whole 27 = .ok (.dup, 1) := by sorry
theorem d_Mo_whole_28 : decode b_Mo_whole 28 = .ok (.getfield 135, 3) := by sorry
theorem d_Mo_whole_31 : decode b_Mo_whole 31 = .ok (.iconst 1, 1) := by sorry
theorem d_Mo_whole_32 : decode b_Mo_whole 32 = .ok (.iadd, 1) := by sorry
theorem d_Mo_whole_33 : decode b_Mo_whole 33 = .ok (.putfield 135, 3) := by sorry
theorem d_Mo_whole_36 : decode b_Mo_whole 36 = .ok (.aload_n 0, 1) := by sorry
theorem d_Mo_whole_37 : decode b_Mo_whole 37 = .ok (.invokevirtual 147, 3) := by sorry
theorem d_Mo_whole_40 : decode b_Mo_whole 40 = .ok (.invokestatic 166, 3) := by sorry
theorem d_Mo_whole_43 : decode b_Mo_whole 43 = .ok (.ifCond .eq 17, 3) := by sorry
theorem d_Mo_whole_46 : decode b_Mo_whole 46 = .ok (.iload 4, 2) := by sorry
theorem d_Mo_whole_48 : decode b_Mo_whole 48 = .ok (.ifCond .eq 21, 3) := by sorry
theorem d_Mo_whole_51 : decode b_Mo_whole 51 = .ok (.aload_n 0, 1) := by sorry
theorem d_Mo_whole_52 : decode b_Mo_whole 52 = .ok (.invokevirtual 147, 3) := by sorry
theorem d_Mo_whole_55 : decode b_Mo_whole 55 = .ok (.bipush 48, 2) := by sorry
theorem d_Mo_whole_57 : decode b_Mo_whole 57 = .ok (.if_icmp .ne 12, 3) := by sorry
theorem d_Mo_whole_60 : decode b_Mo_whole 60 = .ok (.aload_n 0, 1) := by sorry
theorem d_Mo_whole_61 : decode b_Mo_whole 61 = .ok (.aload_n 0, 1) := by sorry
theorem d_Mo_whole_62 : decode b_Mo_whole 62 = .ok (.getfield 135, 3) := by sorry
theorem d_Mo_whole_65 : decode b_Mo_whole 65 = .ok (.invokevirtual 151, 3) := by sorry
theorem d_Mo_whole_68 : decode b_Mo_whole 68 = .ok (.ireturn, 1) := by sorry
theorem d_Mo_whole_69 : decode b_Mo_whole 69 = .ok (.lconst 0, 1) := by sorry
theorem d_Mo_whole_70 : decode b_Mo_whole 70 = .ok (.lstore 5, 2) := by sorry
theorem d_Mo_whole_72 : decode b_Mo_whole 72 = .ok (.aload_n 0, 1) := by sorry
theorem d_Mo_whole_73 : decode b_Mo_whole 73 = .ok (.invokevirtual 147, 3) := by sorry
theorem d_Mo_whole_76 : decode b_Mo_whole 76 = .ok (.bipush 48, 2) := by sorry
theorem d_Mo_whole_78 : decode b_Mo_whole 78 = .ok (.if_icmp .ne 16, 3) := by sorry
theorem d_Mo_whole_81 : decode b_Mo_whole 81 = .ok (.aload_n 0, 1) := by sorry
theorem d_Mo_whole_82 : decode b_Mo_whole 82 = .ok (.dup, 1) := by sorry
theorem d_Mo_whole_83 : decode b_Mo_whole 83 = .ok (.getfield 135, 3) := by sorry
theorem d_Mo_whole_86 : decode b_Mo_whole 86 = .ok (.iconst 1, 1) := by sorry
theorem d_Mo_whole_87 : decode b_Mo_whole 87 = .ok (.iadd, 1) := by sorry
theorem d_Mo_whole_88 : decode b_Mo_whole 88 = .ok (.putfield 135, 3) := by sorry
theorem d_Mo_whole_91 : decode b_Mo_whole 91 = .ok (.goto 53, 3) := by sorry
theorem d_Mo_whole_94 : decode b_Mo_whole 94 = .ok (.aload_n 0, 1) := by sorry
theorem d_Mo_whole_95 : decode b_Mo_whole 95 = .ok (.invokevirtual 147, 3) := by sorry
theorem d_Mo_whole_98 : decode b_Mo_whole 98 = .ok (.invokestatic 166, 3) := by sorry
theorem d_Mo_whole_101 : decode b_Mo_whole 101 = .ok (.ifCond .eq 43, 3) := by sorry
theorem d_Mo_whole_104 : decode b_Mo_whole 104 = .ok (.lload 5, 2) := by sorry
theorem d_Mo_whole_106 : decode b_Mo_whole 106 = .ok (.ldc2_w 215, 3) := by sorry
theorem d_Mo_whole_109 : decode b_Mo_whole 109 = .ok (.lcmp, 1) := by sorry
theorem d_Mo_whole_110 : decode b_Mo_whole 110 = .ok (.ifCond .gt 21, 3) := by sorry
theorem d_Mo_whole_113 : decode b_Mo_whole 113 = .ok (.ldc2_w 217, 3) := by sorry
theorem d_Mo_whole_116 : decode b_Mo_whole 116 = .ok (.lload 5, 2) := by sorry
theorem d_Mo_whole_118 : decode b_Mo_whole 118 = .ok (.lmul, 1) := by sorry
theorem d_Mo_whole_119 : decode b_Mo_whole 119 = .ok (.aload_n 0, 1) := by sorry
theorem d_Mo_whole_120 : decode b_Mo_whole 120 = .ok (.invokevirtual 147, 3) := by sorry
theorem d_Mo_whole_123 : decode b_Mo_whole 123 = .ok (.i2l, 1) := by sorry
theorem d_Mo_whole_124 : decode b_Mo_whole 124 = .ok (.ladd, 1) := by sorry
theorem d_Mo_whole_125 : decode b_Mo_whole 125 = .ok (.ldc2_w 219, 3) := by sorry
theorem d_Mo_whole_128 : decode b_Mo_whole 128 = .ok (.lsub, 1) := by sorry
theorem d_Mo_whole_129 : decode b_Mo_whole 129 = .ok (.lstore 5, 2) := by sorry
theorem d_Mo_whole_131 : decode b_Mo_whole 131 = .ok (.aload_n 0, 1) := by sorry
theorem d_Mo_whole_132 : decode b_Mo_whole 132 = .ok (.dup, 1) := by sorry
theorem d_Mo_whole_133 : decode b_Mo_whole 133 = .ok (.getfield 135, 3) := by sorry
theorem d_Mo_whole_136 : decode b_Mo_whole 136 = .ok (.iconst 1, 1) := by sorry
theorem d_Mo_whole_137 : decode b_Mo_whole 137 = .ok (.iadd, 1) := by sorry
theorem d_Mo_whole_138 : decode b_Mo_whole 138 = .ok (.putfield 135, 3) := by sorry
theorem d_Mo_whole_141 : decode b_Mo_whole 141 = .ok (.goto (-47), 3) := by sorry
theorem d_Mo_whole_144 : decode b_Mo_whole 144 = .ok (.lload 5, 2) := by sorry
theorem d_Mo_whole_146 : decode b_Mo_whole 146 = .ok (.ldc2_w 215, 3) := by sorry
theorem d_Mo_whole_149 : decode b_Mo_whole 149 = .ok (.lcmp, 1) := by sorry
theorem d_Mo_whole_150 : decode b_Mo_whole 150 = .ok (.ifCond .le 9, 3) := by sorry
theorem d_Mo_whole_153 : decode b_Mo_whole 153 = .ok (.aload_n 0, 1) := by sorry
theorem d_Mo_whole_154 : decode b_Mo_whole 154 = .ok (.iload_n 3, 1) := by sorry
theorem d_Mo_whole_155 : decode b_Mo_whole 155 = .ok (.invokevirtual 151, 3) := by sorry
theorem d_Mo_whole_158 : decode b_Mo_whole 158 = .ok (.ireturn, 1) := by sorry
theorem d_Mo_whole_159 : decode b_Mo_whole 159 = .ok (.aload_n 0, 1) := by sorry
theorem d_Mo_whole_160 : decode b_Mo_whole 160 = .ok (.getfield 52, 3) := by sorry
theorem d_Mo_whole_163 : decode b_Mo_whole 163 = .ok (.iconst 3, 1) := by sorry
theorem d_Mo_whole_164 : decode b_Mo_whole 164 = .ok (.iload_n 1, 1) := by sorry
theorem d_Mo_whole_165 : decode b_Mo_whole 165 = .ok (.imul, 1) := by sorry
theorem d_Mo_whole_166 : decode b_Mo_whole 166 = .ok (.iload_n 2, 1) := by sorry
theorem d_Mo_whole_167 : decode b_Mo_whole 167 = .ok (.iadd, 1) := by sorry
theorem d_Mo_whole_168 : decode b_Mo_whole 168 = .ok (.iload 4, 2) := by sorry
theorem d_Mo_whole_170 : decode b_Mo_whole 170 = .ok (.ifCond .eq 9, 3) := by sorry
theorem d_Mo_whole_173 : decode b_Mo_whole 173 = .ok (.lload 5, 2) := by sorry
theorem d_Mo_whole_175 : decode b_Mo_whole 175 = .ok (.lneg, 1) := by sorry
theorem d_Mo_whole_176 : decode b_Mo_whole 176 = .ok (.goto 5, 3) := by sorry
theorem d_Mo_whole_179 : decode b_Mo_whole 179 = .ok (.lload 5, 2) := by sorry
theorem d_Mo_whole_181 : decode b_Mo_whole 181 = .ok (.lastore, 1) := by sorry
theorem d_Mo_whole_182 : decode b_Mo_whole 182 = .ok (.aload_n 0, 1) := by sorry
theorem d_Mo_whole_183 : decode b_Mo_whole 183 = .ok (.iload_n 1, 1) := by sorry
theorem d_Mo_whole_184 : decode b_Mo_whole 184 = .ok (.iconst 2, 1) := by sorry
theorem d_Mo_whole_185 : decode b_Mo_whole 185 = .ok (.aload_n 0, 1) := by sorry
theorem d_Mo_whole_186 : decode b_Mo_whole 186 = .ok (.iload_n 1, 1) := by sorry
theorem d_Mo_whole_187 : decode b_Mo_whole 187 = .ok (.iconst 2, 1) := by sorry
theorem d_Mo_whole_188 : decode b_Mo_whole 188 = .ok (.invokevirtual 286, 3) := by sorry
theorem d_Mo_whole_191 : decode b_Mo_whole 191 = .ok (.iconst 1, 1) := by sorry
theorem d_Mo_whole_192 : decode b_Mo_whole 192 = .ok (.iload_n 2, 1) := by sorry
theorem d_Mo_whole_193 : decode b_Mo_whole 193 = .ok (.ishl, 1) := by sorry
theorem d_Mo_whole_194 : decode b_Mo_whole 194 = .ok (.ior, 1) := by sorry
theorem d_Mo_whole_195 : decode b_Mo_whole 195 = .ok (.invokevirtual 272, 3) := by sorry
theorem d_Mo_whole_198 : decode b_Mo_whole 198 = .ok (.iconst 1, 1) := by sorry
theorem d_Mo_whole_199 : decode b_Mo_whole 199 = .ok (.ireturn, 1) := by sorry
set_option maxHeartbeats 4000000 in
set_option maxRecDepth 100000 in
/-- the reference: whole -/
theorem c_Mo_whole (l : Launch) (dC : Nat → ClassId) (dI : Nat → Nat → Nat) (mo : Nat) (sz : Heap) (v : Nat → Value) (cB cI cL : ClassId) (qx NN : Nat) (f : Nat → Int32) (n : Nat) (Q : QS) (o i : Nat) (br : Int32) (s9 wh : Nat) (hnN : n ≤ NN) (hNN : NN ≤ 100000) (hi0 : i ≤ n) (h6 : v 6 = .ref qx) (h8 : v 8 = .int (nI n)) (hQ : QOK Q) (hs9 : s9 < Q.R) (hwh : wh ≤ 2) : Met l y_Mo_whole (k_Mo_whole :: gtbl) ({ frames := 2, cells := 0, slots := 0, locals := 60 }) (va_Pc [.ref mo, .int (nI s9), .int (nI wh)] (mp dC dI [(mo, .inr (13, MF 30 (rf (rs v Q o) i br))), (qx, .inl (cB, NN, .inl f)), (Q.qq, .inl (cI, (8 * Q.C), .inl Q.qf)), (Q.qe, .inl (cL, (3 * Q.C), .inr (.inl Q.ef)))] [(cB, .byte), (cI, .int), (cL, .long)] sz)) (va_Qi (fun (r : Int32) (u : Nat × Int32 × (Nat → Int32) × (Nat → Int64)) => (r = 1 ∧ ∃ val, whM f n i = some (val, u.1) ∧ u.2.2.1 = upd Q.qf (8 * s9 + 2) (Q.qf (8 * s9 + 2) ||| 1 <<< (nI wh &&& 31)) ∧ u.2.2.2 = vp_updL Q.ef (3 * s9 + wh) val ∧ u.1 ≤ n) ∨ (r = 0 ∧ whM f n i = none ∧ u.2.2.1 = Q.qf ∧ u.2.2.2 = Q.ef)) (fun u t9 => mz dC dI [(mo, .inr (13, MF 30 (rf (rs v Q o) u.1 u.2.1))), (qx, .inl (cB, NN, .inl f)), (Q.qq, .inl (cI, (8 * Q.C), .inl u.2.2.1)), (Q.qe, .inl (cL, (3 * Q.C), .inr (.inl u.2.2.2)))] [(cB, .byte), (cI, .int), (cL, .long)] (va_A [(mo, .inr (13, MF 30 (rf (rs v Q o) i br))), (qx, .inl (cB, NN, .inl f)), (Q.qq, .inl (cI, (8 * Q.C), .inl Q.qf)), (Q.qe, .inl (cL, (3 * Q.C), .inr (.inl Q.ef)))] sz.size) t9) (va_A [(mo, .inr (13, MF 30 (rf (rs v Q o) i br))), (qx, .inl (cB, NN, .inl f)), (Q.qq, .inl (cI, (8 * Q.C), .inl Q.qf)), (Q.qe, .inl (cL, (3 * Q.C), .inr (.inl Q.ef)))] sz.size)) 0 0 (va_A [(mo, .inr (13, MF 30 (rf (rs v Q o) i br))), (qx, .inl (cB, NN, .inl f)), (Q.qq, .inl (cI, (8 * Q.C), .inl Q.qf)), (Q.qe, .inl (cL, (3 * Q.C), .inr (.inl Q.ef)))] sz.size) := by sorry
end
section
/-- a value of any depth -/
abbrev VU : Type := (r : Nat) × JVt r
def lfJ : (r : Nat) → JVt r → LF
  | 0, x => x
  | _ + 1, x => x.1
def ksJ : (r : Nat) → JVt r → List (List Int32 × VU)
  | 0, _ => []
  | r + 1, x => x.2.map (fun p => (p.1, (⟨r, p.2⟩ : VU)))
abbrev lfU (u : VU) : LF := lfJ u.1 u.2
abbrev ksU (u : VU) : List (List Int32 × VU) := ksJ u.1 u.2
/-- a node: the way to it, and what stands there -/
abbrev NT : Type := List Nat × VU
def kdsI (p : List Nat) : Nat → List (List Int32 × VU) → List (List Int32 × NT)
  | _, [] => []
  | i, c :: cs => (c.1, (p ++ [i], c.2)) :: kdsI p (i + 1) cs
/-- its members, with their names -/
def kdsN (nd : NT) : List (List Int32 × NT) := kdsI nd.1 0 (ksU nd.2)
abbrev kdN (nd : NT) : Nat := (lfU nd.2).1
/-- itself and all below it, each before its members -/
def preJ : (r : Nat) → List Nat → JVt r → List NT
  | 0, p, x => [(p, ⟨0, x⟩)]
  | r + 1, p, x => (p, ⟨r + 1, x⟩) :: (x.2.mapIdx (fun i c => preJ r (p ++ [i]) c.2)).flatten
def preN (nd : NT) : List NT := preJ nd.2.1 nd.1 nd.2.2
/-- one after the other: what comes out, and the work -/
def seqW {α β : Type} (g : α → List β × Nat) : List α → List β × Nat
  | [] => ([], 0)
  | a :: l => ((g a).1 ++ (seqW g l).1, (g a).2 + (seqW g l).2)
/-- the places of a slice, upwards and downwards -/
def upLs : Nat → Int → Int → Int → List Int
  | 0, _, _, _ => []
  | k + 1, i, to, st => if i < to then i :: upLs k (i + st) to st else []
def dnL : Nat → Int → Int → Int → List Int
  | 0, _, _, _ => []
  | k + 1, i, to, st => if to < i then i :: dnL k (i + st) to st else []
def frontI (n : Nat) (v : Int64) : Int := if v.toInt < 0 then (n : Int) + v.toInt else v.toInt
def slcI (n : Nat) (a b : Option Int64) (c : Int64) : List Int :=
  if c.toInt = 0 then []
  else if 0 < c.toInt then upLs (n + 1) (match a with
    | some v => if frontI n v < 0 then 0 else frontI n v
    | none => 0) (match b with
    | some v => if (n : Int) < frontI n v then n else frontI n v
    | none => n) c.toInt
  else dnL (n + 1) (match a with
    | some v => if (n : Int) - 1 < frontI n v then n - 1 else frontI n v
    | none => n - 1) (match b with
    | some v => if frontI n v < -1 then -1 else frontI n v
    | none => -1) c.toInt
/-- the value of what is compared, if there is one -/
abbrev VOp : Type := Option VU
def leafU (x : LF) : VU := ⟨0, x⟩
def numU (n : Nat) : VU := leafU (3, Int64.ofNat n, [])
/-- are two values the same -/
def sameJ : (r : Nat) → JVt r → VU → Bool
  | 0, x, v => decide (x.1 = (lfU v).1) && (if x.1 = 3 then decide (x.2.1 = (lfU v).2.1) else if x.1 = 4 then decide (x.2.2 = (lfU v).2.2) else if x.1 = 5 ∨ x.1 = 6 then (ksU v).isEmpty else true)
  | r + 1, x, v => decide (x.1.1 = (lfU v).1) && (if x.1.1 = 3 then decide (x.1.2.1 = (lfU v).2.1) else if x.1.1 = 4 then decide (x.1.2.2 = (lfU v).2.2)
    else if x.1.1 = 5 then decide (x.2.length = (ksU v).length) && (x.2.zip (ksU v)).all (fun p => sameJ r p.1.2 p.2.2)
    else if x.1.1 = 6 then decide (x.2.length = (ksU v).length) && x.2.all (fun c => match (ksU v).find? (fun d => decide (d.1 = c.1)) with
      | some d => sameJ r c.2 d.2
      | none => false) else true)
def sameU (u v : VU) : Bool := sameJ u.1 u.2 v
/-- the rank of a unit: pairs are above all single ones -/
def rkI (x : Int32) : Int32 := if hiU x ∨ loU x then x + 65536 else x
def ltT : List Int32 → List Int32 → Bool
  | _, [] => false
  | [], _ :: _ => true
  | a :: s, b :: t => if a = b then ltT s t else decide (rkI a < rkI b)
def lessU (u v : VU) : Bool := decide ((lfU u).1 = (lfU v).1) && (if (lfU u).1 = 3 then decide ((lfU u).2.1 < (lfU v).2.1) else if (lfU u).1 = 4 then ltT (lfU u).2.2 (lfU v).2.2 else false)
def sameO : VOp → VOp → Bool
  | some u, some v => sameU u v
  | none, none => true
  | _, _ => false
def lessO : VOp → VOp → Bool
  | some u, some v => lessU u v
  | _, _ => false
/-- a comparison: 0 the same, 1 not, 2 less, 3 less or the same, 4 more, 5 more or the same -/
def cmpO (op : Nat) (a b : VOp) : Bool :=
  if op = 0 then sameO a b else if op = 1 then !(sameO a b) else if op = 2 then lessO a b else if op = 3 then lessO a b || sameO a b else if op = 4 then lessO b a else lessO b a || sameO a b
def lenU (u : VU) : VOp := if (lfU u).1 = 4 then some (numU (((lfU u).2.2.filter (fun c => decide (¬ loU c))).length)) else if 5 ≤ (lfU u).1 then some (numU (ksU u).length) else none
/-- what a query, a segment, a selector says: of the root and a node, the nodes and the work -/
abbrev QT : Type := NT → NT → List NT × Nat
abbrev CT : Type := NT → NT → Bool × Nat
abbrev OT : Type := NT → NT → VOp × Nat
-- selectors
def namS (t : List Int32) : QT := fun _ nd => if kdN nd = 6 then (match (kdsN nd).find? (fun p => decide (p.1 = t)) with
  | some p => ([p.2], 1)
  | none => ([], 0)) else ([], 0)
def eachS : QT := fun _ nd => ((kdsN nd).map (·.2), (kdsN nd).length)
def idxS (v : Int64) : QT := fun _ nd => if kdN nd = 5 ∧ 0 ≤ frontI (kdsN nd).length v then (match (kdsN nd)[(frontI (kdsN nd).length v).toNat]? with
  | some p => ([p.2], 1)
  | none => ([], 0)) else ([], 0)
def slcS (a b : Option Int64) (c : Int64) : QT := fun _ nd => if kdN nd = 5 then (((slcI (kdsN nd).length a b c).filterMap (fun i => ((kdsN nd)[i.toNat]?).map (·.2))), (slcI (kdsN nd).length a b c).length) else ([], 0)
def filL (g : NT → Bool × Nat) : List (List Int32 × NT) → List NT × Nat
  | [] => ([], 0)
  | k :: ks => if (g k.2).1 = true then (k.2 :: (filL g ks).1, 1 + (g k.2).2 + 1 + (filL g ks).2) else ((filL g ks).1, 1 + (g k.2).2 + (filL g ks).2)
def filS (g : CT) : QT := fun rt nd => filL (g rt) (kdsN nd)
-- segments, queries
def chsS (l : List QT) : QT := fun rt nd => seqW (fun s : QT => s rt nd) l
def segS (ds : Bool) (l : List QT) : QT := fun rt nd => if ds = true then seqW (fun e => ((chsS l rt e).1, 1 + (chsS l rt e).2)) (preN nd) else chsS l rt nd
def qryL (rt : NT) : List QT → List NT → List NT × Nat
  | [], l => (l, 0)
  | g :: gs, l => ((qryL rt gs (seqW (g rt) l).1).1, (seqW (g rt) l).2 + (qryL rt gs (seqW (g rt) l).1).2)
def qryS (rooted : Bool) (gs : List QT) : QT := fun rt nd => ((qryL rt gs [if rooted = true then rt else nd]).1, 1 + (qryL rt gs [if rooted = true then rt else nd]).2)
-- what may be compared
def oneV (l : List NT) : VOp := match l with
  | [n] => some n.2
  | _ => none
def litO (x : LF) : OT := fun _ _ => (some (leafU x), 0)
def onlO (q : QT) : OT := fun rt nd => (oneV (q rt nd).1, (q rt nd).2)
def lenO (o : OT) : OT := fun rt nd => ((o rt nd).1.bind lenU, (o rt nd).2)
def cntO (q : QT) : OT := fun rt nd => (some (numU (q rt nd).1.length), (q rt nd).2)
-- conditions
def cmpC (op : Nat) (a b : OT) : CT := fun rt nd => (cmpO op (a rt nd).1 (b rt nd).1, (a rt nd).2 + (b rt nd).2)
def tstC (q : QT) : CT := fun rt nd => (!(q rt nd).1.isEmpty, (q rt nd).2)
def notC (g : CT) : CT := fun rt nd => (!(g rt nd).1, (g rt nd).2)
def allC : List CT → CT
  | [], _, _ => (true, 0)
  | g :: l, rt, nd => if (g rt nd).1 = true then ((allC l rt nd).1, (g rt nd).2 + (allC l rt nd).2) else (false, (g rt nd).2)
def anyC_ : List CT → CT
  | [], _, _ => (false, 0)
  | g :: l, rt, nd => if (g rt nd).1 = true then (true, (g rt nd).2) else ((anyC_ l rt nd).1, (g rt nd).2 + (anyC_ l rt nd).2)
theorem allC_1 (g : CT) : allC [g] = g := by sorry
theorem anyC_1 (g : CT) : anyC_ [g] = g := by sorry
/-- units that are read between quotes of either kind are such as may stand in a text -/
theorem escM_b {f : Nat → Int32} {n i : Nat} {q : Int32} (hq : q = 39 ∨ q = 34) (h : 0 ≤ (escM f n q i).1) : (escM f n q i).1 ≤ 65535 := by sorry
theorem qt_uok {f : Nat → Int32} {n : Nat} {q : Int32} (hq : q = 39 ∨ q = 34) : ∀ (k i j : Nat) (acc us : List Int32), qtM f n q k i acc = some (us, j) → ∃ vs, us = acc ++ vs ∧ uOK vs := by sorry
theorem qtQ_uok {f : Nat → Int32} {n i j : Nat} {q : Int32} {us : List Int32} (hq : q = 39 ∨ q = 34) (h : qtQ f n q i = some (us, j)) : uOK us ∧ us.map c16 = us := by sorry
def bI (b : Bool) : Int32 := if b = true then 1 else 0
theorem bI_f {b : Bool} (h : bI b = 0) : b = false := by sorry
theorem bI_t {b : Bool} (h : ¬ bI b = 0) : b = true := by sorry
theorem bI_01 {b : Bool} {r : Int32} (h : r = bI b) : (¬ r = 0 → b = true) ∧ (r = 0 → b = false) := by sorry
theorem bI_or {b : Bool} : bI b = 0 ∨ bI b = 1 := by sorry
end
section
/-- a predicate on the rows lo .. hi, whose head is row a; m: what they mean -/
abbrev QP (M : Type) : Type := QS → TS → Nat → Nat → Nat → M → Prop
/-- numbers and units stay -/
def EUk (Q : QS) (V : TS) (Q2 : QS) (V2 : TS) (lo hi : Nat) : Prop := (∀ r k : Nat, lo ≤ r → r < hi → k < 3 → Q2.ef (3 * r + k) = Q.ef (3 * r + k)) ∧ V.us ≤ V2.us ∧ ∀ j : Nat, j < V.us → V2.un j = V.un j
theorem EUk.rf {Q : QS} {V : TS} {lo hi : Nat} : EUk Q V Q V lo hi := by sorry
theorem EUk.sub {Q Q2 : QS} {V V2 : TS} {lo hi lo2 hi2 : Nat} (h : EUk Q V Q2 V2 lo hi) (h1 : lo ≤ lo2) (h2 : hi2 ≤ hi) : EUk Q V Q2 V2 lo2 hi2 := by sorry
theorem EUk.tr {Q Q2 Q3 : QS} {V V2 V3 : TS} {lo hi : Nat} (h : EUk Q V Q2 V2 lo hi) (g : EUk Q2 V2 Q3 V3 lo hi) : EUk Q V Q3 V3 lo hi := by sorry
theorem EUk.ef {Q Q2 : QS} {V : TS} {lo hi : Nat} (h : Q2.ef = Q.ef) : EUk Q V Q2 V lo hi := by sorry
/-- the rows lo .. hi are alike, but for field lk of row a -/
def agr (Q : QS) (V : TS) (Q2 : QS) (V2 : TS) (lo hi a lk : Nat) : Prop := (∀ r k : Nat, lo ≤ r → r < hi → k < 8 → ¬ (r = a ∧ k = lk) → Q2.qf (8 * r + k) = Q.qf (8 * r + k)) ∧ EUk Q V Q2 V2 lo hi
/-- the rows lo .. hi are alike -/
def alr (Q : QS) (V : TS) (Q2 : QS) (V2 : TS) (lo hi : Nat) : Prop := (∀ r k : Nat, lo ≤ r → r < hi → k < 8 → Q2.qf (8 * r + k) = Q.qf (8 * r + k)) ∧ EUk Q V Q2 V2 lo hi
theorem alr.sub {Q Q2 : QS} {V V2 : TS} {lo hi lo2 hi2 : Nat} (h : alr Q V Q2 V2 lo hi) (h1 : lo ≤ lo2) (h2 : hi2 ≤ hi) : alr Q V Q2 V2 lo2 hi2 := by sorry
theorem alr.agr {Q Q2 : QS} {V V2 : TS} {lo hi a lk : Nat} (h : alr Q V Q2 V2 lo hi) : agr Q V Q2 V2 lo hi a lk := by sorry
theorem alr.tr {Q Q2 Q3 : QS} {V V2 V3 : TS} {lo hi : Nat} (h : alr Q V Q2 V2 lo hi) (g : alr Q2 V2 Q3 V3 lo hi) : alr Q V Q3 V3 lo hi := by sorry
/-- one field is set, outside of lo .. hi -/
theorem alr.upd {Q Q2 : QS} {V : TS} {lo hi a b : Nat} {y : Int32} (h1 : Q2.qf = upd Q.qf (8 * a + b) y) (h2 : Q2.ef = Q.ef) (hb : b < 8) (h : ¬ (lo ≤ a ∧ a < hi)) : alr Q V Q2 V lo hi := by sorry
/-- a predicate that does not look at field lk of its head, nor outside -/
def Frm {M : Type} (lk : Nat) (P : QP M) : Prop := ∀ (Q : QS) (V : TS) (Q2 : QS) (V2 : TS) (lo hi a : Nat) (m : M), P Q V lo hi a m → agr Q V Q2 V2 lo hi a lk → P Q2 V2 lo hi a m
/-- its head lies in it -/
def Inn {M : Type} (P : QP M) : Prop := ∀ (Q : QS) (V : TS) (lo hi a : Nat) (m : M), P Q V lo hi a m → lo ≤ a ∧ a < hi
/-- a chain of heads, each at field lk of the one before, up to z -/
def CHn {M : Type} (lk : Nat) (P : QP M) (Q : QS) (V : TS) (hi : Nat) (z : Int32) : List M → Nat → Int32 → Prop
  | [], _, k => k = z
  | m :: l, lo, k => ∃ a lo2 hi2 : Nat, k = nI a ∧ lo ≤ lo2 ∧ hi2 ≤ hi ∧ P Q V lo2 hi2 a m ∧ CHn lk P Q V hi z l hi2 (Q.qf (8 * a + lk))
section Chains
variable {M : Type} {lk : Nat} {P : QP M}
theorem CHn_fr (hP : Frm lk P) (hI : Inn P) (hlk : lk < 8) {Q Q2 : QS} {V V2 : TS} {hi : Nat} {z : Int32} : ∀ (l : List M) (lo : Nat) (k : Int32), CHn lk P Q V hi z l lo k → alr Q V Q2 V2 lo hi → CHn lk P Q2 V2 hi z l lo k := by sorry
/-- one more at the end -/
theorem CHn_snoc (hI : Inn P) {Q : QS} {V : TS} {hi mid a lo2 hi2 : Nat} {z : Int32} {m : M} (h1 : mid ≤ lo2) (h2 : hi2 ≤ hi) (h3 : P Q V lo2 hi2 a m) (h4 : Q.qf (8 * a + lk) = z) : ∀ (l : List M) (lo : Nat) (k : Int32), lo ≤ mid → CHn lk P Q V mid (nI a) l lo k → CHn lk P Q V hi z (l ++ [m]) lo k := by sorry
/-- the chain so far, its last apart: k is where it begins (or -1), bf its last (or -1) -/
def KQ (lk : Nat) (P : QP M) (Q : QS) (V : TS) (lo hi : Nat) (k bf : Int32) (l : List M) : Prop := (k = -1 ∧ bf = -1 ∧ l = []) ∨ ∃ (l0 : List M) (m : M) (a lo2 hi2 mid : Nat), l = l0 ++ [m] ∧ bf = nI a ∧ lo ≤ mid ∧ mid ≤ lo2 ∧ hi2 ≤ hi ∧ CHn lk P Q V mid (nI a) l0 lo k ∧ P Q V lo2 hi2 a m ∧ Q.qf (8 * a + lk) = -1
theorem KQ.all (hI : Inn P) {Q : QS} {V : TS} {lo hi : Nat} {k bf : Int32} {l : List M} (h : KQ lk P Q V lo hi k bf l) : CHn lk P Q V hi (-1) l lo k := by sorry
theorem KQ.fr (hP : Frm lk P) (hI : Inn P) (hlk : lk < 8) {Q Q2 : QS} {V V2 : TS} {lo hi : Nat} {k bf : Int32} {l : List M} (h : KQ lk P Q V lo hi k bf l) (ha : alr Q V Q2 V2 lo hi) : KQ lk P Q2 V2 lo hi k bf l := by sorry
/-- the first of a chain -/
theorem KQ.one {Q : QS} {V : TS} {lo hi lo2 a : Nat} {m : M} (h1 : lo ≤ lo2) (h3 : P Q V lo2 hi a m) (h4 : Q.qf (8 * a + lk) = -1) : KQ lk P Q V lo hi (nI a) (nI a) [m] := by sorry
/-- one more: the last of before gets its link -/
theorem KQ.add (hP : Frm lk P) (hI : Inn P) (hlk : lk < 8) {Q Q2 : QS} {V : TS} {lo hi hi3 lo3 a c : Nat} {k : Int32} {l : List M} {m : M} (h : KQ lk P Q V lo hi k (nI a) l) (hab : a < 2 ^ 28) (hhi : hi < 2 ^ 28) (h1 : hi ≤ lo3) (h3 : P Q V lo3 hi3 c m) (h4 : Q.qf (8 * c + lk) = -1) (hu : Q2.qf = upd Q.qf (8 * a + lk) (nI c)) (he : Q2.ef = Q.ef) : KQ lk P Q2 V lo hi3 k (nI c) (l ++ [m]) := by sorry
theorem Frm8 (h : Frm lk P) : Frm 8 P := by sorry
theorem Frm.use (h : Frm 8 P) {Q Q2 : QS} {V V2 : TS} {lo hi a : Nat} {m : M} (hp : P Q V lo hi a m) (ha : alr Q V Q2 V2 lo hi) : P Q2 V2 lo hi a m := by sorry
/-- P holds of a head that lies within lo .. hi, apart from row x -/
def Wth (P : QP M) (Q : QS) (V : TS) (lo hi x a : Nat) (m : M) : Prop := ∃ lo2 hi2 : Nat, lo ≤ lo2 ∧ hi2 ≤ hi ∧ ¬ (lo2 ≤ x ∧ x < hi2) ∧ P Q V lo2 hi2 a m
theorem Wth_fr (h : Frm 8 P) {lk : Nat} {Q Q2 : QS} {V V2 : TS} {lo hi x a : Nat} {m : M} (hp : Wth P Q V lo hi x a m) (ha : agr Q V Q2 V2 lo hi x lk) : Wth P Q2 V2 lo hi x a m := by sorry
end Chains
/-- a name in a row: its units -/
def NMq (Q : QS) (V : TS) (x : Nat) (t : List Int32) : Prop := ∃ st ln : Nat, Q.qf (8 * x + 2) = nI st ∧ Q.qf (8 * x + 3) = nI ln ∧ st + ln ≤ V.us ∧ sl V.un st ln = t
theorem NMq_fr {Q Q2 : QS} {V V2 : TS} {x lo hi : Nat} {t : List Int32} (h : NMq Q V x t) (hs : EUk Q V Q2 V2 lo hi) (h1 : Q2.qf (8 * x + 2) = Q.qf (8 * x + 2)) (h2 : Q2.qf (8 * x + 3) = Q.qf (8 * x + 3)) : NMq Q2 V2 x t := by sorry
/-- a slice, by what is said of it -/
def slq (h : Int32) (a b c : Int64) : QT := slcS (if h &&& 1 = 0 then none else some a) (if h &&& 2 = 0 then none else some b) (if h &&& 4 = 0 then 1 else c)
/-- a selector; O: the conditions that a filter may hold -/
def SELp (O : QP CT) : QP QT := fun Q V lo hi x m => lo ≤ x ∧ x < hi ∧ ((Q.qf (8 * x + 0) = 1 ∧ ∃ t, NMq Q V x t ∧ m = namS t) ∨ (Q.qf (8 * x + 0) = 2 ∧ m = eachS) ∨ (Q.qf (8 * x + 0) = 3 ∧ m = idxS (Q.ef (3 * x + 0))) ∨ (Q.qf (8 * x + 0) = 4 ∧ m = slq (Q.qf (8 * x + 2)) (Q.ef (3 * x + 0)) (Q.ef (3 * x + 1)) (Q.ef (3 * x + 2))) ∨ (Q.qf (8 * x + 0) = 5 ∧ ∃ (a : Nat) (g : CT), Q.qf (8 * x + 2) = nI a ∧ Wth O Q V lo hi x a g ∧ m = filS g))
theorem SELp_in {O : QP CT} : Inn (SELp O) := by sorry
theorem SELp_fr {O : QP CT} (hO : Frm 8 O) : Frm 1 (SELp O) := by sorry
/-- a segment -/
def SEGp (O : QP CT) : QP QT := fun Q V lo hi x m => lo ≤ x ∧ x < hi ∧ (Q.qf (8 * x + 1) = 0 ∨ Q.qf (8 * x + 1) = 1) ∧ ∃ l : List QT, CHn 1 (SELp O) Q V hi (-1) l (x + 1) (Q.qf (8 * x + 2)) ∧ m = segS (decide (Q.qf (8 * x + 1) = 1)) l
theorem SEGp_in {O : QP CT} : Inn (SEGp O) := by sorry
theorem SEGp_fr {O : QP CT} (hO : Frm 8 O) : Frm 3 (SEGp O) := by sorry
/-- a query -/
def QRYp (O : QP CT) : QP QT := fun Q V lo hi x m => lo ≤ x ∧ x < hi ∧ (Q.qf (8 * x + 1) = 0 ∨ Q.qf (8 * x + 1) = 1) ∧ ∃ l : List QT, CHn 3 (SEGp O) Q V hi (-1) l (x + 1) (Q.qf (8 * x + 2)) ∧ m = qryS (decide (Q.qf (8 * x + 1) = 1)) l
theorem QRYp_fr {O : QP CT} (hO : Frm 8 O) : Frm 3 (QRYp O) := by sorry
/-- what may be compared; C, Y: what may stand in brackets -/
def CMPf (O : QP CT) (C : QP OT) (Y : QP QT) : QP OT := fun Q V lo hi x m => lo ≤ x ∧ x < hi ∧ ((Q.qf (8 * x + 0) = 40 ∧ m = litO (3, Q.ef (3 * x + 0), [])) ∨ (Q.qf (8 * x + 0) = 41 ∧ ∃ t, NMq Q V x t ∧ uOK t ∧ m = litO (4, 0, t)) ∨ (Q.qf (8 * x + 0) = 42 ∧ m = litO (1, 0, [])) ∨ (Q.qf (8 * x + 0) = 43 ∧ m = litO (2, 0, [])) ∨ (Q.qf (8 * x + 0) = 44 ∧ m = litO (0, 0, [])) ∨ (Q.qf (8 * x + 0) = 45 ∧ ∃ (a : Nat) (g : QT), Q.qf (8 * x + 2) = nI a ∧ Wth (QRYp O) Q V lo hi x a g ∧ m = onlO g) ∨ (Q.qf (8 * x + 0) = 46 ∧ ∃ (a : Nat) (g : OT), Q.qf (8 * x + 2) = nI a ∧ Wth C Q V lo hi x a g ∧ m = lenO g) ∨ (Q.qf (8 * x + 0) = 47 ∧ ∃ (a : Nat) (g : QT), Q.qf (8 * x + 2) = nI a ∧ Wth Y Q V lo hi x a g ∧ m = cntO g) ∨ (Q.qf (8 * x + 0) = 48 ∧ ∃ (a : Nat) (g : QT), Q.qf (8 * x + 2) = nI a ∧ Wth Y Q V lo hi x a g ∧ m = onlO g))
theorem CMPf_in {O : QP CT} {C : QP OT} {Y : QP QT} : Inn (CMPf O C Y) := by sorry
theorem CMPf_fr {O : QP CT} {C : QP OT} {Y : QP QT} (hO : Frm 8 O) (hC : Frm 8 C) (hY : Frm 8 Y) : Frm 8 (CMPf O C Y) := by sorry
/-- is there such a node? -/
def TSTp (O : QP CT) : QP CT := fun Q V lo hi x m => lo ≤ x ∧ x < hi ∧ Q.qf (8 * x + 0) = 34 ∧ ∃ (a : Nat) (g : QT), Q.qf (8 * x + 2) = nI a ∧ Wth (QRYp O) Q V lo hi x a g ∧ m = tstC g
theorem TSTp_fr {O : QP CT} (hO : Frm 8 O) : Frm 8 (TSTp O) := by sorry
/-- a simple condition -/
def BASf (O : QP CT) (C : QP OT) (Y : QP QT) : QP CT := fun Q V lo hi x m => lo ≤ x ∧ x < hi ∧ ((Q.qf (8 * x + 0) = 33 ∧ ∃ (a b op : Nat) (y z : OT), Q.qf (8 * x + 2) = nI a ∧ Q.qf (8 * x + 3) = nI b ∧ Q.qf (8 * x + 4) = nI op ∧ op ≤ 5 ∧ Wth (CMPf O C Y) Q V lo hi x a y ∧ Wth (CMPf O C Y) Q V lo hi x b z ∧ m = cmpC op y z) ∨ (Q.qf (8 * x + 0) = 32 ∧ ∃ (a : Nat) (g : CT), Q.qf (8 * x + 2) = nI a ∧ (Wth O Q V lo hi x a g ∨ Wth (TSTp O) Q V lo hi x a g) ∧ m = notC g) ∨ (Q.qf (8 * x + 0) = 35 ∧ ∃ (a : Nat) (g : CT), Q.qf (8 * x + 2) = nI a ∧ (Wth O Q V lo hi x a g ∨ Wth (TSTp O) Q V lo hi x a g) ∧ m = g))
theorem BASf_in {O : QP CT} {C : QP OT} {Y : QP QT} : Inn (BASf O C Y) := by sorry
theorem BASf_fr {O : QP CT} {C : QP OT} {Y : QP QT} (hO : Frm 8 O) (hC : Frm 8 C) (hY : Frm 8 Y) : Frm 1 (BASf O C Y) := by sorry
def ANDf (O : QP CT) (C : QP OT) (Y : QP QT) : QP CT := fun Q V lo hi x m => lo ≤ x ∧ x < hi ∧ Q.qf (8 * x + 0) = 31 ∧ ∃ l : List CT, CHn 1 (BASf O C Y) Q V hi (-1) l (x + 1) (Q.qf (8 * x + 2)) ∧ m = allC l
theorem ANDf_in {O : QP CT} {C : QP OT} {Y : QP QT} : Inn (ANDf O C Y) := by sorry
theorem ANDf_fr {O : QP CT} {C : QP OT} {Y : QP QT} (hO : Frm 8 O) (hC : Frm 8 C) (hY : Frm 8 Y) : Frm 1 (ANDf O C Y) := by sorry
def ORf (O : QP CT) (C : QP OT) (Y : QP QT) : QP CT := fun Q V lo hi x m => lo ≤ x ∧ x < hi ∧ Q.qf (8 * x + 0) = 30 ∧ ∃ l : List CT, CHn 1 (ANDf O C Y) Q V hi (-1) l (x + 1) (Q.qf (8 * x + 2)) ∧ m = anyC_ l
theorem ORf_fr {O : QP CT} {C : QP OT} {Y : QP QT} (hO : Frm 8 O) (hC : Frm 8 C) (hY : Frm 8 Y) : Frm 8 (ORf O C Y) := by sorry
def noQ {M : Type} : QP M := fun _ _ _ _ _ _ => False
theorem noQ_fr {M : Type} : Frm 8 (noQ (M := M)) := by sorry
/-- conditions, what may be compared, and queries, with at most d brackets one in another -/
def DDp : Nat → QP CT × QP OT × QP QT
  | 0 => (ORf noQ noQ noQ, CMPf noQ noQ noQ, QRYp noQ)
  | d + 1 => (ORf (DDp d).1 (DDp d).2.1 (DDp d).2.2, CMPf (DDp d).1 (DDp d).2.1 (DDp d).2.2, QRYp (DDp d).1)
theorem DDp_fr : ∀ d, Frm 8 (DDp d).1 ∧ Frm 8 (DDp d).2.1 ∧ Frm 8 (DDp d).2.2 := by sorry
section
variable (f : Nat → Int32) (n : Nat)
/-- behind a name's letters and digits -/
def nmE : Nat → Nat → Nat
  | 0, j => j
  | k + 1, j => if letH (hereV f n j) ∨ digH (hereV f n j) then nmE k (j + 1) else j
/-- the units of a name, from i to j -/
def nmT_ (i j : Nat) : List Int32 := (List.range (j - i)).map (fun k => hereV f n (i + k))
abbrev numC (x : Int32) : Prop := x = 45 ∨ digH x
/-- a slice behind its end: its step -/
def slT (b : Option Int64) (j2 : Nat) : Option (Nat × Option Int64 × Int64) := if ¬ hereV f n (skipH f n j2) = 58 then some (j2, b, 1) else if numC (hereV f n (skipH f n (skipH f n j2 + 1))) then (whM f n (skipH f n (skipH f n j2 + 1))).map (fun p => (p.2, b, p.1)) else some (skipH f n j2 + 1, b, 1)
/-- a slice, from its first colon on: where it ends, its end, its step -/
def slP (j : Nat) : Option (Nat × Option Int64 × Int64) := if numC (hereV f n (skipH f n (j + 1))) then (whM f n (skipH f n (j + 1))).bind (fun p => slT f n (some p.1) p.2) else slT f n none (skipH f n (j + 1))
/-- a selector: where it ends, whether a query with it alone has one node at most, what it means; orL: a filter's condition -/
def selP (orL : Nat → Option (Nat × CT)) (sg : Bool) (i : Nat) : Option (Nat × Bool × QT) :=
  if hereV f n i = 39 ∨ hereV f n i = 34 then (qtQ f n (hereV f n i) i).map (fun p => (p.2, true, namS p.1))
  else if hereV f n i = 42 ∧ sg = false then some (i + 1, false, eachS)
  else if hereV f n i = 63 ∧ sg = false then (orL (skipH f n (i + 1))).map (fun j => (j.1, false, filS j.2))
  else if ¬ hereV f n i = 45 ∧ ¬ digH (hereV f n i) ∧ (¬ hereV f n i = 58 ∨ sg = true) then none
  else if hereV f n i = 58 then (slP f n i).map (fun j => (j.1, false, slcS none j.2.1 j.2.2))
  else match whM f n i with
    | none => none
    | some p => if ¬ hereV f n (skipH f n p.2) = 58 ∨ sg = true then some (p.2, true, idxS p.1) else (slP f n (skipH f n p.2)).map (fun j => (j.1, false, slcS (some p.1) j.2.1 j.2.2))
def slsL (orL : Nat → Option (Nat × CT)) (sg : Bool) : Nat → Nat → Bool → Bool → List QT → Option (Nat × Bool × List QT)
  | 0, _, _, _, _ => none
  | k + 1, j, fst, fl, ac => match selP f n orL sg (skipH f n j) with
    | none => none
    | some p => if hereV f n (skipH f n p.1) = 93 then some (skipH f n p.1 + 1, fl && (fst && p.2.1), ac ++ [p.2.2]) else if sg = true ∨ ¬ hereV f n (skipH f n p.1) = 44 then none else slsL orL sg k (skipH f n p.1 + 1) false (fl && (fst && p.2.1)) (ac ++ [p.2.2])
/-- selectors in brackets; ok: one more bracket may be opened -/
def slsP (ok : Bool) (orL : Nat → Option (Nat × CT)) (sg : Bool) (i : Nat) : Option (Nat × Bool × List QT) := if hereV f n i = 91 ∧ ok = true then slsL f n orL sg (n + 1) (i + 1) true true [] else none
def sgN (sg : Bool) (j : Nat) (fl ds : Bool) : Option (Nat × Bool × QT) := if hereV f n j = 42 ∧ sg = false then some (j + 1, false, segS ds [eachS]) else if ¬ letH (hereV f n j) then none else some (nmE f n (n + 1) j, fl, segS ds [namS (nmT_ f n j (nmE f n (n + 1) j))])
def sgP (ok : Bool) (orL : Nat → Option (Nat × CT)) (sg : Bool) (i : Nat) : Option (Nat × Bool × QT) :=
  if hereV f n i = 46 then (if hereV f n (i + 1) = 46 ∧ sg = false then (if hereV f n (i + 2) = 91 then (slsP f n ok orL sg (i + 2)).map (fun p => (p.1, false, segS true p.2.2)) else sgN f n sg (i + 2) false true) else sgN f n sg (i + 1) true false)
  else (slsP f n ok orL sg i).map (fun p => (p.1, p.2.1, segS false p.2.2))
def qrL (ok : Bool) (orL : Nat → Option (Nat × CT)) (sg : Bool) : Nat → Nat → Bool → List QT → Option (Nat × Bool × List QT)
  | 0, _, _, _ => none
  | k + 1, i, fl, ac => if ¬ hereV f n (skipH f n i) = 46 ∧ ¬ hereV f n (skipH f n i) = 91 then some (i, fl, ac) else match sgP f n ok orL sg (skipH f n i) with
    | none => none
    | some p => qrL ok orL sg k p.1 (fl && p.2.1) (ac ++ [p.2.2])
/-- the segments of a query -/
def qrP (ok : Bool) (orL : Nat → Option (Nat × CT)) (sg rt : Bool) (i : Nat) : Option (Nat × Bool × QT) := (qrL f n ok orL sg (n + 1) i true []).map (fun p => (p.1, p.2.1, qryS rt p.2.2))
abbrev begC (x : Int32) : Prop := x = 64 ∨ x = 36
/-- the name of a function, and where it ends -/
def fnP (i : Nat) : Option Nat := if hereV f n i = 108 then (if mtB f n i (mtx 11) 6 = true then some (i + 6) else none) else if hereV f n i = 99 then (if mtB f n i (mtx 12) 5 = true then some (i + 5) else none) else if hereV f n i = 118 then (if mtB f n i (mtx 13) 5 = true then some (i + 5) else none) else none
/-- what stands in a function's brackets, and what the function makes of it -/
def fnA (cmL : Nat → Option (Nat × OT)) (qyL : Bool → Nat → Option (Nat × Bool × QT)) (i j : Nat) : Option (Nat × OT) := if hereV f n i = 108 then (cmL j).map (fun p => (p.1, lenO p.2)) else if begC (hereV f n j) then (qyL (decide (hereV f n j = 36)) (j + 1)).map (fun p => (p.1, if hereV f n i = 99 then cntO p.2.2 else onlO p.2.2)) else none
/-- a function, behind its name -/
def fnT (ok : Bool) (cmL : Nat → Option (Nat × OT)) (qyL : Bool → Nat → Option (Nat × Bool × QT)) (i j : Nat) : Option (Nat × OT) := if ¬ (hereV f n j = 40 ∧ ok = true) then none else match fnA f n cmL qyL i (skipH f n (j + 1)) with
      | none => none
      | some j2 => if hereV f n (skipH f n j2.1) = 41 then some (skipH f n j2.1 + 1, j2.2) else none
/-- what may be compared -/
def cmP (ok : Bool) (orL : Nat → Option (Nat × CT)) (cmL : Nat → Option (Nat × OT)) (qyL : Bool → Nat → Option (Nat × Bool × QT)) (i : Nat) : Option (Nat × OT) :=
  if numC (hereV f n i) then (whM f n i).map (fun p => (p.2, litO (3, p.1, [])))
  else if hereV f n i = 39 ∨ hereV f n i = 34 then (qtQ f n (hereV f n i) i).map (fun p => (p.2, litO (4, 0, p.1)))
  else if begC (hereV f n i) then (qrP f n ok orL true (decide (hereV f n i = 36)) (i + 1)).map (fun p => (p.1, onlO p.2.2))
  else if hereV f n i = 116 then (if mtB f n i (mtx 2) 4 = true then some (i + 4, litO (1, 0, [])) else none)
  else if hereV f n i = 102 then (if mtB f n i (mtx 3) 5 = true then some (i + 5, litO (2, 0, [])) else none)
  else if hereV f n i = 110 then (if mtB f n i (mtx 1) 4 = true then some (i + 4, litO (0, 0, [])) else none)
  else match fnP f n i with
    | none => none
    | some j => fnT f n ok cmL qyL i j
/-- a sign of comparison: where it ends, which -/
def opP (j : Nat) : Option (Nat × Nat) := if hereV f n j = 61 then (if mtB f n j (mtx 9) 2 = true then some (j + 2, 0) else none) else if hereV f n j = 33 then (if mtB f n j (mtx 10) 2 = true then some (j + 2, 1) else none) else if hereV f n j = 60 ∨ hereV f n j = 62 then (if hereV f n (j + 1) = 61 then some (j + 2, if hereV f n j = 60 then 3 else 5) else some (j + 1, if hereV f n j = 60 then 2 else 4)) else none
/-- a sign of comparison and what stands behind it -/
def cpP (cm : Nat → Option (Nat × OT)) (x : OT) (j : Nat) : Option (Nat × CT) :=
  match opP f n j with
  | none => none
  | some j2 => (cm (skipH f n j2.1)).map (fun p => (p.1, cmpC j2.2 x p.2))
/-- a simple condition behind its sign of denial -/
def baB (ok : Bool) (orL : Nat → Option (Nat × CT)) (cmL : Nat → Option (Nat × OT)) (qyL : Bool → Nat → Option (Nat × Bool × QT)) (nt : Bool) (i1 : Nat) : Option (Nat × CT) :=
  if hereV f n i1 = 40 then
    (if ok = false then none else match orL (skipH f n (i1 + 1)) with
      | none => none
      | some j => if hereV f n (skipH f n j.1) = 41 then some (skipH f n j.1 + 1, if nt = true then notC j.2 else j.2) else none)
  else if begC (hereV f n i1) then
    (match qrP f n ok orL false (decide (hereV f n i1 = 36)) (i1 + 1) with
      | none => none
      | some p => if nt = false ∧ opH (hereV f n (skipH f n p.1)) then (if p.2.1 = false then none else cpP f n (cmP f n ok orL cmL qyL) (onlO p.2.2) (skipH f n p.1)) else some (p.1, if nt = true then notC (tstC p.2.2) else tstC p.2.2))
  else if nt = true then none
  else match cmP f n ok orL cmL qyL i1 with
    | none => none
    | some j => cpP f n (cmP f n ok orL cmL qyL) j.2 (skipH f n j.1)
/-- a simple condition -/
def baP (ok : Bool) (orL : Nat → Option (Nat × CT)) (cmL : Nat → Option (Nat × OT)) (qyL : Bool → Nat → Option (Nat × Bool × QT)) (i : Nat) : Option (Nat × CT) := baB f n ok orL cmL qyL (decide (hereV f n i = 33)) (if hereV f n i = 33 then skipH f n (i + 1) else i)
/-- ones of the same kind with a sign between: the sign is c twice, the text tx -/
def liP (one : Nat → Option (Nat × CT)) (c : Int32) (tx : Nat) : Nat → Nat → List CT → Option (Nat × List CT)
  | 0, _, _ => none
  | k + 1, i, ac => match one i with
    | none => none
    | some j => if ¬ hereV f n (skipH f n j.1) = c then some (j.1, ac ++ [j.2]) else if mtB f n (skipH f n j.1) (mtx tx) 2 = true then liP one c tx k (skipH f n (skipH f n j.1 + 2)) (ac ++ [j.2]) else none
def anP (ok : Bool) (orL : Nat → Option (Nat × CT)) (cmL : Nat → Option (Nat × OT)) (qyL : Bool → Nat → Option (Nat × Bool × QT)) (i : Nat) : Option (Nat × CT) := (liP f n (baP f n ok orL cmL qyL) 38 8 (n + 1) i []).map (fun p => (p.1, allC p.2))
def orP (ok : Bool) (orL : Nat → Option (Nat × CT)) (cmL : Nat → Option (Nat × OT)) (qyL : Bool → Nat → Option (Nat × Bool × QT)) (i : Nat) : Option (Nat × CT) := (liP f n (anP f n ok orL cmL qyL) 124 7 (n + 1) i []).map (fun p => (p.1, anyC_ p.2))
/-- conditions, what may be compared, and queries, where d brackets may still be opened -/
def DDf : Nat → (Nat → Option (Nat × CT)) × (Nat → Option (Nat × OT)) × (Bool → Nat → Option (Nat × Bool × QT))
  | 0 => (orP f n false (fun _ => none) (fun _ => none) (fun _ _ => none), cmP f n false (fun _ => none) (fun _ => none) (fun _ _ => none), qrP f n false (fun _ => none) false)
  | d + 1 => (orP f n true (DDf d).1 (DDf d).2.1 (DDf d).2.2, cmP f n true (DDf d).1 (DDf d).2.1 (DDf d).2.2, qrP f n true (DDf d).1 false)
/-- a whole query: is it singular, and what it means -/
def pQ : Option (Bool × QT) := if hereV f n 0 = 36 then (match (DDf f n 16).2.2 true 1 with
  | none => none
  | some p => if p.1 < n then none else some p.2) else none
end
end
section
def kcap (Q : QS) (B : Nat) : Nat := max Q.C (2 * B) - Q.C
def GQ (BN BU : Nat) (Q : QS) (V : TS) (Q2 : QS) (V2 : TS) : Prop := Q.C ≤ Q2.C ∧ Q2.C ≤ max Q.C (2 * BN) ∧ V.U ≤ V2.U ∧ V2.U ≤ max V.U (2 * BU)
def cQ (Q : QS) (V : TS) (Q2 : QS) (V2 : TS) : Nat := Q2.C - Q.C + (V2.U - V.U)
def sQ (Q : QS) (V : TS) (Q2 : QS) (V2 : TS) : Nat := 22 * (Q2.C - Q.C) + 2 * (V2.U - V.U)
theorem GQ.rf {BN BU : Nat} {Q : QS} {V : TS} : GQ BN BU Q V Q V := by sorry
theorem cQ_rf {Q : QS} {V : TS} : cQ Q V Q V = 0 ∧ sQ Q V Q V = 0 := by sorry
theorem GQ.fits {BN BU : Nat} {Q Q2 : QS} {V V2 : TS} (h : GQ BN BU Q V Q2 V2) : cQ Q V Q2 V2 ≤ kcap Q BN + qcap V BU ∧ sQ Q V Q2 V2 ≤ 22 * kcap Q BN + 2 * qcap V BU := by sorry
theorem GQ.step {BN BU B2 C2 : Nat} {Q Q2 : QS} {V V2 : TS} (h : GQ BN BU Q V Q2 V2) (hB : B2 ≤ BN) (hC : C2 ≤ BU) : cQ Q V Q2 V2 + (kcap Q2 B2 + qcap V2 C2) ≤ kcap Q BN + qcap V BU ∧ sQ Q V Q2 V2 + (22 * kcap Q2 B2 + 2 * qcap V2 C2) ≤ 22 * kcap Q BN + 2 * qcap V BU := by sorry
theorem GQ.stepQ {BN BU C2 : Nat} {Q Q2 : QS} {V V2 : TS} (h : GQ BN BU Q V Q2 V2) (hC : C2 ≤ BU) : cQ Q V Q2 V2 + qcap V2 C2 ≤ kcap Q BN + qcap V BU ∧ sQ Q V Q2 V2 + 2 * qcap V2 C2 ≤ 22 * kcap Q BN + 2 * qcap V BU := by sorry
theorem GQ.tr {BN BU B2 C2 : Nat} {Q Q2 Q3 : QS} {V V2 V3 : TS} (h : GQ BN BU Q V Q2 V2) (g : GQ B2 C2 Q2 V2 Q3 V3) (hB : B2 ≤ BN) (hC : C2 ≤ BU) : GQ BN BU Q V Q3 V3 ∧ cQ Q V Q2 V2 + cQ Q2 V2 Q3 V3 ≤ cQ Q V Q3 V3 ∧ sQ Q V Q2 V2 + sQ Q2 V2 Q3 V3 ≤ sQ Q V Q3 V3 := by sorry
theorem TX.gq {V V2 : TS} {us : List Int32} (h : TX V V2 us) (Q : QS) : GQ 0 (V.us + us.length) Q V Q V2 ∧ V2.U - V.U = cQ Q V Q V2 ∧ 2 * (V2.U - V.U) = sQ Q V Q V2 := by sorry
theorem QAd.gq {Q Q2 : QS} {k : Int32} (h : QAd Q Q2 k) (hQ : QOK Q) (hc : Q.R ≤ 50000 - 1) (V : TS) : QOK Q2 ∧ GQ (Q.R + 1) 0 Q V Q2 V ∧ rwC Q ≤ cQ Q V Q2 V ∧ rwS Q ≤ sQ Q V Q2 V ∧ Q2.R = Q.R + 1 := by sorry
theorem QAd.fit {BN BU : Nat} {Q Q1 : QS} {V V1 : TS} (h : GQ BN BU Q V Q1 V1) (hQ : QOK Q1) (hB : Q1.R + 1 ≤ BN) : cQ Q V Q1 V1 + rwC Q1 ≤ kcap Q BN + qcap V BU ∧ sQ Q V Q1 V1 + rwS Q1 ≤ 22 * kcap Q BN + 2 * qcap V BU := by sorry
/-- how far the rows and the units may have grown -/
def QPo (n i k : Nat) (Q : QS) (V : TS) (u : QS × TS × Nat × Int32 × Nat) : Prop := QOK u.1 ∧ GQ (Q.R + 8 * (n - i) + k) (V.us + (n + 12 - i)) Q V u.1 u.2.1 ∧ (∃ us, TX V u.2.1 us ∧ us.length ≤ n + 12 - i) ∧ Q.R ≤ u.1.R ∧ u.1.R ≤ Q.R + 8 * (n - i) + k
def ORo (orL : Nat → Option (Nat × CT)) (O : QP CT) (n i k d o : Nat) (Q : QS) (V : TS) (res : Int32) (u : QS × TS × Nat × Int32 × Nat) : Prop := QPo n i k Q V u ∧ ((∃ m, res = nI Q.R ∧ orL i = some (u.2.2.1, m) ∧ O u.1 u.2.1 Q.R u.1.R Q.R m ∧ alr Q V u.1 u.2.1 0 Q.R ∧ u.1.R + 8 * i + d ≤ Q.R + 8 * u.2.2.1 ∧ u.2.1.us + i ≤ V.us + u.2.2.1 ∧ u.2.2.1 ≤ n ∧ Q.R < u.1.R ∧ u.2.2.2.2 = o) ∨ (res = -1 ∧ orL i = none))
def SELo (f : Nat → Int32) (orL : Nat → Option (Nat × CT)) (O : QP CT) (sg : Bool) (n i o : Nat) (Q : QS) (V : TS) (res : Int32) (u : QS × TS × Nat × Int32 × Nat) : Prop := QPo n i 4 Q V u ∧ ((∃ fl m, res = nI Q.R ∧ selP f n orL sg i = some (u.2.2.1, fl, m) ∧ SELp O u.1 u.2.1 Q.R u.1.R Q.R m ∧ (fl = true ↔ (u.1.qf (8 * Q.R + 0) = 1 ∨ u.1.qf (8 * Q.R + 0) = 3)) ∧ u.1.qf (8 * Q.R + 1) = -1 ∧ alr Q V u.1 u.2.1 0 Q.R ∧ u.1.R + 8 * i + 7 ≤ Q.R + 8 * u.2.2.1 ∧ u.2.1.us + i ≤ V.us + u.2.2.1 ∧ u.2.2.1 ≤ n ∧ Q.R < u.1.R ∧ u.2.2.2.2 = o) ∨ (res = -1 ∧ selP f n orL sg i = none))
theorem TXs.tr {V V2 V3 : TS} {a b c : Nat} (h1 : ∃ us, TX V V2 us ∧ us.length ≤ a) (h2 : ∃ us, TX V2 V3 us ∧ us.length ≤ b) (h : a + b ≤ c) : ∃ us, TX V V3 us ∧ us.length ≤ c := by sorry
abbrev b_Mo_or : ByteArray := prog_14_method_44_code
def y_Mo_or : MethodName := ⟨"QueryBenchModel", "or", "()I"⟩
abbrev k_Mo_or : Cond := .code y_Mo_or b_Mo_or 5 (some .int)
theorem i_Mo_or : k_Mo_or ∈ gtbl := by sorry
/-- what or does: F frames, L locals -/
def ORC (orL : (Nat → Int32) → Nat → Nat → Option (Nat × CT)) (O : QP CT) (o F L : Nat) : Prop := ∀ (l : Launch) (dC : Nat → ClassId) (dI : Nat → Nat → Nat) (mo : Nat) (sz : Heap) (v : Nat → Value) (cB cI cL cC : ClassId) (qx NN : Nat) (f : Nat → Int32) (n : Nat) (K : Nat → Nat × Nat) (tv : Nat) (Q : QS) (V : TS) (i : Nat) (br : Int32), n ≤ NN → NN ≤ 4096 → i ≤ n → v 6 = .ref qx → v 8 = .int (nI n) → v 22 = .ref tv → QOK Q → TOK V → V.us + (n + 12 - i) ≤ 400000 → Q.R + 8 * (n - i) + 3 ≤ 40000 → Met l y_Mo_or (k_Mo_or :: gtbl) ({ frames := F, cells := kcap Q (Q.R + 8 * (n - i) + 3) + qcap V (V.us + (n + 12 - i)), slots := 22 * kcap Q (Q.R + 8 * (n - i) + 3) + 2 * qcap V (V.us + (n + 12 - i)), locals := L }) (va_Pc [.ref mo] (me K dC dI [(mo, .inr (13, MF 30 (rf (rs v Q o) i br))), (qx, .inl (cB, NN, .inl f)), (Q.qq, .inl (cI, (8 * Q.C), .inl Q.qf)), (Q.qe, .inl (cL, (3 * Q.C), .inr (.inl Q.ef))), (tv, .inr (12, MF 13 (tw V))), (V.au, .inl (cC, V.U, .inl V.un))] [(cB, .byte), (cI, .int), (cL, .long), (cC, .char)] sz)) (va_Qi (fun (res : Int32) (u : QS × TS × Nat × Int32 × Nat) => ORo (orL f n) O n i 3 3 o Q V res u) (fun u t9 => mz dC dI [(mo, .inr (13, MF 30 (rf (rs v u.1 u.2.2.2.2) u.2.2.1 u.2.2.2.1))), (qx, .inl (cB, NN, .inl f)), (u.1.qq, .inl (cI, (8 * u.1.C), .inl u.1.qf)), (u.1.qe, .inl (cL, (3 * u.1.C), .inr (.inl u.1.ef))), (tv, .inr (12, MF 13 (tw u.2.1))), (u.2.1.au, .inl (cC, u.2.1.U, .inl u.2.1.un))] [(cB, .byte), (cI, .int), (cL, .long), (cC, .char)] (va_A [(mo, .inr (13, MF 30 (rf (rs v Q o) i br))), (qx, .inl (cB, NN, .inl f)), (Q.qq, .inl (cI, (8 * Q.C), .inl Q.qf)), (Q.qe, .inl (cL, (3 * Q.C), .inr (.inl Q.ef))), (tv, .inr (12, MF 13 (tw V))), (V.au, .inl (cC, V.U, .inl V.un))] sz.size) t9 ∧ szk sz t9.heap (cQ Q V u.1 u.2.1) (sQ Q V u.1 u.2.1)) (va_A [(mo, .inr (13, MF 30 (rf (rs v Q o) i br))), (qx, .inl (cB, NN, .inl f)), (Q.qq, .inl (cI, (8 * Q.C), .inl Q.qf)), (Q.qe, .inl (cL, (3 * Q.C), .inr (.inl Q.ef))), (tv, .inr (12, MF 13 (tw V))), (V.au, .inl (cC, V.U, .inl V.un))] sz.size)) (kcap Q (Q.R + 8 * (n - i) + 3) + qcap V (V.us + (n + 12 - i))) (22 * kcap Q (Q.R + 8 * (n - i) + 3) + 2 * qcap V (V.us + (n + 12 - i))) (va_A [(mo, .inr (13, MF 30 (rf (rs v Q o) i br))), (qx, .inl (cB, NN, .inl f)), (Q.qq, .inl (cI, (8 * Q.C), .inl Q.qf)), (Q.qe, .inl (cL, (3 * Q.C), .inr (.inl Q.ef))), (tv, .inr (12, MF 13 (tw V))), (V.au, .inl (cC, V.U, .inl V.un))] sz.size)
end
section
theorem w_1111 : (.fieldLink "QueryBenchModel" 56 "QueryBenchModel" "said" "LQueryBenchModel$Tree;" : Cond) ∈ gtbl := by sorry
theorem w_1407 : (.methodLink "QueryBenchModel" 269 ⟨"QueryBenchModel", "row", "(I)I"⟩ : Cond) ∈ gtbl := by sorry
theorem w_1409 : (.instanceMethod ⟨"QueryBenchModel", "row", "(I)I"⟩ : Cond) ∈ gtbl := by sorry
theorem w_1435 : (.methodLink "QueryBenchModel" 300 ⟨"QueryBenchModel", "or", "()I"⟩ : Cond) ∈ gtbl := by sorry
theorem w_1437 : (.instanceMethod ⟨"QueryBenchModel", "or", "()I"⟩ : Cond) ∈ gtbl := by sorry
theorem w_1465 : (.methodLink "QueryBenchModel" 303 ⟨"QueryBenchModel", "whole", "(II)Z"⟩ : Cond) ∈ gtbl := by sorry
theorem w_1467 : (.instanceMethod ⟨"QueryBenchModel", "whole", "(II)Z"⟩ : Cond) ∈ gtbl := by sorry
theorem dgN_nat {f : Nat → Int32} {n i : Nat} : ∃ B, (dgN f n i).1 = Int64.ofNat B ∧ B < 10 ^ 17 := by sorry
theorem whB_gL {f : Nat → Int32} {n i : Nat} {mi : Bool} {p : Int64 × Nat} (h : whB f n i mi = some p) : gL p.1 := by sorry
theorem whM_gL {f : Nat → Int32} {n i j : Nat} {x : Int64} (h : whM f n i = some (x, j)) : gL x := by sorry
theorem QOK_upd {g : Nat → Int64} (h : ∀ j, gL (g j)) {k : Nat} {x : Int64} (hx : gL x) : ∀ j, gL (vp_updL g k x j) := by sorry
/-- ways that meet: the rest is shown once -/
theorem w_join {p : Program} {l : Launch} {e : Env} {R : Room} {s : State} {m : MethodId} {args : Array Value} {below : List Frame} {meth : Method} {c : Code} {Q : State → Prop} {cells slots nL : Nat} {A : Nat → Prop} {H0 Hh : Heap} {lh : List Loc} {D : va_G} {cl : List vw_C} {g : JFrame} (pc : Nat) {σ : Type} (Inv : σ → Prop) (k n : σ → Nat) (ws : σ → va_W) (lv : σ → List (Nat × Value))
    (main : (∀ (y : σ) (H : Heap) (locs : List Loc) (ls : Array Slot), Inv y → va_P D cl (ws y) H → va_D A (ws y) → va_S A H0 H locs → lv_has ls nL (lv y) → W p l e R s m args below meth c H locs (k y) (n y) Q (F0 m pc ls [])) → W p l e R s m args below meth c Hh lh cells slots Q g)
    (rest : ∀ (y : σ) (H : Heap) (locs : List Loc) (ls : Array Slot), Inv y → va_P D cl (ws y) H → va_D A (ws y) → va_S A H0 H locs → lv_has ls nL (lv y) → W p l e R s m args below meth c H locs (k y) (n y) Q (F0 m pc ls [])) : W p l e R s m args below meth c Hh lh cells slots Q g := by sorry
theorem slP_n {f : Nat → Int32} {n j : Nat} (h : ¬ numC (hereV f n (skipH f n (j + 1)))) : slP f n j = slT f n none (skipH f n (j + 1)) := by sorry
theorem slP_y {f : Nat → Int32} {n j j2 : Nat} {x : Int64} (h : numC (hereV f n (skipH f n (j + 1)))) (hw : whM f n (skipH f n (j + 1)) = some (x, j2)) : slP f n j = slT f n (some x) j2 := by sorry
theorem slP_f {f : Nat → Int32} {n j : Nat} (h : numC (hereV f n (skipH f n (j + 1)))) (hw : whM f n (skipH f n (j + 1)) = none) : slP f n j = none := by sorry
def selT (f : Nat → Int32) (n : Nat) (sg : Bool) (i : Nat) : Option (Nat × Bool × QT) := if hereV f n i = 58 then (slP f n i).map (fun j => (j.1, false, slcS none j.2.1 j.2.2)) else match whM f n i with
    | none => none
    | some p => if ¬ hereV f n (skipH f n p.2) = 58 ∨ sg = true then some (p.2, true, idxS p.1) else (slP f n (skipH f n p.2)).map (fun j => (j.1, false, slcS (some p.1) j.2.1 j.2.2))
/-- what row r says of a slice: its begin, its end -/
def slA (Q : QS) (r : Nat) (a : Option Int64) : Prop := (Q.qf (8 * r + 2) = 0 ∨ Q.qf (8 * r + 2) = 1) ∧ a = (if Q.qf (8 * r + 2) &&& 1 = 0 then none else some (Q.ef (3 * r + 0)))
def slB (Q : QS) (r : Nat) (a b : Option Int64) : Prop := (Q.qf (8 * r + 2) = 0 ∨ Q.qf (8 * r + 2) = 1 ∨ Q.qf (8 * r + 2) = 2 ∨ Q.qf (8 * r + 2) = 3) ∧ a = (if Q.qf (8 * r + 2) &&& 1 = 0 then none else some (Q.ef (3 * r + 0))) ∧ b = (if Q.qf (8 * r + 2) &&& 2 = 0 then none else some (Q.ef (3 * r + 1)))
theorem slA.st {Q : QS} {r : Nat} (h : Q.qf (8 * r + 2) = 0) : slA Q r none := by sorry
theorem slA.v {Q Q2 : QS} {r : Nat} {v : Int64} (h : Q.qf (8 * r + 2) = 0) (hq : Q2.qf (8 * r + 2) = Q.qf (8 * r + 2) ||| 1 <<< (nI 0 &&& 31)) (hv : Q2.ef (3 * r + 0) = v) : slA Q2 r (some v) := by sorry
theorem slA.set {Q Q2 : QS} {r : Nat} {a : Option Int64} {y : Int32} (h : slA Q r a) (hu : Q2.qf = upd Q.qf (8 * r + 0) y) (he : Q2.ef = Q.ef) : slA Q2 r a := by sorry
theorem slA.b0 {Q : QS} {r : Nat} {a : Option Int64} (h : slA Q r a) : slB Q r a none := by sorry
theorem slA.b1 {Q Q2 : QS} {r : Nat} {a : Option Int64} {v : Int64} (h : slA Q r a) (hq : Q2.qf (8 * r + 2) = Q.qf (8 * r + 2) ||| 1 <<< (nI 1 &&& 31)) (h0 : Q2.ef (3 * r + 0) = Q.ef (3 * r + 0)) (hv : Q2.ef (3 * r + 1) = v) : slB Q2 r a (some v) := by sorry
theorem slB.c0 {Q : QS} {r : Nat} {a b : Option Int64} (h : slB Q r a b) : slcS a b 1 = slq (Q.qf (8 * r + 2)) (Q.ef (3 * r + 0)) (Q.ef (3 * r + 1)) (Q.ef (3 * r + 2)) := by sorry
theorem slB.c1 {Q Q2 : QS} {r : Nat} {a b : Option Int64} {v : Int64} (h : slB Q r a b) (hq : Q2.qf (8 * r + 2) = Q.qf (8 * r + 2) ||| 1 <<< (nI 2 &&& 31)) (h0 : Q2.ef (3 * r + 0) = Q.ef (3 * r + 0)) (h9 : Q2.ef (3 * r + 1) = Q.ef (3 * r + 1)) (hv : Q2.ef (3 * r + 2) = v) : slcS a b v = slq (Q2.qf (8 * r + 2)) (Q2.ef (3 * r + 0)) (Q2.ef (3 * r + 1)) (Q2.ef (3 * r + 2)) := by sorry
theorem TX.alr {V V2 : TS} {us : List Int32} (h : TX V V2 us) {Q : QS} {lo hi : Nat} : alr Q V Q V2 lo hi := by sorry
/-- a number is put into row s -/
theorem alr_who {Q Q2 : QS} {V : TS} {lo hi s wh : Nat} {y : Int32} {v : Int64} (h1 : Q2.qf = upd Q.qf (8 * s + 2) y) (h2 : Q2.ef = vp_updL Q.ef (3 * s + wh) v) (hw : wh < 3) (h : ¬ (lo ≤ s ∧ s < hi)) : alr Q V Q2 V lo hi := by sorry
theorem updL_s {g : Nat → Int64} {k : Nat} {v : Int64} : vp_updL g k v k = v := by sorry
theorem updL_n {g : Nat → Int64} {k j : Nat} {v : Int64} (h : ¬ j = k) : vp_updL g k v j = g j := by sorry
abbrev b_Mo_selector : ByteArray := prog_14_method_42_code
def y_Mo_selector : MethodName := ⟨"QueryBenchModel", "selector", "(Z)I"⟩
abbrev k_Mo_selector : Cond := .code y_Mo_selector b_Mo_selector 5 (some .int)
theorem i_Mo_selector : k_Mo_selector ∈ gtbl := by sorry
theorem d_Mo_selector_0 : decode b_Mo_selector 0 = .ok (.aload_n 0, 1) := by sorry
theorem d_Mo_selector_1 : decode b_Mo_selector 1 = .ok (.invokevirtual 147, 3) := by sorry
theorem d_Mo_selector_4 : decode b_Mo_selector 4 = .ok (.istore_n 2, 1) := by sorry
theorem d_Mo_selector_5 : decode b_Mo_selector 5 = .ok (.iload_n 2, 1) := by sorry
theorem d_Mo_selector_6 : decode b_Mo_selector 6 = .ok (.bipush 39, 2) := by sorry
theorem d_Mo_selector_8 : decode b_Mo_selector 8 = .ok (.if_icmp .eq 9, 3) := by sorry
theorem d_Mo_selector_11 : decode b_Mo_selector 11 = .ok (.iload_n 2, 1) := by sorry
theorem d_Mo_selector_12 : decode b_Mo_selector 12 = .ok (.bipush 34, 2) := by sorry
theorem d_Mo_selector_14 : decode b_Mo_selector 14 = .ok (.if_icmp .ne 58, 3) := by sorry
theorem d_Mo_selector_17 : decode b_Mo_selector 17 = .ok (.aload_n 0, 1) := by sorry
theorem d_Mo_selector_18 : decode b_Mo_selector 18 = .ok (.iconst 1, 1) := by sorry
theorem d_Mo_selector_19 : decode b_Mo_selector 19 = .ok (.invokevirtual 269, 3) := by sorry
theorem d_Mo_selector_22 : decode b_Mo_selector 22 = .ok (.istore_n 3, 1) := by sorry
theorem d_Mo_selector_23 : decode b_Mo_selector 23 = .ok (.aload_n 0, 1) := by sorry
theorem d_Mo_selector_24 : decode b_Mo_selector 24 = .ok (.iload_n 3, 1) := by sorry
theorem d_Mo_selector_25 : decode b_Mo_selector 25 = .ok (.iconst 2, 1) := by sorry
theorem d_Mo_selector_26 : decode b_Mo_selector 26 = .ok (.aload_n 0, 1) := by sorry
theorem d_Mo_selector_27 : decode b_Mo_selector 27 = .ok (.getfield 56, 3) := by sorry
theorem d_Mo_selector_30 : decode b_Mo_selector 30 = .ok (.getfield 204, 3) := by sorry
theorem d_Mo_selector_33 : decode b_Mo_selector 33 = .ok (.invokevirtual 272, 3) := by sorry
theorem d_Mo_selector_36 : decode b_Mo_selector 36 = .ok (.aload_n 0, 1) := by sorry
theorem d_Mo_selector_37 : decode b_Mo_selector 37 = .ok (.iload_n 2, 1) := by sorry
theorem d_Mo_selector_38 : decode b_Mo_selector 38 = .ok (.aload_n 0, 1) := by sorry
theorem d_Mo_selector_39 : decode b_Mo_selector 39 = .ok (.getfield 56, 3) := by sorry
theorem d_Mo_selector_42 : decode b_Mo_selector 42 = .ok (.invokevirtual 200, 3) := by sorry
theorem d_Mo_selector_45 : decode b_Mo_selector 45 = .ok (.ifCond .ne 5, 3) := by sorry
theorem d_Mo_selector_48 : decode b_Mo_selector 48 = .ok (.iconst (-1), 1) := by sorry
theorem d_Mo_selector_49 : decode b_Mo_selector 49 = .ok (.ireturn, 1) := by sorry
theorem d_Mo_selector_50 : decode b_Mo_selector 50 = .ok (.aload_n 0, 1) := by sorry
theorem d_Mo_selector_51 : decode b_Mo_selector 51 = .ok (.iload_n 3, 1) := by sorry
theorem d_Mo_selector_52 : decode b_Mo_selector 52 = .ok (.iconst 3, 1) := by sorry
theorem d_Mo_selector_53 : decode b_Mo_selector 53 = .ok (.aload_n 0, 1) := by sorry
theorem d_Mo_selector_54 : decode b_Mo_selector 54 = .ok (.getfield 56, 3) := by sorry
theorem d_Mo_selector_57 : decode b_Mo_selector 57 = .ok (.getfield 204, 3) := by sorry
theorem d_Mo_selector_60 : decode b_Mo_selector 60 = .ok (.aload_n 0, 1) := by sorry
theorem d_Mo_selector_61 : decode b_Mo_selector 61 = .ok (.iload_n 3, 1) := by sorry
theorem d_Mo_selector_62 : decode b_Mo_selector 62 = .ok (.iconst 2, 1) := by sorry
theorem d_Mo_selector_63 : decode b_Mo_selector 63 = .ok (.invokevirtual 286, 3) := by sorry
theorem d_Mo_selector_66 : decode b_Mo_selector 66 = .ok (.isub, 1) := by sorry
theorem d_Mo_selector_67 : decode b_Mo_selector 67 = .ok (.invokevirtual 272, 3) := by sorry
theorem d_Mo_selector_70 : decode b_Mo_selector 70 = .ok (.iload_n 3, 1) := by sorry
theorem d_Mo_selector_71 : decode b_Mo_selector 71 = .ok (.ireturn, 1) := by sorry
theorem d_Mo_selector_72 : decode b_Mo_selector 72 = .ok (.iload_n 2, 1) := by sorry
theorem d_Mo_selector_73 : decode b_Mo_selector 73 = .ok (.bipush 42, 2) := by sorry
theorem d_Mo_selector_75 : decode b_Mo_selector 75 = .ok (.if_icmp .ne 23, 3) := by sorry
theorem d_Mo_selector_78 : decode b_Mo_selector 78 = .ok (.iload_n 1, 1) := by sorry
theorem d_Mo_selector_79 : decode b_Mo_selector 79 = .ok (.ifCond .ne 19, 3) := by sorry
theorem d_Mo_selector_82 : decode b_Mo_selector 82 = .ok (.aload_n 0, 1) := by sorry
theorem d_Mo_selector_83 : decode b_Mo_selector 83 = .ok (.dup, 1) := by sorry
theorem d_Mo_selector_84 : decode b_Mo_selector 84 = .ok (.getfield 135, 3) := by sorry
theorem d_Mo_selector_87 : decode b_Mo_selector 87 = .ok (.iconst 1, 1) := by sorry
theorem d_Mo_selector_88 : decode b_Mo_selector 88 = .ok (.iadd, 1) := by sorry
theorem d_Mo_selector_89 : decode b_Mo_selector 89 = .ok (.putfield 135, 3) := by sorry
theorem d_Mo_selector_92 : decode b_Mo_selector 92 = .ok (.aload_n 0, 1) := by sorry
theorem d_Mo_selector_93 : decode b_Mo_selector 93 = .ok (.iconst 2, 1) := by sorry
theorem d_Mo_selector_94 : decode b_Mo_selector 94 = .ok (.invokevirtual 269, 3) := by sorry
theorem d_Mo_selector_97 : decode b_Mo_selector 97 = .ok (.ireturn, 1) := by sorry
theorem d_Mo_selector_98 : decode b_Mo_selector 98 = .ok (.iload_n 2, 1) := by sorry
theorem d_Mo_selector_99 : decode b_Mo_selector 99 = .ok (.bipush 63, 2) := by sorry
theorem d_Mo_selector_101 : decode b_Mo_selector 101 = .ok (.if_icmp .ne 50, 3) := by sorry
theorem d_Mo_selector_104 : decode b_Mo_selector 104 = .ok (.iload_n 1, 1) := by sorry
theorem d_Mo_selector_105 : decode b_Mo_selector 105 = .ok (.ifCond .ne 46, 3) := by sorry
theorem d_Mo_selector_108 : decode b_Mo_selector 108 = .ok (.aload_n 0, 1) := by sorry
theorem d_Mo_selector_109 : decode b_Mo_selector 109 = .ok (.dup, 1) := by sorry
theorem d_Mo_selector_110 : decode b_Mo_selector 110 = .ok (.getfield 135, 3) := by sorry
theorem d_Mo_selector_113 : decode b_Mo_selector 113 = .ok (.iconst 1, 1) := by sorry
theorem d_Mo_selector_114 : decode b_Mo_selector 114 = .ok (.iadd, 1) := by sorry
theorem d_Mo_selector_115 : decode b_Mo_selector 115 = .ok (.putfield 135, 3) := by sorry
theorem d_Mo_selector_118 : decode b_Mo_selector 118 = .ok (.aload_n 0, 1) := by sorry
theorem d_Mo_selector_119 : decode b_Mo_selector 119 = .ok (.iconst 5, 1) := by sorry
theorem d_Mo_selector_120 : decode b_Mo_selector 120 = .ok (.invokevirtual 269, 3) := by sorry
theorem d_Mo_selector_123 : decode b_Mo_selector 123 = .ok (.istore_n 3, 1) := by sorry
theorem d_Mo_selector_124 : decode b_Mo_selector 124 = .ok (.aload_n 0, 1) := by sorry
theorem d_Mo_selector_125 : decode b_Mo_selector 125 = .ok (.invokevirtual 184, 3) := by sorry
theorem d_Mo_selector_128 : decode b_Mo_selector 128 = .ok (.aload_n 0, 1) := by sorry
theorem d_Mo_selector_129 : decode b_Mo_selector 129 = .ok (.invokevirtual 300, 3) := by sorry
theorem d_Mo_selector_132 : decode b_Mo_selector 132 = .ok (.istore 4, 2) := by sorry
theorem d_Mo_selector_134 : decode b_Mo_selector 134 = .ok (.iload 4, 2) := by sorry
theorem d_Mo_selector_136 : decode b_Mo_selector 136 = .ok (.ifCond .ge 5, 3) := by sorry
theorem d_Mo_selector_139 : decode b_Mo_selector 139 = .ok (.iconst (-1), 1) := by sorry
theorem d_Mo_selector_140 : decode b_Mo_selector 140 = .ok (.ireturn, 1) := by sorry
theorem d_Mo_selector_141 : decode b_Mo_selector 141 = .ok (.aload_n 0, 1) := by sorry
theorem d_Mo_selector_142 : decode b_Mo_selector 142 = .ok (.iload_n 3, 1) := by sorry
theorem d_Mo_selector_143 : decode b_Mo_selector 143 = .ok (.iconst 2, 1) := by sorry
theorem d_Mo_selector_144 : decode b_Mo_selector 144 = .ok (.iload 4, 2) := by sorry
theorem d_Mo_selector_146 : decode b_Mo_selector 146 = .ok (.invokevirtual 272, 3) := by sorry
theorem d_Mo_selector_149 : decode b_Mo_selector 149 = .ok (.iload_n 3, 1) := by sorry
theorem d_Mo_selector_150 : decode b_Mo_selector 150 = .ok (.ireturn, 1) := by sorry
theorem d_Mo_selector_151 : decode b_Mo_selector 151 = .ok (.iload_n 2, 1) := by sorry
theorem d_Mo_selector_152 : decode b_Mo_selector 152 = .ok (.bipush 45, 2) := by sorry
theorem d_Mo_selector_154 : decode b_Mo_selector 154 = .ok (.if_icmp .eq 31, 3) := by sorry
theorem d_Mo_selector_157 : decode b_Mo_selector 157 = .ok (.iload_n 2, 1) := by sorry
theorem d_Mo_selector_158 : decode b_Mo_selector 158 = .ok (.invokestatic 166, 3) := by sorry
theorem d_Mo_selector_161 : decode b_Mo_selector 161 = .ok (.ifCond .ne 24, 3) := by sorry
theorem d_Mo_selector_164 : decode b_Mo_selector 164 = .ok (.iload_n 2, 1) := by sorry
theorem d_Mo_selector_165 : decode b_Mo_selector 165 = .ok (.bipush 58, 2) := by sorry
theorem d_Mo_selector_167 : decode b_Mo_selector 167 = .ok (.if_icmp .ne 7, 3) := by sorry
theorem d_Mo_selector_170 : decode b_Mo_selector 170 = .ok (.iload_n 1, 1) := by sorry
theorem d_Mo_selector_171 : decode b_Mo_selector 171 = .ok (.ifCond .eq 14, 3) := by sorry
theorem d_Mo_selector_174 : decode b_Mo_selector 174 = .ok (.aload_n 0, 1) := by sorry
theorem d_Mo_selector_175 : decode b_Mo_selector 175 = .ok (.aload_n 0, 1) := by sorry
theorem d_Mo_selector_176 : decode b_Mo_selector 176 = .ok (.getfield 135, 3) := by sorry
theorem d_Mo_selector_179 : decode b_Mo_selector 179 = .ok (.invokevirtual 151, 3) := by sorry
theorem d_Mo_selector_182 : decode b_Mo_selector 182 = .ok (.pop, 1) := by sorry
theorem d_Mo_selector_183 : decode b_Mo_selector 183 = .ok (.iconst (-1), 1) := by sorry
theorem d_Mo_selector_184 : decode b_Mo_selector 184 = .ok (.ireturn, 1) := by sorry
theorem d_Mo_selector_185 : decode b_Mo_selector 185 = .ok (.aload_n 0, 1) := by sorry
theorem d_Mo_selector_186 : decode b_Mo_selector 186 = .ok (.iconst 3, 1) := by sorry
theorem d_Mo_selector_187 : decode b_Mo_selector 187 = .ok (.invokevirtual 269, 3) := by sorry
theorem d_Mo_selector_190 : decode b_Mo_selector 190 = .ok (.istore_n 3, 1) := by sorry
theorem d_Mo_selector_191 : decode b_Mo_selector 191 = .ok (.aload_n 0, 1) := by sorry
theorem d_Mo_selector_192 : decode b_Mo_selector 192 = .ok (.iload_n 3, 1) := by sorry
theorem d_Mo_selector_193 : decode b_Mo_selector 193 = .ok (.iconst 2, 1) := by sorry
theorem d_Mo_selector_194 : decode b_Mo_selector 194 = .ok (.iconst 0, 1) := by sorry
theorem d_Mo_selector_195 : decode b_Mo_selector 195 = .ok (.invokevirtual 272, 3) := by sorry
theorem d_Mo_selector_198 : decode b_Mo_selector 198 = .ok (.iload_n 2, 1) := by sorry
theorem d_Mo_selector_199 : decode b_Mo_selector 199 = .ok (.bipush 58, 2) := by sorry
theorem d_Mo_selector_201 : decode b_Mo_selector 201 = .ok (.if_icmp .eq 45, 3) := by sorry
theorem d_Mo_selector_204 : decode b_Mo_selector 204 = .ok (.aload_n 0, 1) := by sorry
theorem d_Mo_selector_205 : decode b_Mo_selector 205 = .ok (.iload_n 3, 1) := by sorry
theorem d_Mo_selector_206 : decode b_Mo_selector 206 = .ok (.iconst 0, 1) := by sorry
theorem d_Mo_selector_207 : decode b_Mo_selector 207 = .ok (.invokevirtual 303, 3) := by sorry
theorem d_Mo_selector_210 : decode b_Mo_selector 210 = .ok (.ifCond .ne 5, 3) := by sorry
theorem d_Mo_selector_213 : decode b_Mo_selector 213 = .ok (.iconst (-1), 1) := by sorry
theorem d_Mo_selector_214 : decode b_Mo_selector 214 = .ok (.ireturn, 1) := by sorry
theorem d_Mo_selector_215 : decode b_Mo_selector 215 = .ok (.aload_n 0, 1) := by sorry
theorem d_Mo_selector_216 : decode b_Mo_selector 216 = .ok (.getfield 135, 3) := by sorry
theorem d_Mo_selector_219 : decode b_Mo_selector 219 = .ok (.istore 4, 2) := by sorry
theorem d_Mo_selector_221 : decode b_Mo_selector 221 = .ok (.aload_n 0, 1) := by sorry
theorem d_Mo_selector_222 : decode b_Mo_selector 222 = .ok (.invokevirtual 184, 3) := by sorry
theorem d_Mo_selector_225 : decode b_Mo_selector 225 = .ok (.aload_n 0, 1) := by sorry
theorem d_Mo_selector_226 : decode b_Mo_selector 226 = .ok (.invokevirtual 147, 3) := by sorry
theorem d_Mo_selector_229 : decode b_Mo_selector 229 = .ok (.bipush 58, 2) := by sorry
theorem d_Mo_selector_231 : decode b_Mo_selector 231 = .ok (.if_icmp .ne 7, 3) := by sorry
theorem d_Mo_selector_234 : decode b_Mo_selector 234 = .ok (.iload_n 1, 1) := by sorry
theorem d_Mo_selector_235 : decode b_Mo_selector 235 = .ok (.ifCond .eq 11, 3) := by sorry
theorem d_Mo_selector_238 : decode b_Mo_selector 238 = .ok (.aload_n 0, 1) := by sorry
theorem d_Mo_selector_239 : decode b_Mo_selector 239 = .ok (.iload 4, 2) := by sorry
theorem d_Mo_selector_241 : decode b_Mo_selector 241 = .ok (.putfield 135, 3) := by sorry
theorem d_Mo_selector_244 : decode b_Mo_selector 244 = .ok (.iload_n 3, 1) := by sorry
theorem d_Mo_selector_245 : decode b_Mo_selector 245 = .ok (.ireturn, 1) := by sorry
theorem d_Mo_selector_246 : decode b_Mo_selector 246 = .ok (.aload_n 0, 1) := by sorry
theorem d_Mo_selector_247 : decode b_Mo_selector 247 = .ok (.iload_n 3, 1) := by sorry
theorem d_Mo_selector_248 : decode b_Mo_selector 248 = .ok (.iconst 0, 1) := by sorry
theorem d_Mo_selector_249 : decode b_Mo_selector 249 = .ok (.iconst 4, 1) := by sorry
theorem d_Mo_selector_250 : decode b_Mo_selector 250 = .ok (.invokevirtual 272, 3) := by sorry
theorem d_Mo_selector_253 : decode b_Mo_selector 253 = .ok (.aload_n 0, 1) := by sorry
theorem d_Mo_selector_254 : decode b_Mo_selector 254 = .ok (.dup, 1) := by sorry
theorem d_Mo_selector_255 : decode b_Mo_selector 255 = .ok (.getfield 135, 3) := by sorry
theorem d_Mo_selector_258 : decode b_Mo_selector 258 = .ok (.iconst 1, 1) := by sorry
theorem d_Mo_selector_259 : decode b_Mo_selector 259 = .ok (.iadd, 1) := by sorry
theorem d_Mo_selector_260 : decode b_Mo_selector 260 = .ok (.putfield 135, 3) := by sorry
theorem d_Mo_selector_263 : decode b_Mo_selector 263 = .ok (.aload_n 0, 1) := by sorry
theorem d_Mo_selector_264 : decode b_Mo_selector 264 = .ok (.invokevirtual 184, 3) := by sorry
theorem d_Mo_selector_267 : decode b_Mo_selector 267 = .ok (.aload_n 0, 1) := by sorry
theorem d_Mo_selector_268 : decode b_Mo_selector 268 = .ok (.invokevirtual 147, 3) := by sorry
theorem d_Mo_selector_271 : decode b_Mo_selector 271 = .ok (.bipush 45, 2) := by sorry
theorem d_Mo_selector_273 : decode b_Mo_selector 273 = .ok (.if_icmp .eq 13, 3) := by sorry
theorem d_Mo_selector_276 : decode b_Mo_selector 276 = .ok (.aload_n 0, 1) := by sorry
theorem d_Mo_selector_277 : decode b_Mo_selector 277 = .ok (.invokevirtual 147, 3) := by sorry
theorem d_Mo_selector_280 : decode b_Mo_selector 280 = .ok (.invokestatic 166, 3) := by sorry
theorem d_Mo_selector_283 : decode b_Mo_selector 283 = .ok (.ifCond .eq 14, 3) := by sorry
theorem d_Mo_selector_286 : decode b_Mo_selector 286 = .ok (.aload_n 0, 1) := by sorry
theorem d_Mo_selector_287 : decode b_Mo_selector 287 = .ok (.iload_n 3, 1) := by sorry
theorem d_Mo_selector_288 : decode b_Mo_selector 288 = .ok (.iconst 1, 1) := by sorry
theorem d_Mo_selector_289 : decode b_Mo_selector 289 = .ok (.invokevirtual 303, 3) := by sorry
theorem d_Mo_selector_292 : decode b_Mo_selector 292 = .ok (.ifCond .ne 5, 3) := by sorry
theorem d_Mo_selector_295 : decode b_Mo_selector 295 = .ok (.iconst (-1), 1) := by sorry
theorem d_Mo_selector_296 : decode b_Mo_selector 296 = .ok (.ireturn, 1) := by sorry
theorem d_Mo_selector_297 : decode b_Mo_selector 297 = .ok (.aload_n 0, 1) := by sorry
theorem d_Mo_selector_298 : decode b_Mo_selector 298 = .ok (.getfield 135, 3) := by sorry
theorem d_Mo_selector_301 : decode b_Mo_selector 301 = .ok (.istore 4, 2) := by sorry
theorem d_Mo_selector_303 : decode b_Mo_selector 303 = .ok (.aload_n 0, 1) := by sorry
theorem d_Mo_selector_304 : decode b_Mo_selector 304 = .ok (.invokevirtual 184, 3) := by sorry
theorem d_Mo_selector_307 : decode b_Mo_selector 307 = .ok (.aload_n 0, 1) := by sorry
theorem d_Mo_selector_308 : decode b_Mo_selector 308 = .ok (.invokevirtual 147, 3) := by sorry
theorem d_Mo_selector_311 : decode b_Mo_selector 311 = .ok (.bipush 58, 2) := by sorry
theorem d_Mo_selector_313 : decode b_Mo_selector 313 = .ok (.if_icmp .eq 11, 3) := by sorry
theorem d_Mo_selector_316 : decode b_Mo_selector 316 = .ok (.aload_n 0, 1) := by sorry
theorem d_Mo_selector_317 : decode b_Mo_selector 317 = .ok (.iload 4, 2) := by sorry
theorem d_Mo_selector_319 : decode b_Mo_selector 319 = .ok (.putfield 135, 3) := by sorry
theorem d_Mo_selector_322 : decode b_Mo_selector 322 = .ok (.iload_n 3, 1) := by sorry
theorem d_Mo_selector_323 : decode b_Mo_selector 323 = .ok (.ireturn, 1) := by sorry
theorem d_Mo_selector_324 : decode b_Mo_selector 324 = .ok (.aload_n 0, 1) := by sorry
theorem d_Mo_selector_325 : decode b_Mo_selector 325 = .ok (.dup, 1) := by sorry
theorem d_Mo_selector_326 : decode b_Mo_selector 326 = .ok (.getfield 135, 3) := by sorry
theorem d_Mo_selector_329 : decode b_Mo_selector 329 = .ok (.iconst 1, 1) := by sorry
theorem d_Mo_selector_330 : decode b_Mo_selector 330 = .ok (.iadd, 1) := by sorry
theorem d_Mo_selector_331 : decode b_Mo_selector 331 = .ok (.putfield 135, 3) := by sorry
theorem d_Mo_selector_334 : decode b_Mo_selector 334 = .ok (.aload_n 0, 1) := by sorry
theorem d_Mo_selector_335 : decode b_Mo_selector 335 = .ok (.getfield 135, 3) := by sorry
theorem d_Mo_selector_338 : decode b_Mo_selector 338 = .ok (.istore 4, 2) := by sorry
theorem d_Mo_selector_340 : decode b_Mo_selector 340 = .ok (.aload_n 0, 1) := by sorry
theorem d_Mo_selector_341 : decode b_Mo_selector 341 = .ok (.invokevirtual 184, 3) := by sorry
theorem d_Mo_selector_344 : decode b_Mo_selector 344 = .ok (.aload_n 0, 1) := by sorry
theorem d_Mo_selector_345 : decode b_Mo_selector 345 = .ok (.invokevirtual 147, 3) := by sorry
theorem d_Mo_selector_348 : decode b_Mo_selector 348 = .ok (.bipush 45, 2) := by sorry
theorem d_Mo_selector_350 : decode b_Mo_selector 350 = .ok (.if_icmp .eq 13, 3) := by sorry
theorem d_Mo_selector_353 : decode b_Mo_selector 353 = .ok (.aload_n 0, 1) := by sorry
theorem d_Mo_selector_354 : decode b_Mo_selector 354 = .ok (.invokevirtual 147, 3) := by sorry
theorem d_Mo_selector_357 : decode b_Mo_selector 357 = .ok (.invokestatic 166, 3) := by sorry
theorem d_Mo_selector_360 : decode b_Mo_selector 360 = .ok (.ifCond .eq 18, 3) := by sorry
theorem d_Mo_selector_363 : decode b_Mo_selector 363 = .ok (.aload_n 0, 1) := by sorry
theorem d_Mo_selector_364 : decode b_Mo_selector 364 = .ok (.iload_n 3, 1) := by sorry
theorem d_Mo_selector_365 : decode b_Mo_selector 365 = .ok (.iconst 2, 1) := by sorry
theorem d_Mo_selector_366 : decode b_Mo_selector 366 = .ok (.invokevirtual 303, 3) := by sorry
theorem d_Mo_selector_369 : decode b_Mo_selector 369 = .ok (.ifCond .eq 7, 3) := by sorry
theorem d_Mo_selector_372 : decode b_Mo_selector 372 = .ok (.iload_n 3, 1) := by sorry
theorem d_Mo_selector_373 : decode b_Mo_selector 373 = .ok (.goto 4, 3) := by sorry
theorem d_Mo_selector_376 : decode b_Mo_selector 376 = .ok (.iconst (-1), 1) := by sorry
theorem d_Mo_selector_377 : decode b_Mo_selector 377 = .ok (.ireturn, 1) := by sorry
theorem d_Mo_selector_378 : decode b_Mo_selector 378 = .ok (.aload_n 0, 1) := by sorry
theorem d_Mo_selector_379 : decode b_Mo_selector 379 = .ok (.iload 4, 2) := by sorry
theorem d_Mo_selector_381 : decode b_Mo_selector 381 = .ok (.putfield 135, 3) := by sorry
theorem d_Mo_selector_384 : decode b_Mo_selector 384 = .ok (.iload_n 3, 1) := by sorry
theorem d_Mo_selector_385 : decode b_Mo_selector 385 = .ok (.ireturn, 1) := by sorry
theorem whB_lt {f : Nat → Int32} {n i : Nat} {mi : Bool} {p : Int64 × Nat} (h : whB f n i mi = some p) : i < p.2 := by sorry
theorem whM_lt {f : Nat → Int32} {n i j : Nat} {x : Int64} (h : whM f n i = some (x, j)) : i < j := by sorry
set_option maxHeartbeats 4000000 in
set_option maxRecDepth 100000 in
/-- the reference: selector -/
theorem c_sel0 (orL : (Nat → Int32) → Nat → Nat → Option (Nat × CT)) (O : QP CT) (F L : Nat) (hOf : Frm 8 O) (l : Launch) (dC : Nat → ClassId) (dI : Nat → Nat → Nat) (mo : Nat) (sz : Heap) (v : Nat → Value) (cB cI cL cC : ClassId) (qx NN : Nat) (f : Nat → Int32) (n : Nat) (K : Nat → Nat × Nat) (tv : Nat) (Q : QS) (V : TS) (o i : Nat) (br : Int32) (hOR : ORC orL O o F L) (hnN : n ≤ NN) (hNN : NN ≤ 4096) (hi0 : i ≤ n) (h6 : v 6 = .ref qx) (h8 : v 8 = .int (nI n)) (h22 : v 22 = .ref tv) (hQ : QOK Q) (hV : TOK V) (hcu : V.us + (n + 12 - i) ≤ 400000) (hcr : Q.R + 8 * (n - i) + 4 ≤ 40000) : Met l y_Mo_selector (k_Mo_selector :: gtbl) ({ frames := 7 + F, cells := kcap Q (Q.R + 8 * (n - i) + 4) + qcap V (V.us + (n + 12 - i)), slots := 22 * kcap Q (Q.R + 8 * (n - i) + 4) + 2 * qcap V (V.us + (n + 12 - i)), locals := 200 + L }) (va_Pc [.ref mo, .int 0] (me K dC dI [(mo, .inr (13, MF 30 (rf (rs v Q o) i br))), (qx, .inl (cB, NN, .inl f)), (Q.qq, .inl (cI, (8 * Q.C), .inl Q.qf)), (Q.qe, .inl (cL, (3 * Q.C), .inr (.inl Q.ef))), (tv, .inr (12, MF 13 (tw V))), (V.au, .inl (cC, V.U, .inl V.un))] [(cB, .byte), (cI, .int), (cL, .long), (cC, .char)] sz)) (va_Qi (fun (res : Int32) (u : QS × TS × Nat × Int32 × Nat) => SELo f (orL f n) O false n i o Q V res u) (fun u t9 => mz dC dI [(mo, .inr (13, MF 30 (rf (rs v u.1 u.2.2.2.2) u.2.2.1 u.2.2.2.1))), (qx, .inl (cB, NN, .inl f)), (u.1.qq, .inl (cI, (8 * u.1.C), .inl u.1.qf)), (u.1.qe, .inl (cL, (3 * u.1.C), .inr (.inl u.1.ef))), (tv, .inr (12, MF 13 (tw u.2.1))), (u.2.1.au, .inl (cC, u.2.1.U, .inl u.2.1.un))] [(cB, .byte), (cI, .int), (cL, .long), (cC, .char)] (va_A [(mo, .inr (13, MF 30 (rf (rs v Q o) i br))), (qx, .inl (cB, NN, .inl f)), (Q.qq, .inl (cI, (8 * Q.C), .inl Q.qf)), (Q.qe, .inl (cL, (3 * Q.C), .inr (.inl Q.ef))), (tv, .inr (12, MF 13 (tw V))), (V.au, .inl (cC, V.U, .inl V.un))] sz.size) t9 ∧ szk sz t9.heap (cQ Q V u.1 u.2.1) (sQ Q V u.1 u.2.1)) (va_A [(mo, .inr (13, MF 30 (rf (rs v Q o) i br))), (qx, .inl (cB, NN, .inl f)), (Q.qq, .inl (cI, (8 * Q.C), .inl Q.qf)), (Q.qe, .inl (cL, (3 * Q.C), .inr (.inl Q.ef))), (tv, .inr (12, MF 13 (tw V))), (V.au, .inl (cC, V.U, .inl V.un))] sz.size)) (kcap Q (Q.R + 8 * (n - i) + 4) + qcap V (V.us + (n + 12 - i))) (22 * kcap Q (Q.R + 8 * (n - i) + 4) + 2 * qcap V (V.us + (n + 12 - i))) (va_A [(mo, .inr (13, MF 30 (rf (rs v Q o) i br))), (qx, .inl (cB, NN, .inl f)), (Q.qq, .inl (cI, (8 * Q.C), .inl Q.qf)), (Q.qe, .inl (cL, (3 * Q.C), .inr (.inl Q.ef))), (tv, .inr (12, MF 13 (tw V))), (V.au, .inl (cC, V.U, .inl V.un))] sz.size) := by sorry
set_option maxHeartbeats 4000000 in
set_option maxRecDepth 100000 in
/-- the reference: selector -/
theorem c_sel1 (orL : (Nat → Int32) → Nat → Nat → Option (Nat × CT)) (O : QP CT) (F L : Nat) (hOf : Frm 8 O) (l : Launch) (dC : Nat → ClassId) (dI : Nat → Nat → Nat) (mo : Nat) (sz : Heap) (v : Nat → Value) (cB cI cL cC : ClassId) (qx NN : Nat) (f : Nat → Int32) (n : Nat) (K : Nat → Nat × Nat) (tv : Nat) (Q : QS) (V : TS) (o i : Nat) (br : Int32) (hOR : ORC orL O o F L) (hnN : n ≤ NN) (hNN : NN ≤ 4096) (hi0 : i ≤ n) (h6 : v 6 = .ref qx) (h8 : v 8 = .int (nI n)) (h22 : v 22 = .ref tv) (hQ : QOK Q) (hV : TOK V) (hcu : V.us + (n + 12 - i) ≤ 400000) (hcr : Q.R + 8 * (n - i) + 4 ≤ 40000) : Met l y_Mo_selector (k_Mo_selector :: gtbl) ({ frames := 7 + F, cells := kcap Q (Q.R + 8 * (n - i) + 4) + qcap V (V.us + (n + 12 - i)), slots := 22 * kcap Q (Q.R + 8 * (n - i) + 4) + 2 * qcap V (V.us + (n + 12 - i)), locals := 200 + L }) (va_Pc [.ref mo, .int 1] (me K dC dI [(mo, .inr (13, MF 30 (rf (rs v Q o) i br))), (qx, .inl (cB, NN, .inl f)), (Q.qq, .inl (cI, (8 * Q.C), .inl Q.qf)), (Q.qe, .inl (cL, (3 * Q.C), .inr (.inl Q.ef))), (tv, .inr (12, MF 13 (tw V))), (V.au, .inl (cC, V.U, .inl V.un))] [(cB, .byte), (cI, .int), (cL, .long), (cC, .char)] sz)) (va_Qi (fun (res : Int32) (u : QS × TS × Nat × Int32 × Nat) => SELo f (orL f n) O true n i o Q V res u) (fun u t9 => mz dC dI [(mo, .inr (13, MF 30 (rf (rs v u.1 u.2.2.2.2) u.2.2.1 u.2.2.2.1))), (qx, .inl (cB, NN, .inl f)), (u.1.qq, .inl (cI, (8 * u.1.C), .inl u.1.qf)), (u.1.qe, .inl (cL, (3 * u.1.C), .inr (.inl u.1.ef))), (tv, .inr (12, MF 13 (tw u.2.1))), (u.2.1.au, .inl (cC, u.2.1.U, .inl u.2.1.un))] [(cB, .byte), (cI, .int), (cL, .long), (cC, .char)] (va_A [(mo, .inr (13, MF 30 (rf (rs v Q o) i br))), (qx, .inl (cB, NN, .inl f)), (Q.qq, .inl (cI, (8 * Q.C), .inl Q.qf)), (Q.qe, .inl (cL, (3 * Q.C), .inr (.inl Q.ef))), (tv, .inr (12, MF 13 (tw V))), (V.au, .inl (cC, V.U, .inl V.un))] sz.size) t9 ∧ szk sz t9.heap (cQ Q V u.1 u.2.1) (sQ Q V u.1 u.2.1)) (va_A [(mo, .inr (13, MF 30 (rf (rs v Q o) i br))), (qx, .inl (cB, NN, .inl f)), (Q.qq, .inl (cI, (8 * Q.C), .inl Q.qf)), (Q.qe, .inl (cL, (3 * Q.C), .inr (.inl Q.ef))), (tv, .inr (12, MF 13 (tw V))), (V.au, .inl (cC, V.U, .inl V.un))] sz.size)) (kcap Q (Q.R + 8 * (n - i) + 4) + qcap V (V.us + (n + 12 - i))) (22 * kcap Q (Q.R + 8 * (n - i) + 4) + 2 * qcap V (V.us + (n + 12 - i))) (va_A [(mo, .inr (13, MF 30 (rf (rs v Q o) i br))), (qx, .inl (cB, NN, .inl f)), (Q.qq, .inl (cI, (8 * Q.C), .inl Q.qf)), (Q.qe, .inl (cL, (3 * Q.C), .inr (.inl Q.ef))), (tv, .inr (12, MF 13 (tw V))), (V.au, .inl (cC, V.U, .inl V.un))] sz.size) := by sorry
end
section
theorem w_1113 : (.fieldLink "QueryBenchModel" 59 "QueryBenchModel" "list" "[I" : Cond) ∈ gtbl := by sorry
theorem w_1114 : (.fieldLink "QueryBenchModel" 351 "QueryBenchModel" "top" "I" : Cond) ∈ gtbl := by sorry
theorem w_1497 : (.methodLink "QueryBenchModel" 348 ⟨"QueryBenchModel", "worked", "()Z"⟩ : Cond) ∈ gtbl := by sorry
theorem w_1499 : (.instanceMethod ⟨"QueryBenchModel", "worked", "()Z"⟩ : Cond) ∈ gtbl := by sorry
theorem w_1541 : (.constant "QueryBenchModel" 101 65536 : Cond) ∈ gtbl := by sorry
/-- the reference's list and its work: how long, how much, whether too much -/
def es (v : Nat → Value) (tp d : Nat) (tm : Int32) : Nat → Value := va_up (va_up (va_up v 25 (.int (nI tp))) 26 (.int (nI d))) 27 (.int tm)
theorem es_25 {v : Nat → Value} {tp d : Nat} {tm : Int32} : es v tp d tm 25 = .int (nI tp) := by sorry
theorem es_26 {v : Nat → Value} {tp d : Nat} {tm : Int32} : es v tp d tm 26 = .int (nI d) := by sorry
theorem es_27 {v : Nat → Value} {tp d : Nat} {tm : Int32} : es v tp d tm 27 = .int tm := by sorry
theorem es_ne {v : Nat → Value} {tp d j : Nat} {tm : Int32} (h1 : j ≠ 25) (h2 : j ≠ 26) (h3 : j ≠ 27) : es v tp d tm j = v j := by sorry
theorem es_u25 {v : Nat → Value} {tp d t2 : Nat} {tm : Int32} : va_up (es v tp d tm) 25 (.int (nI t2)) = es v t2 d tm := by sorry
theorem es_u26 {v : Nat → Value} {tp d d2 : Nat} {tm : Int32} : va_up (es v tp d tm) 26 (.int (nI d2)) = es v tp d2 tm := by sorry
theorem es_u27 {v : Nat → Value} {tp d : Nat} {tm t2 : Int32} : va_up (es v tp d tm) 27 (.int t2) = es v tp d t2 := by sorry
abbrev b_Mo_choose : ByteArray := prog_14_method_53_code
def y_Mo_choose : MethodName := ⟨"QueryBenchModel", "choose", "(I)V"⟩
abbrev k_Mo_choose : Cond := .code y_Mo_choose b_Mo_choose 2 none
theorem i_Mo_choose : k_Mo_choose ∈ gtbl := by sorry
theorem d_Mo_choose_0 : decode b_Mo_choose 0 = .ok (.aload_n 0, 1) := by sorry
theorem d_Mo_choose_1 : decode b_Mo_choose 1 = .ok (.invokevirtual 348, 3) := by sorry
theorem d_Mo_choose_4 : decode b_Mo_choose 4 = .ok (.ifCond .ne 4, 3) := by sorry
theorem d_Mo_choose_7 : decode b_Mo_choose 7 = .ok (.return_, 1) := by sorry
theorem d_Mo_choose_8 : decode b_Mo_choose 8 = .ok (.aload_n 0, 1) := by sorry
theorem d_Mo_choose_9 : decode b_Mo_choose 9 = .ok (.getfield 59, 3) := by sorry
theorem d_Mo_choose_12 : decode b_Mo_choose 12 = .ok (.aload_n 0, 1) := by sorry
theorem d_Mo_choose_13 : decode b_Mo_choose 13 = .ok (.getfield 351, 3) := by sorry
theorem d_Mo_choose_16 : decode b_Mo_choose 16 = .ok (.iload_n 1, 1) := by sorry
theorem d_Mo_choose_17 : decode b_Mo_choose 17 = .ok (.iastore, 1) := by sorry
theorem d_Mo_choose_18 : decode b_Mo_choose 18 = .ok (.aload_n 0, 1) := by sorry
theorem d_Mo_choose_19 : decode b_Mo_choose 19 = .ok (.dup, 1) := by sorry
theorem d_Mo_choose_20 : decode b_Mo_choose 20 = .ok (.getfield 351, 3) := by sorry
theorem d_Mo_choose_23 : decode b_Mo_choose 23 = .ok (.iconst 1, 1) := by sorry
theorem d_Mo_choose_24 : decode b_Mo_choose 24 = .ok (.iadd, 1) := by sorry
theorem d_Mo_choose_25 : decode b_Mo_choose 25 = .ok (.putfield 351, 3) := by sorry
theorem d_Mo_choose_28 : decode b_Mo_choose 28 = .ok (.return_, 1) := by sorry
set_option maxHeartbeats 4000000 in
set_option maxRecDepth 100000 in
/-- the reference: choose -/
theorem c_Mo_choose (l : Launch) (dC : Nat → ClassId) (dI : Nat → Nat → Nat) (mo : Nat) (sz : Heap) (v : Nat → Value) (cI : ClassId) (ql tp d : Nat) (tm x : Int32) (li : Nat → Int32) (htd : tp ≤ d) (hd0 : d ≤ 100000) (htp : tp ≤ 10000) (h24 : v 24 = .ref ql) : Met l y_Mo_choose (k_Mo_choose :: gtbl) ({ frames := 1, cells := 0, slots := 0, locals := 24 }) (va_Pc [.ref mo, .int x] (mp dC dI [(mo, .inr (13, MF 30 (es v tp d tm))), (ql, .inl (cI, 20100, .inl li))] [(cI, .int)] sz)) (va_Qv (fun (u : Nat × Int32 × (Nat → Int32)) => (d + 1 ≤ 10000 ∧ tm = 0 ∧ u = (tp + 1, tm, upd li tp x)) ∨ (u.1 = tp ∧ u.2.2 = li ∧ ((¬ tm = 0 ∧ u.2.1 = tm) ∨ (¬ d + 1 ≤ 10000 ∧ u.2.1 = 1)))) (fun u t9 => mz dC dI [(mo, .inr (13, MF 30 (es v u.1 (d + 1) u.2.1))), (ql, .inl (cI, 20100, .inl u.2.2))] [(cI, .int)] (va_A [(mo, .inr (13, MF 30 (es v tp d tm))), (ql, .inl (cI, 20100, .inl li))] sz.size) t9) (va_A [(mo, .inr (13, MF 30 (es v tp d tm))), (ql, .inl (cI, 20100, .inl li))] sz.size)) 0 0 (va_A [(mo, .inr (13, MF 30 (es v tp d tm))), (ql, .inl (cI, 20100, .inl li))] sz.size) := by sorry
theorem n32 {k : Nat} (h : k < 2 ^ 31) : (nI k).toInt = (k : Int) := by sorry
/-- the character at i -/
def chV (g : Nat → Int32) (i en : Nat) : Int32 := if g i < 55296 ∨ ¬ g i ≤ 56319 ∨ ¬ i + 1 < en then g i else (65536 : Int32) + (((g i - 55296) <<< ((10 : Int32) &&& 31) : Int32)) + g (i + 1) - 56320
theorem shl10 : ∀ d, d < 1024 → ((nI d) <<< ((10 : Int32) &&& 31) : Int32) = nI (d * 1024) := by sorry
theorem nI_subM {a b : Nat} (h : b ≤ a) : nI a - nI b = nI (a - b) := by sorry
theorem chr_pair {g : Nat → Int32} {i en A B : Nat} (h : i + 1 < en) (hA : g i = nI A) (hA1 : 55296 ≤ A) (hA2 : A ≤ 56319) (hB : g (i + 1) = nI B) (hB1 : 56320 ≤ B) (hB2 : B ≤ 57343) : chV g i en = nI (65536 + (A - 55296) * 1024 + (B - 56320)) := by sorry
theorem chr_one {g : Nat → Int32} {i en : Nat} (h : ¬ hiU (g i)) : chV g i en = g i := by sorry
theorem slu_0 {g : Nat → Int32} {i : Nat} : sl g i 0 = [] := by sorry
theorem slu_s {g : Nat → Int32} {i L : Nat} : sl g i (L + 1) = g i :: sl g (i + 1) L := by sorry
theorem slu_sn {g : Nat → Int32} {i L : Nat} : sl g i (L + 1) = sl g i L ++ [g (i + L)] := by sorry
theorem slu_ap {g : Nat → Int32} {i : Nat} {us : List Int32} (h : us = sl g i us.length) : us ++ [g (i + us.length)] = sl g i (us ++ [g (i + us.length)]).length := by sorry
theorem chOK_16 {g : Nat → Int32} (h : chOK g) {i L : Nat} : (sl g i L).map c16 = sl g i L := by sorry
theorem uOK_1 {a : Int32} {s : List Int32} (h : uOK (a :: s)) (hh : ¬ hiU a) : 0 ≤ a ∧ a ≤ 65535 ∧ ¬ loU a ∧ uOK s := by sorry
theorem uOK_2 {a : Int32} {s : List Int32} (h : uOK (a :: s)) (hh : hiU a) : ∃ b s1, s = b :: s1 ∧ loU b ∧ uOK s1 := by sorry
/-- the order of two texts -/
def ordV (s t : List Int32) : Int32 := if s = t then 0 else if ltT s t = true then -1 else 1
theorem rk_1 {a : Int32} (h1 : ¬ hiU a) (h2 : ¬ loU a) : rkI a = a := by sorry
theorem ord_ne {s t : List Int32} {a b : Int32} (h : ¬ a = b) : ordV (a :: s) (b :: t) = if rkI a < rkI b then -1 else 1 := by sorry
theorem ord_eq {s t : List Int32} {a : Int32} : ordV (a :: s) (a :: t) = ordV s t := by sorry
theorem hi_nat {a : Int32} (h : hiU a) : ∃ A, a = nI A ∧ 55296 ≤ A ∧ A ≤ 56319 := by sorry
theorem lo_nat {a : Int32} (h : loU a) : ∃ A, a = nI A ∧ 56320 ≤ A ∧ A ≤ 57343 := by sorry
theorem nI_lt9 {a b : Nat} (ha : a < 2 ^ 31) (hb : b < 2 ^ 31) : nI a < nI b ↔ a < b := by sorry
theorem nI_eq9 {a b : Nat} (ha : a < 2 ^ 31) (hb : b < 2 ^ 31) : nI a = nI b ↔ a = b := by sorry
/-- a character and what is behind it -/
theorem chr_get {g : Nat → Int32} {i n : Nat} (hi : i < n) (h : uOK (sl g i (n - i))) : (¬ hiU (g i) ∧ chV g i n = g i ∧ 0 ≤ g i ∧ g i ≤ 65535 ∧ ¬ loU (g i) ∧ sl g i (n - i) = g i :: sl g (i + 1) (n - (i + 1)) ∧ uOK (sl g (i + 1) (n - (i + 1)))) ∨ (∃ A B, g i = nI A ∧ 55296 ≤ A ∧ A ≤ 56319 ∧ g (i + 1) = nI B ∧ 56320 ≤ B ∧ B ≤ 57343 ∧ chV g i n = nI (65536 + (A - 55296) * 1024 + (B - 56320)) ∧ i + 2 ≤ n ∧ sl g i (n - i) = nI A :: nI B :: sl g (i + 2) (n - (i + 2)) ∧ uOK (sl g (i + 2) (n - (i + 2)))) := by sorry
/-- one step of the comparison -/
theorem ord_step {g : Nat → Int32} {i n j m : Nat} (hi : i < n) (hj : j < m) (hs : uOK (sl g i (n - i))) (ht : uOK (sl g j (m - j))) : (¬ chV g i n = chV g j m → ordV (sl g i (n - i)) (sl g j (m - j)) = if chV g i n < chV g j m then -1 else 1) ∧ (chV g i n = chV g j m → 65535 < chV g i n → i + 2 ≤ n ∧ j + 2 ≤ m ∧ ordV (sl g i (n - i)) (sl g j (m - j)) = ordV (sl g (i + 2) (n - (i + 2))) (sl g (j + 2) (m - (j + 2))) ∧ uOK (sl g (i + 2) (n - (i + 2))) ∧ uOK (sl g (j + 2) (m - (j + 2)))) ∧ (chV g i n = chV g j m → ¬ 65535 < chV g i n → ordV (sl g i (n - i)) (sl g j (m - j)) = ordV (sl g (i + 1) (n - (i + 1))) (sl g (j + 1) (m - (j + 1))) ∧ uOK (sl g (i + 1) (n - (i + 1))) ∧ uOK (sl g (j + 1) (m - (j + 1)))) := by sorry
theorem ord_nil1 {g : Nat → Int32} {i n : Nat} {t : List Int32} (hi : i < n) (ht : t = []) : ordV (sl g i (n - i)) t = 1 := by sorry
theorem ord_nil2 {g : Nat → Int32} {j m : Nat} {s : List Int32} (hj : j < m) (hs : s = []) : ordV s (sl g j (m - j)) = -1 := by sorry
theorem ord_lt {s t : List Int32} : ordV s t < 0 ↔ ltT s t = true := by sorry
theorem ord_z {s t : List Int32} : ordV s t = 0 ↔ s = t := by sorry
abbrev b_Mo_character : ByteArray := prog_14_method_3_code
def y_Mo_character : MethodName := ⟨"QueryBenchModel", "character", "([CII)I"⟩
abbrev k_Mo_character : Cond := .code y_Mo_character b_Mo_character 4 (some .int)
theorem i_Mo_character : k_Mo_character ∈ gtbl := by sorry
theorem d_Mo_character_0 : decode b_Mo_character 0 = .ok (.aload_n 0, 1) := by sorry
theorem d_Mo_character_1 : decode b_Mo_character 1 = .ok (.iload_n 1, 1) := by sorry
theorem d_Mo_character_2 : decode b_Mo_character 2 = .ok (.caload, 1) := by sorry
theorem d_Mo_character_3 : decode b_Mo_character 3 = .ok (.istore_n 3, 1) := by sorry
theorem d_Mo_character_4 : decode b_Mo_character 4 = .ok (.iload_n 3, 1) := by sorry
theorem d_Mo_character_5 : decode b_Mo_character 5 = .ok (.ldc 99, 2) := by sorry
theorem d_Mo_character_7 : decode b_Mo_character 7 = .ok (.if_icmp .lt 16, 3) := by sorry
theorem d_Mo_character_10 : decode b_Mo_character 10 = .ok (.iload_n 3, 1) := by sorry
theorem d_Mo_character_11 : decode b_Mo_character 11 = .ok (.ldc 100, 2) := by sorry
theorem d_Mo_character_13 : decode b_Mo_character 13 = .ok (.if_icmp .gt 10, 3) := by sorry
theorem d_Mo_character_16 : decode b_Mo_character 16 = .ok (.iload_n 1, 1) := by sorry
theorem d_Mo_character_17 : decode b_Mo_character 17 = .ok (.iconst 1, 1) := by sorry
theorem d_Mo_character_18 : decode b_Mo_character 18 = .ok (.iadd, 1) := by sorry
theorem d_Mo_character_19 : decode b_Mo_character 19 = .ok (.iload_n 2, 1) := by sorry
theorem d_Mo_character_20 : decode b_Mo_character 20 = .ok (.if_icmp .lt 5, 3) := by sorry
theorem d_Mo_character_23 : decode b_Mo_character 23 = .ok (.iload_n 3, 1) := by sorry
theorem d_Mo_character_24 : decode b_Mo_character 24 = .ok (.ireturn, 1) := by sorry
theorem d_Mo_character_25 : decode b_Mo_character 25 = .ok (.ldc 101, 2) := by sorry
theorem d_Mo_character_27 : decode b_Mo_character 27 = .ok (.iload_n 3, 1) := by sorry
theorem d_Mo_character_28 : decode b_Mo_character 28 = .ok (.ldc 99, 2) := by sorry
theorem d_Mo_character_30 : decode b_Mo_character 30 = .ok (.isub, 1) := by sorry
theorem d_Mo_character_31 : decode b_Mo_character 31 = .ok (.bipush 10, 2) := by sorry
theorem d_Mo_character_33 : decode b_Mo_character 33 = .ok (.ishl, 1) := by sorry
theorem d_Mo_character_34 : decode b_Mo_character 34 = .ok (.iadd, 1) := by sorry
theorem d_Mo_character_35 : decode b_Mo_character 35 = .ok (.aload_n 0, 1) := by sorry
theorem d_Mo_character_36 : decode b_Mo_character 36 = .ok (.iload_n 1, 1) := by sorry
theorem d_Mo_character_37 : decode b_Mo_character 37 = .ok (.iconst 1, 1) := by sorry
theorem d_Mo_character_38 : decode b_Mo_character 38 = .ok (.iadd, 1) := by sorry
theorem d_Mo_character_39 : decode b_Mo_character 39 = .ok (.caload, 1) := by sorry
theorem d_Mo_character_40 : decode b_Mo_character 40 = .ok (.iadd, 1) := by sorry
theorem d_Mo_character_41 : decode b_Mo_character 41 = .ok (.ldc 102, 2) := by sorry
theorem d_Mo_character_43 : decode b_Mo_character 43 = .ok (.isub, 1) := by sorry
theorem d_Mo_character_44 : decode b_Mo_character 44 = .ok (.ireturn, 1) := by sorry
set_option maxHeartbeats 4000000 in
set_option maxRecDepth 100000 in
/-- the reference: character -/
theorem c_Mo_character (l : Launch) (dC : Nat → ClassId) (dI : Nat → Nat → Nat) (sz : Heap) (cC : ClassId) (au U i en : Nat) (g : Nat → Int32) (hi : i < en) (he : en ≤ U) (hU : U ≤ 1000000) : Met l y_Mo_character (k_Mo_character :: gtbl) ({ frames := 0, cells := 0, slots := 0, locals := 0 }) (va_Pc [.ref au, .int (nI i), .int (nI en)] (mp dC dI [(au, .inl (cC, U, .inl g))] [(cC, .char)] sz)) (va_Qi (fun (r : Int32) (_ : Unit) => r = chV g i en) (fun _ => mz dC dI [(au, .inl (cC, U, .inl g))] [(cC, .char)] (va_A [(au, .inl (cC, U, .inl g))] sz.size)) (va_A [(au, .inl (cC, U, .inl g))] sz.size)) 0 0 (va_A [(au, .inl (cC, U, .inl g))] sz.size) := by sorry
end
section
abbrev b_Mo_wrap : ByteArray := prog_14_method_47_code
def y_Mo_wrap : MethodName := ⟨"QueryBenchModel", "wrap", "(I)I"⟩
abbrev k_Mo_wrap : Cond := .code y_Mo_wrap b_Mo_wrap 3 (some .int)
theorem i_Mo_wrap : k_Mo_wrap ∈ gtbl := by sorry
theorem d_Mo_wrap_0 : decode b_Mo_wrap 0 = .ok (.aload_n 0, 1) := by sorry
theorem d_Mo_wrap_1 : decode b_Mo_wrap 1 = .ok (.bipush 35, 2) := by sorry
theorem d_Mo_wrap_3 : decode b_Mo_wrap 3 = .ok (.invokevirtual 269, 3) := by sorry
theorem d_Mo_wrap_6 : decode b_Mo_wrap 6 = .ok (.istore_n 2, 1) := by sorry
theorem d_Mo_wrap_7 : decode b_Mo_wrap 7 = .ok (.aload_n 0, 1) := by sorry
theorem d_Mo_wrap_8 : decode b_Mo_wrap 8 = .ok (.iload_n 2, 1) := by sorry
theorem d_Mo_wrap_9 : decode b_Mo_wrap 9 = .ok (.iconst 2, 1) := by sorry
theorem d_Mo_wrap_10 : decode b_Mo_wrap 10 = .ok (.iload_n 1, 1) := by sorry
theorem d_Mo_wrap_11 : decode b_Mo_wrap 11 = .ok (.invokevirtual 272, 3) := by sorry
theorem d_Mo_wrap_14 : decode b_Mo_wrap 14 = .ok (.iload_n 2, 1) := by sorry
theorem d_Mo_wrap_15 : decode b_Mo_wrap 15 = .ok (.ireturn, 1) := by sorry
set_option maxHeartbeats 4000000 in
set_option maxRecDepth 100000 in
/-- the reference: wrap -/
theorem c_Mo_wrap (l : Launch) (dC : Nat → ClassId) (dI : Nat → Nat → Nat) (mo : Nat) (sz : Heap) (v : Nat → Value) (cB cI cL cC : ClassId) (qx NN : Nat) (f : Nat → Int32) (n : Nat) (K : Nat → Nat × Nat) (tv : Nat) (Q : QS) (V : TS) (o i : Nat) (br : Int32) (x9 : Nat) (hnN : n ≤ NN) (hNN : NN ≤ 4096) (hi0 : i ≤ n) (h6 : v 6 = .ref qx) (h8 : v 8 = .int (nI n)) (h22 : v 22 = .ref tv) (hQ : QOK Q) (hV : TOK V) (hcu : V.us + (n + 12 - i) ≤ 400000) (hcr : Q.R + 8 * (n - i) + 1 ≤ 40000) : Met l y_Mo_wrap (k_Mo_wrap :: gtbl) ({ frames := 2, cells := kcap Q (Q.R + 8 * (n - i) + 1) + qcap V (V.us + (n + 12 - i)), slots := 22 * kcap Q (Q.R + 8 * (n - i) + 1) + 2 * qcap V (V.us + (n + 12 - i)), locals := 60 }) (va_Pc [.ref mo, .int (nI x9)] (me K dC dI [(mo, .inr (13, MF 30 (rf (rs v Q o) i br))), (qx, .inl (cB, NN, .inl f)), (Q.qq, .inl (cI, (8 * Q.C), .inl Q.qf)), (Q.qe, .inl (cL, (3 * Q.C), .inr (.inl Q.ef))), (tv, .inr (12, MF 13 (tw V))), (V.au, .inl (cC, V.U, .inl V.un))] [(cB, .byte), (cI, .int), (cL, .long), (cC, .char)] sz)) (va_Qi (fun (res : Int32) (Q2 : QS) => res = nI Q.R ∧ QOK Q2 ∧ GQ (Q.R + 8 * (n - i) + 1) (V.us + (n + 12 - i)) Q V Q2 V ∧ Q2.R = Q.R + 1 ∧ alr Q V Q2 V 0 Q.R ∧ Q2.qf (8 * Q.R + 0) = 35 ∧ Q2.qf (8 * Q.R + 1) = -1 ∧ Q2.qf (8 * Q.R + 2) = nI x9) (fun Q2 t9 => mz dC dI [(mo, .inr (13, MF 30 (rf (rs v Q2 o) i br))), (qx, .inl (cB, NN, .inl f)), (Q2.qq, .inl (cI, (8 * Q2.C), .inl Q2.qf)), (Q2.qe, .inl (cL, (3 * Q2.C), .inr (.inl Q2.ef))), (tv, .inr (12, MF 13 (tw V))), (V.au, .inl (cC, V.U, .inl V.un))] [(cB, .byte), (cI, .int), (cL, .long), (cC, .char)] (va_A [(mo, .inr (13, MF 30 (rf (rs v Q o) i br))), (qx, .inl (cB, NN, .inl f)), (Q.qq, .inl (cI, (8 * Q.C), .inl Q.qf)), (Q.qe, .inl (cL, (3 * Q.C), .inr (.inl Q.ef))), (tv, .inr (12, MF 13 (tw V))), (V.au, .inl (cC, V.U, .inl V.un))] sz.size) t9 ∧ szk sz t9.heap (cQ Q V Q2 V) (sQ Q V Q2 V)) (va_A [(mo, .inr (13, MF 30 (rf (rs v Q o) i br))), (qx, .inl (cB, NN, .inl f)), (Q.qq, .inl (cI, (8 * Q.C), .inl Q.qf)), (Q.qe, .inl (cL, (3 * Q.C), .inr (.inl Q.ef))), (tv, .inr (12, MF 13 (tw V))), (V.au, .inl (cC, V.U, .inl V.un))] sz.size)) (kcap Q (Q.R + 8 * (n - i) + 1) + qcap V (V.us + (n + 12 - i))) (22 * kcap Q (Q.R + 8 * (n - i) + 1) + 2 * qcap V (V.us + (n + 12 - i))) (va_A [(mo, .inr (13, MF 30 (rf (rs v Q o) i br))), (qx, .inl (cB, NN, .inl f)), (Q.qq, .inl (cI, (8 * Q.C), .inl Q.qf)), (Q.qe, .inl (cL, (3 * Q.C), .inr (.inl Q.ef))), (tv, .inr (12, MF 13 (tw V))), (V.au, .inl (cC, V.U, .inl V.un))] sz.size) := by sorry
end
section
theorem ofN_0 {j : Nat} (hj : j < 2 ^ 62) : Int64.ofNat j = 0 ↔ j = 0 := by sorry
theorem ofN_pred {j : Nat} : Int64.ofNat (j + 1) - 1 = Int64.ofNat j := by sorry
def kidV (ks : List Nat) (j : Nat) : Int32 := match ks[j]? with
  | some a => nI a
  | none => -1
abbrev b_Mo_kidAt : ByteArray := prog_14_method_32_code
def y_Mo_kidAt : MethodName := ⟨"QueryBenchModel", "kidAt", "(IJ)I"⟩
abbrev k_Mo_kidAt : Cond := .code y_Mo_kidAt b_Mo_kidAt 7 (some .int)
theorem i_Mo_kidAt : k_Mo_kidAt ∈ gtbl := by sorry
theorem d_Mo_kidAt_0 : decode b_Mo_kidAt 0 = .ok (.lload_n 2, 1) := by sorry
theorem d_Mo_kidAt_1 : decode b_Mo_kidAt 1 = .ok (.lstore 4, 2) := by sorry
theorem d_Mo_kidAt_3 : decode b_Mo_kidAt 3 = .ok (.aload_n 0, 1) := by sorry
theorem d_Mo_kidAt_4 : decode b_Mo_kidAt 4 = .ok (.getfield 45, 3) := by sorry
theorem d_Mo_kidAt_7 : decode b_Mo_kidAt 7 = .ok (.getfield 75, 3) := by sorry
theorem d_Mo_kidAt_10 : decode b_Mo_kidAt 10 = .ok (.iload_n 1, 1) := by sorry
theorem d_Mo_kidAt_11 : decode b_Mo_kidAt 11 = .ok (.iaload, 1) := by sorry
theorem d_Mo_kidAt_12 : decode b_Mo_kidAt 12 = .ok (.istore 6, 2) := by sorry
theorem d_Mo_kidAt_14 : decode b_Mo_kidAt 14 = .ok (.iload 6, 2) := by sorry
theorem d_Mo_kidAt_16 : decode b_Mo_kidAt 16 = .ok (.ifCond .lt 34, 3) := by sorry
theorem d_Mo_kidAt_19 : decode b_Mo_kidAt 19 = .ok (.lload 4, 2) := by sorry
theorem d_Mo_kidAt_21 : decode b_Mo_kidAt 21 = .ok (.lconst 0, 1) := by sorry
theorem d_Mo_kidAt_22 : decode b_Mo_kidAt 22 = .ok (.lcmp, 1) := by sorry
theorem d_Mo_kidAt_23 : decode b_Mo_kidAt 23 = .ok (.ifCond .ne 6, 3) := by sorry
theorem d_Mo_kidAt_26 : decode b_Mo_kidAt 26 = .ok (.iload 6, 2) := by sorry
theorem d_Mo_kidAt_28 : decode b_Mo_kidAt 28 = .ok (.ireturn, 1) := by sorry
theorem d_Mo_kidAt_29 : decode b_Mo_kidAt 29 = .ok (.lload 4, 2) := by sorry
theorem d_Mo_kidAt_31 : decode b_Mo_kidAt 31 = .ok (.lconst 1, 1) := by sorry
theorem d_Mo_kidAt_32 : decode b_Mo_kidAt 32 = .ok (.lsub, 1) := by sorry
theorem d_Mo_kidAt_33 : decode b_Mo_kidAt 33 = .ok (.lstore 4, 2) := by sorry
theorem d_Mo_kidAt_35 : decode b_Mo_kidAt 35 = .ok (.aload_n 0, 1) := by sorry
theorem d_Mo_kidAt_36 : decode b_Mo_kidAt 36 = .ok (.getfield 45, 3) := by sorry
theorem d_Mo_kidAt_39 : decode b_Mo_kidAt 39 = .ok (.getfield 82, 3) := by sorry
theorem d_Mo_kidAt_42 : decode b_Mo_kidAt 42 = .ok (.iload 6, 2) := by sorry
theorem d_Mo_kidAt_44 : decode b_Mo_kidAt 44 = .ok (.iaload, 1) := by sorry
theorem d_Mo_kidAt_45 : decode b_Mo_kidAt 45 = .ok (.istore 6, 2) := by sorry
theorem d_Mo_kidAt_47 : decode b_Mo_kidAt 47 = .ok (.goto (-33), 3) := by sorry
theorem d_Mo_kidAt_50 : decode b_Mo_kidAt 50 = .ok (.iconst (-1), 1) := by sorry
theorem d_Mo_kidAt_51 : decode b_Mo_kidAt 51 = .ok (.ireturn, 1) := by sorry
set_option maxHeartbeats 4000000 in
set_option maxRecDepth 100000 in
/-- the reference: kidAt -/
theorem c_Mo_kidAt (l : Launch) (dC : Nat → ClassId) (dI : Nat → Nat → Nat) (mo : Nat) (sz : Heap) (v : Nat → Value) (cI : ClassId) (t : Nat) (T : TS) (nd j0 : Nat) (ks : List Nat) (hT : TOK T) (hk : nd < T.ct) (hj : j0 ≤ 1000000000) (hch : chn T.nx T.ct ks (T.ki nd)) (h18 : v 18 = .ref t) : Met l y_Mo_kidAt (k_Mo_kidAt :: gtbl) ({ frames := 0, cells := 0, slots := 0, locals := 0 }) (va_Pc [.ref mo, .int (nI nd), .long (Int64.ofNat j0)] (mp dC dI [(mo, .inr (13, MF 30 v)), (t, .inr (12, MF 13 (tw T))), (T.a4, .inl (cI, T.N, .inl T.ki)), (T.a5, .inl (cI, T.N, .inl T.nx))] [(cI, .int)] sz)) (va_Qi (fun (r : Int32) (_ : Unit) => r = kidV ks j0) (fun _ => mz dC dI [(mo, .inr (13, MF 30 v)), (t, .inr (12, MF 13 (tw T))), (T.a4, .inl (cI, T.N, .inl T.ki)), (T.a5, .inl (cI, T.N, .inl T.nx))] [(cI, .int)] (va_A [(mo, .inr (13, MF 30 v)), (t, .inr (12, MF 13 (tw T))), (T.a4, .inl (cI, T.N, .inl T.ki)), (T.a5, .inl (cI, T.N, .inl T.nx))] sz.size)) (va_A [(mo, .inr (13, MF 30 v)), (t, .inr (12, MF 13 (tw T))), (T.a4, .inl (cI, T.N, .inl T.ki)), (T.a5, .inl (cI, T.N, .inl T.nx))] sz.size)) 0 0 (va_A [(mo, .inr (13, MF 30 v)), (t, .inr (12, MF 13 (tw T))), (T.a4, .inl (cI, T.N, .inl T.ki)), (T.a5, .inl (cI, T.N, .inl T.nx))] sz.size) := by sorry
end
section
theorem w_1538 : (.methodLink "QueryBenchModel" 111 ⟨"QueryBenchModel", "character", "([CII)I"⟩ : Cond) ∈ gtbl := by sorry
theorem w_1539 : (.static ⟨"QueryBenchModel", "character", "([CII)I"⟩ : Cond) ∈ gtbl := by sorry
theorem w_1542 : (.constant "QueryBenchModel" 115 65535 : Cond) ∈ gtbl := by sorry
abbrev b_Mo_order : ByteArray := prog_14_method_4_code
def y_Mo_order : MethodName := ⟨"QueryBenchModel", "order", "(LQueryBenchModel$Tree;ILQueryBenchModel$Tree;I)I"⟩
abbrev k_Mo_order : Cond := .code y_Mo_order b_Mo_order 10 (some .int)
theorem i_Mo_order : k_Mo_order ∈ gtbl := by sorry
theorem d_Mo_order_0 : decode b_Mo_order 0 = .ok (.aload_n 0, 1) := by sorry
theorem d_Mo_order_1 : decode b_Mo_order 1 = .ok (.getfield 103, 3) := by sorry
theorem d_Mo_order_4 : decode b_Mo_order 4 = .ok (.iload_n 1, 1) := by sorry
theorem d_Mo_order_5 : decode b_Mo_order 5 = .ok (.iaload, 1) := by sorry
theorem d_Mo_order_6 : decode b_Mo_order 6 = .ok (.istore 4, 2) := by sorry
theorem d_Mo_order_8 : decode b_Mo_order 8 = .ok (.aload_n 2, 1) := by sorry
theorem d_Mo_order_9 : decode b_Mo_order 9 = .ok (.getfield 103, 3) := by sorry
theorem d_Mo_order_12 : decode b_Mo_order 12 = .ok (.iload_n 3, 1) := by sorry
theorem d_Mo_order_13 : decode b_Mo_order 13 = .ok (.iaload, 1) := by sorry
theorem d_Mo_order_14 : decode b_Mo_order 14 = .ok (.istore 5, 2) := by sorry
theorem d_Mo_order_16 : decode b_Mo_order 16 = .ok (.iload 4, 2) := by sorry
theorem d_Mo_order_18 : decode b_Mo_order 18 = .ok (.aload_n 0, 1) := by sorry
theorem d_Mo_order_19 : decode b_Mo_order 19 = .ok (.getfield 106, 3) := by sorry
theorem d_Mo_order_22 : decode b_Mo_order 22 = .ok (.iload_n 1, 1) := by sorry
theorem d_Mo_order_23 : decode b_Mo_order 23 = .ok (.iaload, 1) := by sorry
theorem d_Mo_order_24 : decode b_Mo_order 24 = .ok (.iadd, 1) := by sorry
theorem d_Mo_order_25 : decode b_Mo_order 25 = .ok (.istore 6, 2) := by sorry
theorem d_Mo_order_27 : decode b_Mo_order 27 = .ok (.iload 5, 2) := by sorry
theorem d_Mo_order_29 : decode b_Mo_order 29 = .ok (.aload_n 2, 1) := by sorry
theorem d_Mo_order_30 : decode b_Mo_order 30 = .ok (.getfield 106, 3) := by sorry
theorem d_Mo_order_33 : decode b_Mo_order 33 = .ok (.iload_n 3, 1) := by sorry
theorem d_Mo_order_34 : decode b_Mo_order 34 = .ok (.iaload, 1) := by sorry
theorem d_Mo_order_35 : decode b_Mo_order 35 = .ok (.iadd, 1) := by sorry
theorem d_Mo_order_36 : decode b_Mo_order 36 = .ok (.istore 7, 2) := by sorry
theorem d_Mo_order_38 : decode b_Mo_order 38 = .ok (.iload 4, 2) := by sorry
theorem d_Mo_order_40 : decode b_Mo_order 40 = .ok (.iload 6, 2) := by sorry
theorem d_Mo_order_42 : decode b_Mo_order 42 = .ok (.if_icmp .ge 93, 3) := by sorry
theorem d_Mo_order_45 : decode b_Mo_order 45 = .ok (.iload 5, 2) := by sorry
theorem d_Mo_order_47 : decode b_Mo_order 47 = .ok (.iload 7, 2) := by sorry
theorem d_Mo_order_49 : decode b_Mo_order 49 = .ok (.if_icmp .ge 86, 3) := by sorry
theorem d_Mo_order_52 : decode b_Mo_order 52 = .ok (.aload_n 0, 1) := by sorry
theorem d_Mo_order_53 : decode b_Mo_order 53 = .ok (.getfield 107, 3) := by sorry
theorem d_Mo_order_56 : decode b_Mo_order 56 = .ok (.iload 4, 2) := by sorry
theorem d_Mo_order_58 : decode b_Mo_order 58 = .ok (.iload 6, 2) := by sorry
theorem d_Mo_order_60 : decode b_Mo_order 60 = .ok (.invokestatic 111, 3) := by sorry
theorem d_Mo_order_63 : decode b_Mo_order 63 = .ok (.istore 8, 2) := by sorry
theorem d_Mo_order_65 : decode b_Mo_order 65 = .ok (.aload_n 2, 1) := by sorry
theorem d_Mo_order_66 : decode b_Mo_order 66 = .ok (.getfield 107, 3) := by sorry
theorem d_Mo_order_69 : decode b_Mo_order 69 = .ok (.iload 5, 2) := by sorry
theorem d_Mo_order_71 : decode b_Mo_order 71 = .ok (.iload 7, 2) := by sorry
theorem d_Mo_order_73 : decode b_Mo_order 73 = .ok (.invokestatic 111, 3) := by sorry
theorem d_Mo_order_76 : decode b_Mo_order 76 = .ok (.istore 9, 2) := by sorry
theorem d_Mo_order_78 : decode b_Mo_order 78 = .ok (.iload 8, 2) := by sorry
theorem d_Mo_order_80 : decode b_Mo_order 80 = .ok (.iload 9, 2) := by sorry
theorem d_Mo_order_82 : decode b_Mo_order 82 = .ok (.if_icmp .eq 16, 3) := by sorry
theorem d_Mo_order_85 : decode b_Mo_order 85 = .ok (.iload 8, 2) := by sorry
theorem d_Mo_order_87 : decode b_Mo_order 87 = .ok (.iload 9, 2) := by sorry
theorem d_Mo_order_89 : decode b_Mo_order 89 = .ok (.if_icmp .ge 7, 3) := by sorry
theorem d_Mo_order_92 : decode b_Mo_order 92 = .ok (.iconst (-1), 1) := by sorry
theorem d_Mo_order_93 : decode b_Mo_order 93 = .ok (.goto 4, 3) := by sorry
theorem d_Mo_order_96 : decode b_Mo_order 96 = .ok (.iconst 1, 1) := by sorry
theorem d_Mo_order_97 : decode b_Mo_order 97 = .ok (.ireturn, 1) := by sorry
theorem d_Mo_order_98 : decode b_Mo_order 98 = .ok (.iload 4, 2) := by sorry
theorem d_Mo_order_100 : decode b_Mo_order 100 = .ok (.iload 8, 2) := by sorry
theorem d_Mo_order_102 : decode b_Mo_order 102 = .ok (.ldc 115, 2) := by sorry
theorem d_Mo_order_104 : decode b_Mo_order 104 = .ok (.if_icmp .le 7, 3) := by sorry
theorem d_Mo_order_107 : decode b_Mo_order 107 = .ok (.iconst 2, 1) := by sorry
theorem d_Mo_order_108 : decode b_Mo_order 108 = .ok (.goto 4, 3) := by sorry
theorem d_Mo_order_111 : decode b_Mo_order 111 = .ok (.iconst 1, 1) := by sorry
theorem d_Mo_order_112 : decode b_Mo_order 112 = .ok (.iadd, 1) := by sorry
theorem d_Mo_order_113 : decode b_Mo_order 113 = .ok (.istore 4, 2) := by sorry
theorem d_Mo_order_115 : decode b_Mo_order 115 = .ok (.iload 5, 2) := by sorry
theorem d_Mo_order_117 : decode b_Mo_order 117 = .ok (.iload 9, 2) := by sorry
theorem d_Mo_order_119 : decode b_Mo_order 119 = .ok (.ldc 115, 2) := by sorry
theorem d_Mo_order_121 : decode b_Mo_order 121 = .ok (.if_icmp .le 7, 3) := by sorry
theorem d_Mo_order_124 : decode b_Mo_order 124 = .ok (.iconst 2, 1) := by sorry
theorem d_Mo_order_125 : decode b_Mo_order 125 = .ok (.goto 4, 3) := by sorry
theorem d_Mo_order_128 : decode b_Mo_order 128 = .ok (.iconst 1, 1) := by sorry
theorem d_Mo_order_129 : decode b_Mo_order 129 = .ok (.iadd, 1) := by sorry
theorem d_Mo_order_130 : decode b_Mo_order 130 = .ok (.istore 5, 2) := by sorry
theorem d_Mo_order_132 : decode b_Mo_order 132 = .ok (.goto (-94), 3) := by sorry
theorem d_Mo_order_135 : decode b_Mo_order 135 = .ok (.iload 4, 2) := by sorry
theorem d_Mo_order_137 : decode b_Mo_order 137 = .ok (.iload 6, 2) := by sorry
theorem d_Mo_order_139 : decode b_Mo_order 139 = .ok (.if_icmp .ge 7, 3) := by sorry
theorem d_Mo_order_142 : decode b_Mo_order 142 = .ok (.iconst 1, 1) := by sorry
theorem d_Mo_order_143 : decode b_Mo_order 143 = .ok (.goto 15, 3) := by sorry
theorem d_Mo_order_146 : decode b_Mo_order 146 = .ok (.iload 5, 2) := by sorry
theorem d_Mo_order_148 : decode b_Mo_order 148 = .ok (.iload 7, 2) := by sorry
theorem d_Mo_order_150 : decode b_Mo_order 150 = .ok (.if_icmp .ge 7, 3) := by sorry
theorem d_Mo_order_153 : decode b_Mo_order 153 = .ok (.iconst (-1), 1) := by sorry
theorem d_Mo_order_154 : decode b_Mo_order 154 = .ok (.goto 4, 3) := by sorry
theorem d_Mo_order_157 : decode b_Mo_order 157 = .ok (.iconst 0, 1) := by sorry
theorem d_Mo_order_158 : decode b_Mo_order 158 = .ok (.ireturn, 1) := by sorry
set_option maxHeartbeats 4000000 in
set_option maxRecDepth 100000 in
/-- the reference: order -/
theorem c_Mo_order (l : Launch) (dC : Nat → ClassId) (dI : Nat → Nat → Nat) (t : Nat) (sz : Heap) (cI cC : ClassId) (T : TS) (x9 y9 sx lx sy ly : Nat) (hT : TOK T) (hxc : x9 < T.ct) (hyc : y9 < T.ct) (hx1 : T.st x9 = nI sx) (hx2 : T.ln x9 = nI lx) (hx3 : sx + lx ≤ T.us) (hy1 : T.st y9 = nI sy) (hy2 : T.ln y9 = nI ly) (hy3 : sy + ly ≤ T.us) (hux : uOK (sl T.un sx lx)) (huy : uOK (sl T.un sy ly)) : Met l y_Mo_order (k_Mo_order :: gtbl) ({ frames := 1, cells := 0, slots := 0, locals := 30 }) (va_Pc [.ref t, .int (nI x9), .ref t, .int (nI y9)] (mp dC dI [(t, .inr (12, MF 13 (tw T))), (T.a2, .inl (cI, T.N, .inl T.st)), (T.a3, .inl (cI, T.N, .inl T.ln)), (T.au, .inl (cC, T.U, .inl T.un))] [(cI, .int), (cC, .char)] sz)) (va_Qi (fun (r : Int32) (_ : Unit) => r = ordV (sl T.un sx lx) (sl T.un sy ly)) (fun _ => mz dC dI [(t, .inr (12, MF 13 (tw T))), (T.a2, .inl (cI, T.N, .inl T.st)), (T.a3, .inl (cI, T.N, .inl T.ln)), (T.au, .inl (cC, T.U, .inl T.un))] [(cI, .int), (cC, .char)] (va_A [(t, .inr (12, MF 13 (tw T))), (T.a2, .inl (cI, T.N, .inl T.st)), (T.a3, .inl (cI, T.N, .inl T.ln)), (T.au, .inl (cC, T.U, .inl T.un))] sz.size)) (va_A [(t, .inr (12, MF 13 (tw T))), (T.a2, .inl (cI, T.N, .inl T.st)), (T.a3, .inl (cI, T.N, .inl T.ln)), (T.au, .inl (cC, T.U, .inl T.un))] sz.size)) 0 0 (va_A [(t, .inr (12, MF 13 (tw T))), (T.a2, .inl (cI, T.N, .inl T.st)), (T.a3, .inl (cI, T.N, .inl T.ln)), (T.au, .inl (cC, T.U, .inl T.un))] sz.size) := by sorry
end
section
theorem w_1091 : (.fieldLink "QueryBenchModel" 13 "QueryBenchModel" "result" "[B" : Cond) ∈ gtbl := by sorry
theorem w_1204 : (.constantLong "QueryBenchModel" 133 255 : Cond) ∈ gtbl := by sorry
theorem w255 (x : Int32) : (x &&& 255).toInt64 = x.toInt64 &&& 255 := by sorry
abbrev b_Mo_word : ByteArray := prog_14_method_10_code
def y_Mo_word : MethodName := ⟨"QueryBenchModel", "word", "(I)J"⟩
abbrev k_Mo_word : Cond := .code y_Mo_word b_Mo_word 5 (some .long)
theorem i_Mo_word : k_Mo_word ∈ gtbl := by sorry
theorem d_Mo_word_0 : decode b_Mo_word 0 = .ok (.aload_n 0, 1) := by sorry
theorem d_Mo_word_1 : decode b_Mo_word 1 = .ok (.iload_n 1, 1) := by sorry
theorem d_Mo_word_2 : decode b_Mo_word 2 = .ok (.ifCond .lt 15, 3) := by sorry
theorem d_Mo_word_5 : decode b_Mo_word 5 = .ok (.iload_n 1, 1) := by sorry
theorem d_Mo_word_6 : decode b_Mo_word 6 = .ok (.aload_n 0, 1) := by sorry
theorem d_Mo_word_7 : decode b_Mo_word 7 = .ok (.getfield 130, 3) := by sorry
theorem d_Mo_word_10 : decode b_Mo_word 10 = .ok (.if_icmp .ge 7, 3) := by sorry
theorem d_Mo_word_13 : decode b_Mo_word 13 = .ok (.iconst 1, 1) := by sorry
theorem d_Mo_word_14 : decode b_Mo_word 14 = .ok (.goto 4, 3) := by sorry
theorem d_Mo_word_17 : decode b_Mo_word 17 = .ok (.iconst 0, 1) := by sorry
theorem d_Mo_word_18 : decode b_Mo_word 18 = .ok (.iconst 1, 1) := by sorry
theorem d_Mo_word_19 : decode b_Mo_word 19 = .ok (.invokevirtual 122, 3) := by sorry
theorem d_Mo_word_22 : decode b_Mo_word 22 = .ok (.ifCond .ne 5, 3) := by sorry
theorem d_Mo_word_25 : decode b_Mo_word 25 = .ok (.lconst 0, 1) := by sorry
theorem d_Mo_word_26 : decode b_Mo_word 26 = .ok (.lreturn, 1) := by sorry
theorem d_Mo_word_27 : decode b_Mo_word 27 = .ok (.lconst 0, 1) := by sorry
theorem d_Mo_word_28 : decode b_Mo_word 28 = .ok (.lstore_n 2, 1) := by sorry
theorem d_Mo_word_29 : decode b_Mo_word 29 = .ok (.iload_n 1, 1) := by sorry
theorem d_Mo_word_30 : decode b_Mo_word 30 = .ok (.istore 4, 2) := by sorry
theorem d_Mo_word_32 : decode b_Mo_word 32 = .ok (.iload 4, 2) := by sorry
theorem d_Mo_word_34 : decode b_Mo_word 34 = .ok (.iload_n 1, 1) := by sorry
theorem d_Mo_word_35 : decode b_Mo_word 35 = .ok (.bipush 8, 2) := by sorry
theorem d_Mo_word_37 : decode b_Mo_word 37 = .ok (.iadd, 1) := by sorry
theorem d_Mo_word_38 : decode b_Mo_word 38 = .ok (.if_icmp .ge 40, 3) := by sorry
theorem d_Mo_word_41 : decode b_Mo_word 41 = .ok (.lload_n 2, 1) := by sorry
theorem d_Mo_word_42 : decode b_Mo_word 42 = .ok (.bipush 8, 2) := by sorry
theorem d_Mo_word_44 : decode b_Mo_word 44 = .ok (.lshl, 1) := by sorry
theorem d_Mo_word_45 : decode b_Mo_word 45 = .ok (.iload 4, 2) := by sorry
theorem d_Mo_word_47 : decode b_Mo_word 47 = .ok (.aload_n 0, 1) := by sorry
theorem d_Mo_word_48 : decode b_Mo_word 48 = .ok (.getfield 130, 3) := by sorry
theorem d_Mo_word_51 : decode b_Mo_word 51 = .ok (.if_icmp .ge 18, 3) := by sorry
theorem d_Mo_word_54 : decode b_Mo_word 54 = .ok (.aload_n 0, 1) := by sorry
theorem d_Mo_word_55 : decode b_Mo_word 55 = .ok (.getfield 13, 3) := by sorry
theorem d_Mo_word_58 : decode b_Mo_word 58 = .ok (.iload 4, 2) := by sorry
theorem d_Mo_word_60 : decode b_Mo_word 60 = .ok (.baload, 1) := by sorry
theorem d_Mo_word_61 : decode b_Mo_word 61 = .ok (.i2l, 1) := by sorry
theorem d_Mo_word_62 : decode b_Mo_word 62 = .ok (.ldc2_w 133, 3) := by sorry
theorem d_Mo_word_65 : decode b_Mo_word 65 = .ok (.land, 1) := by sorry
theorem d_Mo_word_66 : decode b_Mo_word 66 = .ok (.goto 4, 3) := by sorry
theorem d_Mo_word_69 : decode b_Mo_word 69 = .ok (.lconst 0, 1) := by sorry
theorem d_Mo_word_70 : decode b_Mo_word 70 = .ok (.lor, 1) := by sorry
theorem d_Mo_word_71 : decode b_Mo_word 71 = .ok (.lstore_n 2, 1) := by sorry
theorem d_Mo_word_72 : decode b_Mo_word 72 = .ok (.iinc 4 1, 3) := by sorry
theorem d_Mo_word_75 : decode b_Mo_word 75 = .ok (.goto (-43), 3) := by sorry
theorem d_Mo_word_78 : decode b_Mo_word 78 = .ok (.lload_n 2, 1) := by sorry
theorem d_Mo_word_79 : decode b_Mo_word 79 = .ok (.lreturn, 1) := by sorry
set_option maxHeartbeats 4000000 in
set_option maxRecDepth 100000 in
/-- the reference: word(i) -/
theorem c_Mo_word (l : Launch) (dC : Nat → ClassId) (dI : Nat → Nat → Nat) (mo : Nat) (sz : Heap) (v : Nat → Value) (cB : ClassId) (qr rl : Nat) (f : Nat → Int32) (ii : Int32) (hrl : rl ≤ 16384) (h2 : v 2 = .ref qr) (h3 : v 3 = .int (nI rl)) : Met l y_Mo_word (k_Mo_word :: gtbl) ({ frames := 1, cells := 0, slots := 0, locals := 24 }) (va_Pc [.ref mo, .int ii] (mp dC dI [(mo, .inr (13, MF 30 v)), (qr, .inl (cB, 16384, .inl f))] [(cB, .byte)] sz)) (va_Ql (fun (r : Int64) (u : Nat → Value) => (∃ k9, k9 < rl ∧ ii = nI k9 ∧ r = wdC f rl 8 k9 0 ∧ u = va_up v 4 (.int 0)) ∨ (¬ (¬ ii < 0 ∧ ii < nI rl) ∧ u = va_up v 4 (.int 1))) (fun u t9 => mz dC dI [(mo, .inr (13, MF 30 u)), (qr, .inl (cB, 16384, .inl f))] [(cB, .byte)] (va_A [(mo, .inr (13, MF 30 v)), (qr, .inl (cB, 16384, .inl f))] sz.size) t9) (va_A [(mo, .inr (13, MF 30 v)), (qr, .inl (cB, 16384, .inl f))] sz.size)) 0 0 (va_A [(mo, .inr (13, MF 30 v)), (qr, .inl (cB, 16384, .inl f))] sz.size) := by sorry
end
section
theorem w_1548 : (.methodLink "QueryBenchModel$Tree" 69 ⟨"QueryBenchModel$Tree", "unit", "(I)V"⟩ : Cond) ∈ gtbl := by sorry
abbrev b_Tree_name : ByteArray := prog_15_method_14_code
def y_Tree_name : MethodName := ⟨"QueryBenchModel$Tree", "name", "(ILQueryBenchModel$Tree;II)V"⟩
abbrev k_Tree_name : Cond := .code y_Tree_name b_Tree_name 6 none
theorem i_Tree_name : k_Tree_name ∈ gtbl := by sorry
theorem d_Tree_name_0 : decode b_Tree_name 0 = .ok (.aload_n 0, 1) := by sorry
theorem d_Tree_name_1 : decode b_Tree_name 1 = .ok (.getfield 31, 3) := by sorry
theorem d_Tree_name_4 : decode b_Tree_name 4 = .ok (.iload_n 1, 1) := by sorry
theorem d_Tree_name_5 : decode b_Tree_name 5 = .ok (.aload_n 0, 1) := by sorry
theorem d_Tree_name_6 : decode b_Tree_name 6 = .ok (.getfield 51, 3) := by sorry
theorem d_Tree_name_9 : decode b_Tree_name 9 = .ok (.iastore, 1) := by sorry
theorem d_Tree_name_10 : decode b_Tree_name 10 = .ok (.aload_n 0, 1) := by sorry
theorem d_Tree_name_11 : decode b_Tree_name 11 = .ok (.getfield 34, 3) := by sorry
theorem d_Tree_name_14 : decode b_Tree_name 14 = .ok (.iload_n 1, 1) := by sorry
theorem d_Tree_name_15 : decode b_Tree_name 15 = .ok (.iload 4, 2) := by sorry
theorem d_Tree_name_17 : decode b_Tree_name 17 = .ok (.iastore, 1) := by sorry
theorem d_Tree_name_18 : decode b_Tree_name 18 = .ok (.iconst 0, 1) := by sorry
theorem d_Tree_name_19 : decode b_Tree_name 19 = .ok (.istore 5, 2) := by sorry
theorem d_Tree_name_21 : decode b_Tree_name 21 = .ok (.iload 5, 2) := by sorry
theorem d_Tree_name_23 : decode b_Tree_name 23 = .ok (.iload 4, 2) := by sorry
theorem d_Tree_name_25 : decode b_Tree_name 25 = .ok (.if_icmp .ge 22, 3) := by sorry
theorem d_Tree_name_28 : decode b_Tree_name 28 = .ok (.aload_n 0, 1) := by sorry
theorem d_Tree_name_29 : decode b_Tree_name 29 = .ok (.aload_n 2, 1) := by sorry
theorem d_Tree_name_30 : decode b_Tree_name 30 = .ok (.getfield 43, 3) := by sorry
theorem d_Tree_name_33 : decode b_Tree_name 33 = .ok (.iload_n 3, 1) := by sorry
theorem d_Tree_name_34 : decode b_Tree_name 34 = .ok (.iload 5, 2) := by sorry
theorem d_Tree_name_36 : decode b_Tree_name 36 = .ok (.iadd, 1) := by sorry
theorem d_Tree_name_37 : decode b_Tree_name 37 = .ok (.caload, 1) := by sorry
theorem d_Tree_name_38 : decode b_Tree_name 38 = .ok (.invokevirtual 69, 3) := by sorry
theorem d_Tree_name_41 : decode b_Tree_name 41 = .ok (.iinc 5 1, 3) := by sorry
theorem d_Tree_name_44 : decode b_Tree_name 44 = .ok (.goto (-23), 3) := by sorry
theorem d_Tree_name_47 : decode b_Tree_name 47 = .ok (.return_, 1) := by sorry
set_option maxHeartbeats 4000000 in
set_option maxRecDepth 100000 in
/-- Tree.name -/
theorem c_Tree_name (l : Launch) (dC : Nat → ClassId) (dI : Nat → Nat → Nat) (t tv : Nat) (sz : Heap) (cI cC : ClassId) (T V : TS) (x9 s2 L2 : Nat) (hT : TOK T) (hV : TOK V) (hx9 : x9 < T.ct) (hs2 : s2 + L2 ≤ V.us) (hcu : T.us + L2 ≤ 400000) : Met l y_Tree_name (k_Tree_name :: gtbl) ({ frames := 1, cells := qcap T (T.us + L2), slots := 2 * qcap T (T.us + L2), locals := 30 }) (va_Pc [.ref t, .int (nI x9), .ref tv, .int (nI s2), .int (nI L2)] (mp dC dI [(t, .inr (12, MF 13 (tw T))), (T.a6, .inl (cI, T.N, .inl T.ns)), (T.a7, .inl (cI, T.N, .inl T.nl)), (T.au, .inl (cC, T.U, .inl T.un)), (tv, .inr (12, MF 13 (tw V))), (V.au, .inl (cC, V.U, .inl V.un))] [(cI, .int), (cC, .char)] sz)) (va_Qv (fun (u : TS × List Int32) => TX T u.1 u.2 ∧ u.2.length = L2 ∧ u.2 = sl V.un s2 L2) (fun u t9 => mz dC dI [(t, .inr (12, MF 13 (tw u.1))), (T.a6, .inl (cI, T.N, .inl (upd T.ns x9 (nI T.us)))), (T.a7, .inl (cI, T.N, .inl (upd T.nl x9 (nI L2)))), (u.1.au, .inl (cC, u.1.U, .inl u.1.un)), (tv, .inr (12, MF 13 (tw V))), (V.au, .inl (cC, V.U, .inl V.un))] [(cI, .int), (cC, .char)] (va_A [(t, .inr (12, MF 13 (tw T))), (T.a6, .inl (cI, T.N, .inl T.ns)), (T.a7, .inl (cI, T.N, .inl T.nl)), (T.au, .inl (cC, T.U, .inl T.un)), (tv, .inr (12, MF 13 (tw V))), (V.au, .inl (cC, V.U, .inl V.un))] sz.size) t9 ∧ szk sz t9.heap (u.1.U - T.U) (2 * (u.1.U - T.U))) (va_A [(t, .inr (12, MF 13 (tw T))), (T.a6, .inl (cI, T.N, .inl T.ns)), (T.a7, .inl (cI, T.N, .inl T.nl)), (T.au, .inl (cC, T.U, .inl T.un)), (tv, .inr (12, MF 13 (tw V))), (V.au, .inl (cC, V.U, .inl V.un))] sz.size)) (qcap T (T.us + L2)) (2 * qcap T (T.us + L2)) (va_A [(t, .inr (12, MF 13 (tw T))), (T.a6, .inl (cI, T.N, .inl T.ns)), (T.a7, .inl (cI, T.N, .inl T.nl)), (T.au, .inl (cC, T.U, .inl T.un)), (tv, .inr (12, MF 13 (tw V))), (V.au, .inl (cC, V.U, .inl V.un))] sz.size) := by sorry
end
