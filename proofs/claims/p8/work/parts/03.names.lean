def R_Condition : String := "QueryBench$Condition"
def F_Condition : u_T := fun k => match k with
  | 0 => ("QueryBench$Condition", "kind", "I", true)
  | 1 => ("QueryBench$Condition", "first", "LQueryBench$Condition;", false)
  | 2 => ("QueryBench$Condition", "next", "LQueryBench$Condition;", false)
  | 3 => ("QueryBench$Condition", "query", "LQueryBench$Query;", false)
  | 4 => ("QueryBench$Condition", "left", "LQueryBench$Operand;", false)
  | _ => ("QueryBench$Condition", "right", "LQueryBench$Operand;", false)
def t_Condition : Nat → FieldType := fun k => match k with
  | 0 => .int
  | 1 => .object "QueryBench$Condition"
  | 2 => .object "QueryBench$Condition"
  | 3 => .object "QueryBench$Query"
  | 4 => .object "QueryBench$Operand"
  | _ => .object "QueryBench$Operand"
theorem n_Condition : ∀ a, a < 6 → ∀ b, b < 6 → a ≠ b → (F_Condition a).2.1 ≠ (F_Condition b).2.1 := by decide +kernel
theorem t_Condition_ok : ∀ k, k < 6 → parseFieldDescriptor (F_Condition k).2.2.1 = some (t_Condition k) := by decide +kernel
def R_JsonReader : String := "QueryBench$JsonReader"
def F_JsonReader : u_T := fun k => match k with
  | 0 => ("QueryBench$JsonReader", "tape", "LQueryBench$Tape;", true)
  | 1 => ("QueryBench$JsonReader", "deepest", "I", false)
  | 2 => ("QueryBench$JsonReader", "made", "I", false)
  | _ => ("QueryBench$JsonReader", "latest", "LQueryBench$Value;", false)
def t_JsonReader : Nat → FieldType := fun k => match k with
  | 0 => .object "QueryBench$Tape"
  | 1 => .int
  | 2 => .int
  | _ => .object "QueryBench$Value"
theorem n_JsonReader : ∀ a, a < 4 → ∀ b, b < 4 → a ≠ b → (F_JsonReader a).2.1 ≠ (F_JsonReader b).2.1 := by decide +kernel
theorem t_JsonReader_ok : ∀ k, k < 4 → parseFieldDescriptor (F_JsonReader k).2.2.1 = some (t_JsonReader k) := by decide +kernel
def R_Operand : String := "QueryBench$Operand"
def F_Operand : u_T := fun k => match k with
  | 0 => ("QueryBench$Operand", "kind", "I", true)
  | 1 => ("QueryBench$Operand", "value", "LQueryBench$Value;", true)
  | 2 => ("QueryBench$Operand", "query", "LQueryBench$Query;", false)
  | _ => ("QueryBench$Operand", "inner", "LQueryBench$Operand;", false)
def t_Operand : Nat → FieldType := fun k => match k with
  | 0 => .int
  | 1 => .object "QueryBench$Value"
  | 2 => .object "QueryBench$Query"
  | _ => .object "QueryBench$Operand"
theorem n_Operand : ∀ a, a < 4 → ∀ b, b < 4 → a ≠ b → (F_Operand a).2.1 ≠ (F_Operand b).2.1 := by decide +kernel
theorem t_Operand_ok : ∀ k, k < 4 → parseFieldDescriptor (F_Operand k).2.2.1 = some (t_Operand k) := by decide +kernel
def R_Printer : String := "QueryBench$Printer"
def F_Printer : u_T := fun k => match k with
  | 0 => ("QueryBench$Printer", "bytes", "[B", true)
  | 1 => ("QueryBench$Printer", "length", "I", false)
  | _ => ("QueryBench$Printer", "steps", "[LQueryBench$Value;", true)
def t_Printer : Nat → FieldType := fun k => match k with
  | 0 => .array .byte
  | 1 => .int
  | _ => .array (.object "QueryBench$Value")
theorem n_Printer : ∀ a, a < 3 → ∀ b, b < 3 → a ≠ b → (F_Printer a).2.1 ≠ (F_Printer b).2.1 := by decide +kernel
theorem t_Printer_ok : ∀ k, k < 3 → parseFieldDescriptor (F_Printer k).2.2.1 = some (t_Printer k) := by decide +kernel
def R_Query : String := "QueryBench$Query"
def F_Query : u_T := fun k => match k with
  | 0 => ("QueryBench$Query", "fromRoot", "Z", true)
  | 1 => ("QueryBench$Query", "singular", "Z", false)
  | 2 => ("QueryBench$Query", "first", "LQueryBench$Segment;", false)
  | _ => ("QueryBench$Query", "last", "LQueryBench$Segment;", false)
def t_Query : Nat → FieldType := fun k => match k with
  | 0 => .boolean
  | 1 => .boolean
  | 2 => .object "QueryBench$Segment"
  | _ => .object "QueryBench$Segment"
theorem n_Query : ∀ a, a < 4 → ∀ b, b < 4 → a ≠ b → (F_Query a).2.1 ≠ (F_Query b).2.1 := by decide +kernel
theorem t_Query_ok : ∀ k, k < 4 → parseFieldDescriptor (F_Query k).2.2.1 = some (t_Query k) := by decide +kernel
def R_QueryReader : String := "QueryBench$QueryReader"
def F_QueryReader : u_T := fun k => match k with
  | 0 => ("QueryBench$QueryReader", "tape", "LQueryBench$Tape;", true)
  | _ => ("QueryBench$QueryReader", "open", "I", false)
def t_QueryReader : Nat → FieldType := fun k => match k with
  | 0 => .object "QueryBench$Tape"
  | _ => .int
theorem n_QueryReader : ∀ a, a < 2 → ∀ b, b < 2 → a ≠ b → (F_QueryReader a).2.1 ≠ (F_QueryReader b).2.1 := by decide +kernel
theorem t_QueryReader_ok : ∀ k, k < 2 → parseFieldDescriptor (F_QueryReader k).2.2.1 = some (t_QueryReader k) := by decide +kernel
def R_Segment : String := "QueryBench$Segment"
def F_Segment : u_T := fun k => match k with
  | 0 => ("QueryBench$Segment", "descends", "Z", false)
  | 1 => ("QueryBench$Segment", "first", "LQueryBench$Selector;", false)
  | _ => ("QueryBench$Segment", "next", "LQueryBench$Segment;", false)
def t_Segment : Nat → FieldType := fun k => match k with
  | 0 => .boolean
  | 1 => .object "QueryBench$Selector"
  | _ => .object "QueryBench$Segment"
theorem n_Segment : ∀ a, a < 3 → ∀ b, b < 3 → a ≠ b → (F_Segment a).2.1 ≠ (F_Segment b).2.1 := by decide +kernel
theorem t_Segment_ok : ∀ k, k < 3 → parseFieldDescriptor (F_Segment k).2.2.1 = some (t_Segment k) := by decide +kernel
def R_Selector : String := "QueryBench$Selector"
def F_Selector : u_T := fun k => match k with
  | 0 => ("QueryBench$Selector", "kind", "I", false)
  | 1 => ("QueryBench$Selector", "name", "[I", false)
  | 2 => ("QueryBench$Selector", "hasStart", "Z", false)
  | 3 => ("QueryBench$Selector", "hasStop", "Z", false)
  | 4 => ("QueryBench$Selector", "start", "J", false)
  | 5 => ("QueryBench$Selector", "stop", "J", false)
  | 6 => ("QueryBench$Selector", "step", "J", false)
  | 7 => ("QueryBench$Selector", "filter", "LQueryBench$Condition;", false)
  | _ => ("QueryBench$Selector", "next", "LQueryBench$Selector;", false)
def t_Selector : Nat → FieldType := fun k => match k with
  | 0 => .int
  | 1 => .array .int
  | 2 => .boolean
  | 3 => .boolean
  | 4 => .long
  | 5 => .long
  | 6 => .long
  | 7 => .object "QueryBench$Condition"
  | _ => .object "QueryBench$Selector"
theorem n_Selector : ∀ a, a < 9 → ∀ b, b < 9 → a ≠ b → (F_Selector a).2.1 ≠ (F_Selector b).2.1 := by decide +kernel
theorem t_Selector_ok : ∀ k, k < 9 → parseFieldDescriptor (F_Selector k).2.2.1 = some (t_Selector k) := by decide +kernel
def R_Tape : String := "QueryBench$Tape"
def F_Tape : u_T := fun k => match k with
  | 0 => ("QueryBench$Tape", "bytes", "[B", true)
  | 1 => ("QueryBench$Tape", "units", "[I", true)
  | 2 => ("QueryBench$Tape", "unitCount", "I", false)
  | 3 => ("QueryBench$Tape", "length", "I", false)
  | 4 => ("QueryBench$Tape", "end", "I", false)
  | 5 => ("QueryBench$Tape", "at", "I", false)
  | _ => ("QueryBench$Tape", "place", "I", false)
def t_Tape : Nat → FieldType := fun k => match k with
  | 0 => .array .byte
  | 1 => .array .int
  | 2 => .int
  | 3 => .int
  | 4 => .int
  | 5 => .int
  | _ => .int
theorem n_Tape : ∀ a, a < 7 → ∀ b, b < 7 → a ≠ b → (F_Tape a).2.1 ≠ (F_Tape b).2.1 := by decide +kernel
theorem t_Tape_ok : ∀ k, k < 7 → parseFieldDescriptor (F_Tape k).2.2.1 = some (t_Tape k) := by decide +kernel
def R_Value : String := "QueryBench$Value"
def F_Value : u_T := fun k => match k with
  | 0 => ("QueryBench$Value", "kind", "I", false)
  | 1 => ("QueryBench$Value", "number", "J", false)
  | 2 => ("QueryBench$Value", "text", "[I", false)
  | 3 => ("QueryBench$Value", "members", "[LQueryBench$Value;", false)
  | 4 => ("QueryBench$Value", "parent", "LQueryBench$Value;", false)
  | 5 => ("QueryBench$Value", "name", "[I", false)
  | 6 => ("QueryBench$Value", "index", "I", false)
  | 7 => ("QueryBench$Value", "nextMember", "LQueryBench$Value;", false)
  | 8 => ("QueryBench$Value", "nextOfAll", "LQueryBench$Value;", false)
  | _ => ("QueryBench$Value", "span", "I", false)
def t_Value : Nat → FieldType := fun k => match k with
  | 0 => .int
  | 1 => .long
  | 2 => .array .int
  | 3 => .array (.object "QueryBench$Value")
  | 4 => .object "QueryBench$Value"
  | 5 => .array .int
  | 6 => .int
  | 7 => .object "QueryBench$Value"
  | 8 => .object "QueryBench$Value"
  | _ => .int
theorem n_Value : ∀ a, a < 10 → ∀ b, b < 10 → a ≠ b → (F_Value a).2.1 ≠ (F_Value b).2.1 := by decide +kernel
theorem t_Value_ok : ∀ k, k < 10 → parseFieldDescriptor (F_Value k).2.2.1 = some (t_Value k) := by decide +kernel
def R_Walk : String := "QueryBench$Walk"
def F_Walk : u_T := fun k => match k with
  | 0 => ("QueryBench$Walk", "list", "[LQueryBench$Value;", true)
  | 1 => ("QueryBench$Walk", "top", "I", false)
  | 2 => ("QueryBench$Walk", "spent", "I", false)
  | _ => ("QueryBench$Walk", "root", "LQueryBench$Value;", false)
def t_Walk : Nat → FieldType := fun k => match k with
  | 0 => .array (.object "QueryBench$Value")
  | 1 => .int
  | 2 => .int
  | _ => .object "QueryBench$Value"
theorem n_Walk : ∀ a, a < 4 → ∀ b, b < 4 → a ≠ b → (F_Walk a).2.1 ≠ (F_Walk b).2.1 := by decide +kernel
theorem t_Walk_ok : ∀ k, k < 4 → parseFieldDescriptor (F_Walk k).2.2.1 = some (t_Walk k) := by decide +kernel
def R_QB : String := "QueryBench"
def F_QB : u_T := fun k => match k with
  | 0 => ("QueryBench", "tape", "LQueryBench$Tape;", true)
  | 1 => ("QueryBench", "jsonReader", "LQueryBench$JsonReader;", true)
  | 2 => ("QueryBench", "queryReader", "LQueryBench$QueryReader;", true)
  | 3 => ("QueryBench", "walk", "LQueryBench$Walk;", true)
  | 4 => ("QueryBench", "documents", "[LQueryBench$Value;", true)
  | 5 => ("QueryBench", "query", "LQueryBench$Query;", false)
  | 6 => ("QueryBench", "result", "LQueryBench$Printer;", false)
  | _ => ("QueryBench", "draft", "LQueryBench$Printer;", false)
def t_QB : Nat → FieldType := fun k => match k with
  | 0 => .object "QueryBench$Tape"
  | 1 => .object "QueryBench$JsonReader"
  | 2 => .object "QueryBench$QueryReader"
  | 3 => .object "QueryBench$Walk"
  | 4 => .array (.object "QueryBench$Value")
  | 5 => .object "QueryBench$Query"
  | 6 => .object "QueryBench$Printer"
  | _ => .object "QueryBench$Printer"
theorem n_QB : ∀ a, a < 8 → ∀ b, b < 8 → a ≠ b → (F_QB a).2.1 ≠ (F_QB b).2.1 := by decide +kernel
theorem t_QB_ok : ∀ k, k < 8 → parseFieldDescriptor (F_QB k).2.2.1 = some (t_QB k) := by decide +kernel
def R_Tree : String := "QueryBenchModel$Tree"
def F_Tree : u_T := fun k => match k with
  | 0 => ("QueryBenchModel$Tree", "kinds", "[I", false)
  | 1 => ("QueryBenchModel$Tree", "numbers", "[J", false)
  | 2 => ("QueryBenchModel$Tree", "starts", "[I", false)
  | 3 => ("QueryBenchModel$Tree", "lengths", "[I", false)
  | 4 => ("QueryBenchModel$Tree", "kids", "[I", false)
  | 5 => ("QueryBenchModel$Tree", "nexts", "[I", false)
  | 6 => ("QueryBenchModel$Tree", "nameStarts", "[I", false)
  | 7 => ("QueryBenchModel$Tree", "nameLengths", "[I", false)
  | 8 => ("QueryBenchModel$Tree", "parents", "[I", false)
  | 9 => ("QueryBenchModel$Tree", "places", "[I", false)
  | 10 => ("QueryBenchModel$Tree", "count", "I", false)
  | 11 => ("QueryBenchModel$Tree", "units", "[C", false)
  | _ => ("QueryBenchModel$Tree", "used", "I", false)
def t_Tree : Nat → FieldType := fun k => match k with
  | 0 => .array .int
  | 1 => .array .long
  | 2 => .array .int
  | 3 => .array .int
  | 4 => .array .int
  | 5 => .array .int
  | 6 => .array .int
  | 7 => .array .int
  | 8 => .array .int
  | 9 => .array .int
  | 10 => .int
  | 11 => .array .char
  | _ => .int
theorem n_Tree : ∀ a, a < 13 → ∀ b, b < 13 → a ≠ b → (F_Tree a).2.1 ≠ (F_Tree b).2.1 := by decide +kernel
theorem t_Tree_ok : ∀ k, k < 13 → parseFieldDescriptor (F_Tree k).2.2.1 = some (t_Tree k) := by decide +kernel
def R_Mo : String := "QueryBenchModel"
def F_Mo : u_T := fun k => match k with
  | 0 => ("QueryBenchModel", "tape", "[B", true)
  | 1 => ("QueryBenchModel", "taped", "I", false)
  | 2 => ("QueryBenchModel", "result", "[B", true)
  | 3 => ("QueryBenchModel", "length", "I", false)
  | 4 => ("QueryBenchModel", "code", "I", false)
  | 5 => ("QueryBenchModel", "place", "I", false)
  | 6 => ("QueryBenchModel", "text", "[B", false)
  | 7 => ("QueryBenchModel", "at", "I", false)
  | 8 => ("QueryBenchModel", "stop", "I", false)
  | 9 => ("QueryBenchModel", "broken", "I", false)
  | 10 => ("QueryBenchModel", "out", "[B", true)
  | 11 => ("QueryBenchModel", "written", "I", false)
  | 12 => ("QueryBenchModel", "over", "Z", false)
  | 13 => ("QueryBenchModel", "held", "[[B", true)
  | 14 => ("QueryBenchModel", "lengths", "[I", true)
  | 15 => ("QueryBenchModel", "there", "[Z", true)
  | 16 => ("QueryBenchModel", "queryText", "[B", true)
  | 17 => ("QueryBenchModel", "queryLength", "I", false)
  | 18 => ("QueryBenchModel", "document", "LQueryBenchModel$Tree;", true)
  | 19 => ("QueryBenchModel", "q", "[I", false)
  | 20 => ("QueryBenchModel", "ends", "[J", false)
  | 21 => ("QueryBenchModel", "rows", "I", false)
  | 22 => ("QueryBenchModel", "said", "LQueryBenchModel$Tree;", true)
  | 23 => ("QueryBenchModel", "opened", "I", false)
  | 24 => ("QueryBenchModel", "list", "[I", true)
  | 25 => ("QueryBenchModel", "top", "I", false)
  | 26 => ("QueryBenchModel", "done", "I", false)
  | 27 => ("QueryBenchModel", "tooMuch", "Z", false)
  | 28 => ("QueryBenchModel", "rootNode", "I", false)
  | _ => ("QueryBenchModel", "values", "LQueryBenchModel$Tree;", true)
def t_Mo : Nat → FieldType := fun k => match k with
  | 0 => .array .byte
  | 1 => .int
  | 2 => .array .byte
  | 3 => .int
  | 4 => .int
  | 5 => .int
  | 6 => .array .byte
  | 7 => .int
  | 8 => .int
  | 9 => .int
  | 10 => .array .byte
  | 11 => .int
  | 12 => .boolean
  | 13 => .array (.array .byte)
  | 14 => .array .int
  | 15 => .array .boolean
  | 16 => .array .byte
  | 17 => .int
  | 18 => .object "QueryBenchModel$Tree"
  | 19 => .array .int
  | 20 => .array .long
  | 21 => .int
  | 22 => .object "QueryBenchModel$Tree"
  | 23 => .int
  | 24 => .array .int
  | 25 => .int
  | 26 => .int
  | 27 => .boolean
  | 28 => .int
  | _ => .object "QueryBenchModel$Tree"
theorem n_Mo : ∀ a, a < 30 → ∀ b, b < 30 → a ≠ b → (F_Mo a).2.1 ≠ (F_Mo b).2.1 := by decide +kernel
theorem t_Mo_ok : ∀ k, k < 30 → parseFieldDescriptor (F_Mo k).2.2.1 = some (t_Mo k) := by decide +kernel
def R_Law : String := "QueryBenchLaw"
abbrev classes : List vw_C := [(R_Condition, F_Condition, 6), (R_JsonReader, F_JsonReader, 4), (R_Operand, F_Operand, 4), (R_Printer, F_Printer, 3), (R_Query, F_Query, 4), (R_QueryReader, F_QueryReader, 2), (R_Segment, F_Segment, 3), (R_Selector, F_Selector, 9), (R_Tape, F_Tape, 7), (R_Value, F_Value, 10), (R_Walk, F_Walk, 4), (R_QB, F_QB, 8), (R_Tree, F_Tree, 13), (R_Mo, F_Mo, 30)]
/-- the tables' words that stay -/
def gtbl : List Cond := lw_tbl.filter goodWord
theorem gt_of {w : Cond} (h : w ∈ lw_tbl) (hg : goodWord w = true) : w ∈ gtbl := List.mem_filter.mpr ⟨h, hg⟩
theorem gt_in {w : Cond} (i : Nat) (h : tables_1[i]? = some w) (hg : goodWord w = true) : w ∈ gtbl := gt_of (List.mem_append_right _ (List.mem_of_getElem? h)) hg
theorem gt_sel {y : MethodName} {n : Nat} (h : (y, n) ∈ lw_privs) : Cond.selects y.cls y y ∈ gtbl := gt_of (List.mem_append_left _ (List.mem_map.mpr ⟨(y, n), h, rfl⟩)) (by first | rfl | simp [goodWord, Cond.onTables, Cond.keeps, Cond.steady])
theorem gt_good {w : Cond} (h : w ∈ gtbl) : goodWord w = true := (List.mem_filter.mp h).2
theorem gt_self : GoodIn gtbl gtbl := fun _ h => ⟨h, good_of_word (gt_good h)⟩
theorem gt_code {w : Cond} (h : w ∈ gtbl) : GoodIn gtbl (w :: gtbl) := fun v hv => by
  rcases List.mem_cons.mp hv with rfl | hv
  · exact gt_self _ h
  · exact gt_self _ hv
theorem gt_V {own C : String} {i : Nat} {y : MethodName} {w : Cond} (h : w ∈ gtbl) (h1 : Cond.methodLink own i y ∈ gtbl) (h2 : Cond.instanceMethod y ∈ gtbl) (h3 : Cond.selects C y y ∈ gtbl) (h4 : Cond.initialized C ∈ gtbl) : GoodIn gtbl (wsV own i C y (w :: gtbl)) := fun v hv => by
  rcases List.mem_append.mp hv with hv | hv
  · have : v ∈ gtbl := by
      simp only [List.mem_cons, List.not_mem_nil, or_false] at hv
      rcases hv with rfl | rfl | rfl | rfl <;> assumption
    exact gt_self _ this
  · exact gt_code h _ hv
/-- a method's world before and behind -/
abbrev mp (dC : Nat → ClassId) (dI : Nat → Nat → Nat) (ws : va_W) (tys : List (ClassId × FieldType)) (sz : Heap) (U : State) : Prop := U.heap = sz ∧ va_P (dC, dI) classes ws U.heap ∧ va_K (dC, dI) classes tys U ∧ va_D (fun _ => True) ws
abbrev mz (dC : Nat → ClassId) (dI : Nat → Nat → Nat) (ws : va_W) (tys : List (ClassId × FieldType)) (A : Nat → Prop) (t : State) : Prop := va_P (dC, dI) classes ws t.heap ∧ va_K (dC, dI) classes tys t ∧ va_D A ws
theorem in_Condition : ∀ w ∈ u_ws R_Condition F_Condition 6, w ∈ gtbl := by
  intro w hw
  obtain ⟨k, hk, rfl⟩ := List.mem_map.mp hw
  have hk := List.mem_range.mp hk
  match k, hk with
  | 0, _ => exact gt_in 688 (by decide +kernel) (by decide +kernel)
  | 1, _ => exact gt_in 690 (by decide +kernel) (by decide +kernel)
  | 2, _ => exact gt_in 692 (by decide +kernel) (by decide +kernel)
  | 3, _ => exact gt_in 694 (by decide +kernel) (by decide +kernel)
  | 4, _ => exact gt_in 696 (by decide +kernel) (by decide +kernel)
  | 5, _ => exact gt_in 698 (by decide +kernel) (by decide +kernel)
  | k + 6, hk => omega
theorem in_JsonReader : ∀ w ∈ u_ws R_JsonReader F_JsonReader 4, w ∈ gtbl := by
  intro w hw
  obtain ⟨k, hk, rfl⟩ := List.mem_map.mp hw
  have hk := List.mem_range.mp hk
  match k, hk with
  | 0, _ => exact gt_in 85 (by decide +kernel) (by decide +kernel)
  | 1, _ => exact gt_in 87 (by decide +kernel) (by decide +kernel)
  | 2, _ => exact gt_in 89 (by decide +kernel) (by decide +kernel)
  | 3, _ => exact gt_in 91 (by decide +kernel) (by decide +kernel)
  | k + 4, hk => omega
theorem in_Operand : ∀ w ∈ u_ws R_Operand F_Operand 4, w ∈ gtbl := by
  intro w hw
  obtain ⟨k, hk, rfl⟩ := List.mem_map.mp hw
  have hk := List.mem_range.mp hk
  match k, hk with
  | 0, _ => exact gt_in 734 (by decide +kernel) (by decide +kernel)
  | 1, _ => exact gt_in 736 (by decide +kernel) (by decide +kernel)
  | 2, _ => exact gt_in 738 (by decide +kernel) (by decide +kernel)
  | 3, _ => exact gt_in 740 (by decide +kernel) (by decide +kernel)
  | k + 4, hk => omega
theorem in_Printer : ∀ w ∈ u_ws R_Printer F_Printer 3, w ∈ gtbl := by
  intro w hw
  obtain ⟨k, hk, rfl⟩ := List.mem_map.mp hw
  have hk := List.mem_range.mp hk
  match k, hk with
  | 0, _ => exact gt_in 144 (by decide +kernel) (by decide +kernel)
  | 1, _ => exact gt_in 146 (by decide +kernel) (by decide +kernel)
  | 2, _ => exact gt_in 148 (by decide +kernel) (by decide +kernel)
  | k + 3, hk => omega
theorem in_Query : ∀ w ∈ u_ws R_Query F_Query 4, w ∈ gtbl := by
  intro w hw
  obtain ⟨k, hk, rfl⟩ := List.mem_map.mp hw
  have hk := List.mem_range.mp hk
  match k, hk with
  | 0, _ => exact gt_in 554 (by decide +kernel) (by decide +kernel)
  | 1, _ => exact gt_in 556 (by decide +kernel) (by decide +kernel)
  | 2, _ => exact gt_in 558 (by decide +kernel) (by decide +kernel)
  | 3, _ => exact gt_in 560 (by decide +kernel) (by decide +kernel)
  | k + 4, hk => omega
theorem in_QueryReader : ∀ w ∈ u_ws R_QueryReader F_QueryReader 2, w ∈ gtbl := by
  intro w hw
  obtain ⟨k, hk, rfl⟩ := List.mem_map.mp hw
  have hk := List.mem_range.mp hk
  match k, hk with
  | 0, _ => exact gt_in 102 (by decide +kernel) (by decide +kernel)
  | 1, _ => exact gt_in 104 (by decide +kernel) (by decide +kernel)
  | k + 2, hk => omega
theorem in_Segment : ∀ w ∈ u_ws R_Segment F_Segment 3, w ∈ gtbl := by
  intro w hw
  obtain ⟨k, hk, rfl⟩ := List.mem_map.mp hw
  have hk := List.mem_range.mp hk
  match k, hk with
  | 0, _ => exact gt_in 582 (by decide +kernel) (by decide +kernel)
  | 1, _ => exact gt_in 584 (by decide +kernel) (by decide +kernel)
  | 2, _ => exact gt_in 586 (by decide +kernel) (by decide +kernel)
  | k + 3, hk => omega
theorem in_Selector : ∀ w ∈ u_ws R_Selector F_Selector 9, w ∈ gtbl := by
  intro w hw
  obtain ⟨k, hk, rfl⟩ := List.mem_map.mp hw
  have hk := List.mem_range.mp hk
  match k, hk with
  | 0, _ => exact gt_in 631 (by decide +kernel) (by decide +kernel)
  | 1, _ => exact gt_in 633 (by decide +kernel) (by decide +kernel)
  | 2, _ => exact gt_in 635 (by decide +kernel) (by decide +kernel)
  | 3, _ => exact gt_in 637 (by decide +kernel) (by decide +kernel)
  | 4, _ => exact gt_in 639 (by decide +kernel) (by decide +kernel)
  | 5, _ => exact gt_in 641 (by decide +kernel) (by decide +kernel)
  | 6, _ => exact gt_in 643 (by decide +kernel) (by decide +kernel)
  | 7, _ => exact gt_in 645 (by decide +kernel) (by decide +kernel)
  | 8, _ => exact gt_in 647 (by decide +kernel) (by decide +kernel)
  | k + 9, hk => omega
theorem in_Tape : ∀ w ∈ u_ws R_Tape F_Tape 7, w ∈ gtbl := by
  intro w hw
  obtain ⟨k, hk, rfl⟩ := List.mem_map.mp hw
  have hk := List.mem_range.mp hk
  match k, hk with
  | 0, _ => exact gt_in 57 (by decide +kernel) (by decide +kernel)
  | 1, _ => exact gt_in 59 (by decide +kernel) (by decide +kernel)
  | 2, _ => exact gt_in 61 (by decide +kernel) (by decide +kernel)
  | 3, _ => exact gt_in 63 (by decide +kernel) (by decide +kernel)
  | 4, _ => exact gt_in 65 (by decide +kernel) (by decide +kernel)
  | 5, _ => exact gt_in 67 (by decide +kernel) (by decide +kernel)
  | 6, _ => exact gt_in 69 (by decide +kernel) (by decide +kernel)
  | k + 7, hk => omega
theorem in_Value : ∀ w ∈ u_ws R_Value F_Value 10, w ∈ gtbl := by
  intro w hw
  obtain ⟨k, hk, rfl⟩ := List.mem_map.mp hw
  have hk := List.mem_range.mp hk
  match k, hk with
  | 0, _ => exact gt_in 341 (by decide +kernel) (by decide +kernel)
  | 1, _ => exact gt_in 343 (by decide +kernel) (by decide +kernel)
  | 2, _ => exact gt_in 345 (by decide +kernel) (by decide +kernel)
  | 3, _ => exact gt_in 347 (by decide +kernel) (by decide +kernel)
  | 4, _ => exact gt_in 349 (by decide +kernel) (by decide +kernel)
  | 5, _ => exact gt_in 351 (by decide +kernel) (by decide +kernel)
  | 6, _ => exact gt_in 353 (by decide +kernel) (by decide +kernel)
  | 7, _ => exact gt_in 355 (by decide +kernel) (by decide +kernel)
  | 8, _ => exact gt_in 357 (by decide +kernel) (by decide +kernel)
  | 9, _ => exact gt_in 359 (by decide +kernel) (by decide +kernel)
  | k + 10, hk => omega
theorem in_Walk : ∀ w ∈ u_ws R_Walk F_Walk 4, w ∈ gtbl := by
  intro w hw
  obtain ⟨k, hk, rfl⟩ := List.mem_map.mp hw
  have hk := List.mem_range.mp hk
  match k, hk with
  | 0, _ => exact gt_in 122 (by decide +kernel) (by decide +kernel)
  | 1, _ => exact gt_in 124 (by decide +kernel) (by decide +kernel)
  | 2, _ => exact gt_in 126 (by decide +kernel) (by decide +kernel)
  | 3, _ => exact gt_in 128 (by decide +kernel) (by decide +kernel)
  | k + 4, hk => omega
theorem in_QB : ∀ w ∈ u_ws R_QB F_QB 8, w ∈ gtbl := by
  intro w hw
  obtain ⟨k, hk, rfl⟩ := List.mem_map.mp hw
  have hk := List.mem_range.mp hk
  match k, hk with
  | 0, _ => exact gt_in 159 (by decide +kernel) (by decide +kernel)
  | 1, _ => exact gt_in 161 (by decide +kernel) (by decide +kernel)
  | 2, _ => exact gt_in 163 (by decide +kernel) (by decide +kernel)
  | 3, _ => exact gt_in 165 (by decide +kernel) (by decide +kernel)
  | 4, _ => exact gt_in 167 (by decide +kernel) (by decide +kernel)
  | 5, _ => exact gt_in 169 (by decide +kernel) (by decide +kernel)
  | 6, _ => exact gt_in 171 (by decide +kernel) (by decide +kernel)
  | 7, _ => exact gt_in 173 (by decide +kernel) (by decide +kernel)
  | k + 8, hk => omega
theorem in_Tree : ∀ w ∈ u_ws R_Tree F_Tree 13, w ∈ gtbl := by
  intro w hw
  obtain ⟨k, hk, rfl⟩ := List.mem_map.mp hw
  have hk := List.mem_range.mp hk
  match k, hk with
  | 0, _ => exact gt_in 1059 (by decide +kernel) (by decide +kernel)
  | 1, _ => exact gt_in 1061 (by decide +kernel) (by decide +kernel)
  | 2, _ => exact gt_in 1063 (by decide +kernel) (by decide +kernel)
  | 3, _ => exact gt_in 1065 (by decide +kernel) (by decide +kernel)
  | 4, _ => exact gt_in 1067 (by decide +kernel) (by decide +kernel)
  | 5, _ => exact gt_in 1069 (by decide +kernel) (by decide +kernel)
  | 6, _ => exact gt_in 1071 (by decide +kernel) (by decide +kernel)
  | 7, _ => exact gt_in 1073 (by decide +kernel) (by decide +kernel)
  | 8, _ => exact gt_in 1075 (by decide +kernel) (by decide +kernel)
  | 9, _ => exact gt_in 1077 (by decide +kernel) (by decide +kernel)
  | 10, _ => exact gt_in 1079 (by decide +kernel) (by decide +kernel)
  | 11, _ => exact gt_in 1081 (by decide +kernel) (by decide +kernel)
  | 12, _ => exact gt_in 1083 (by decide +kernel) (by decide +kernel)
  | k + 13, hk => omega
theorem in_Mo : ∀ w ∈ u_ws R_Mo F_Mo 30, w ∈ gtbl := by
  intro w hw
  obtain ⟨k, hk, rfl⟩ := List.mem_map.mp hw
  have hk := List.mem_range.mp hk
  match k, hk with
  | 0, _ => exact gt_in 1119 (by decide +kernel) (by decide +kernel)
  | 1, _ => exact gt_in 1121 (by decide +kernel) (by decide +kernel)
  | 2, _ => exact gt_in 1123 (by decide +kernel) (by decide +kernel)
  | 3, _ => exact gt_in 1125 (by decide +kernel) (by decide +kernel)
  | 4, _ => exact gt_in 1127 (by decide +kernel) (by decide +kernel)
  | 5, _ => exact gt_in 1129 (by decide +kernel) (by decide +kernel)
  | 6, _ => exact gt_in 1131 (by decide +kernel) (by decide +kernel)
  | 7, _ => exact gt_in 1133 (by decide +kernel) (by decide +kernel)
  | 8, _ => exact gt_in 1135 (by decide +kernel) (by decide +kernel)
  | 9, _ => exact gt_in 1137 (by decide +kernel) (by decide +kernel)
  | 10, _ => exact gt_in 1139 (by decide +kernel) (by decide +kernel)
  | 11, _ => exact gt_in 1141 (by decide +kernel) (by decide +kernel)
  | 12, _ => exact gt_in 1143 (by decide +kernel) (by decide +kernel)
  | 13, _ => exact gt_in 1145 (by decide +kernel) (by decide +kernel)
  | 14, _ => exact gt_in 1147 (by decide +kernel) (by decide +kernel)
  | 15, _ => exact gt_in 1149 (by decide +kernel) (by decide +kernel)
  | 16, _ => exact gt_in 1151 (by decide +kernel) (by decide +kernel)
  | 17, _ => exact gt_in 1153 (by decide +kernel) (by decide +kernel)
  | 18, _ => exact gt_in 1155 (by decide +kernel) (by decide +kernel)
  | 19, _ => exact gt_in 1157 (by decide +kernel) (by decide +kernel)
  | 20, _ => exact gt_in 1159 (by decide +kernel) (by decide +kernel)
  | 21, _ => exact gt_in 1161 (by decide +kernel) (by decide +kernel)
  | 22, _ => exact gt_in 1163 (by decide +kernel) (by decide +kernel)
  | 23, _ => exact gt_in 1165 (by decide +kernel) (by decide +kernel)
  | 24, _ => exact gt_in 1167 (by decide +kernel) (by decide +kernel)
  | 25, _ => exact gt_in 1169 (by decide +kernel) (by decide +kernel)
  | 26, _ => exact gt_in 1171 (by decide +kernel) (by decide +kernel)
  | 27, _ => exact gt_in 1173 (by decide +kernel) (by decide +kernel)
  | 28, _ => exact gt_in 1175 (by decide +kernel) (by decide +kernel)
  | 29, _ => exact gt_in 1177 (by decide +kernel) (by decide +kernel)
  | k + 30, hk => omega
