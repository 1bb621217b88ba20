section
/-! the class's objects: a pool, by sorts: 1 a value under way, 2 a value, 3 a value with a name, 4 int[], 5 Value[], 6 Value[] of values with names, 7 Query, 8 Segment, 9 Selector, 10 Condition, 11 Operand -/
abbrev oR (P : Nat → Prop) (o : Option Nat) : Prop := ∀ b, o = some b → P b
abbrev isV (E : Nat → Nat) (b : Nat) : Prop := E b = 1 ∨ E b = 2 ∨ E b = 3
abbrev isF (E : Nat → Nat) (b : Nat) : Prop := E b = 2 ∨ E b = 3
abbrev isA (E : Nat → Nat) (b : Nat) : Prop := E b = 5 ∨ E b = 6
theorem isF.v {E : Nat → Nat} {b : Nat} (h : isF E b) : isV E b := by sorry
abbrev vE (kd : Int32) (nu : Int64) (tx me pa na : Option Nat) (ix : Int32) (nm no : Option Nat) (sp : Int32) : va_E := .inr (9, [.int kd, .long nu, va_rf tx, va_rf me, va_rf pa, va_rf na, .int ix, va_rf nm, va_rf no, .int sp])
abbrev tE (cI : ClassId) (n : Nat) (g : Nat → Int32) : va_E := .inl (cI, n, .inl g)
abbrev aE (cV : ClassId) (n : Nat) (g : Nat → Option Nat) : va_E := .inl (cV, n, .inr (.inr (.inr (.inr g))))
abbrev qE (fr sg : Int32) (fi la : Option Nat) : va_E := .inr (4, [.int fr, .int sg, va_rf fi, va_rf la])
abbrev gE (ds : Int32) (fi nx : Option Nat) : va_E := .inr (6, [.int ds, va_rf fi, va_rf nx])
abbrev lE (kd : Int32) (nm : Option Nat) (hs ht : Int32) (st sp se : Int64) (fl nx : Option Nat) : va_E := .inr (7, [.int kd, va_rf nm, .int hs, .int ht, .long st, .long sp, .long se, va_rf fl, va_rf nx])
abbrev kE (kd : Int32) (fi nx qu le ri : Option Nat) : va_E := .inr (0, [.int kd, va_rf fi, va_rf nx, va_rf qu, va_rf le, va_rf ri])
abbrev oE (kd : Int32) (va qu inn : Option Nat) : va_E := .inr (2, [.int kd, va_rf va, va_rf qu, va_rf inn])
def VO (E : Nat → Nat) (a : Nat) (kd : Int32) (tx me pa na nm no : Option Nat) : Prop := oR (fun b => E b = 4) tx ∧ oR (isA E) me ∧ oR (isV E) pa ∧ oR (fun b => E b = 4) na ∧ oR (isV E) nm ∧ oR (isV E) no ∧ (E a ≠ 1 → (kd = 4 → tx ≠ none) ∧ (kd = 6 → oR (fun b => E b = 6) me)) ∧ (E a = 3 → na ≠ none ∧ oR (fun b => E b = 3) nm)
/-- a segment, a selector, a condition, an operand: what it holds is of lower or the same level -/
def GO (E lv : Nat → Nat) (a : Nat) (fi nx : Option Nat) : Prop := (∃ b, fi = some b ∧ E b = 9 ∧ lv b ≤ lv a) ∧ oR (fun b => E b = 8 ∧ lv b ≤ lv a ∧ a < b) nx
def LO (E lv : Nat → Nat) (a : Nat) (kd : Int32) (nm : Option Nat) (se : Int64) (fl nx : Option Nat) : Prop := oR (fun b => E b = 4) nm ∧ oR (fun b => E b = 10 ∧ lv b < lv a) fl ∧ oR (fun b => E b = 9 ∧ lv b ≤ lv a ∧ a < b) nx ∧ (kd = 0 → nm ≠ none) ∧ (kd ≠ 0 → kd ≠ 1 → kd ≠ 2 → kd ≠ 3 → fl ≠ none) ∧ -9007199254740992 ≤ se.toInt ∧ se.toInt ≤ 9007199254740992
def KO (E lv : Nat → Nat) (a : Nat) (kd : Int32) (fi nx qu le ri : Option Nat) : Prop := oR (fun b => E b = 10 ∧ lv b < lv a) fi ∧ oR (fun b => E b = 10 ∧ lv b ≤ lv a ∧ a < b) nx ∧ oR (fun b => E b = 7 ∧ lv b < lv a) qu ∧ oR (fun b => E b = 11 ∧ lv b < lv a) le ∧ oR (fun b => E b = 11 ∧ lv b < lv a) ri ∧ (kd = 2 → fi ≠ none) ∧ (kd = 3 → qu ≠ none) ∧ (kd ≠ 0 → kd ≠ 1 → kd ≠ 2 → kd ≠ 3 → le ≠ none ∧ ri ≠ none)
def OO (E lv : Nat → Nat) (a : Nat) (kd : Int32) (va qu inn : Option Nat) : Prop := oR (isF E) va ∧ oR (fun b => E b = 7 ∧ lv b < lv a) qu ∧ oR (fun b => E b = 11 ∧ lv b < lv a) inn ∧ (kd = 1 → qu ≠ none) ∧ (kd = 2 → qu ≠ none ∧ va ≠ none) ∧ (kd = 3 → inn ≠ none ∧ va ≠ none)
def PO (cI cV : ClassId) (E lv : Nat → Nat) (L : List Nat) (f : Nat → va_E) : Prop :=
  (∀ a, E a ≠ 0 → a ∈ L) ∧
  (∀ a, isV E a → ∃ kd nu tx me pa na ix nm no sp, f a = vE kd nu tx me pa na ix nm no sp ∧ VO E a kd tx me pa na nm no) ∧
  (∀ a, E a = 4 → ∃ n g, f a = tE cI n g ∧ n ≤ 4096) ∧
  (∀ a, isA E a → ∃ n g, f a = aE cV n g ∧ n ≤ 4096 ∧ ∀ j, j < n → ∃ b, g j = some b ∧ isF E b ∧ (E a = 6 → E b = 3)) ∧
  (∀ a, E a = 7 → ∃ fr sg fi la, f a = qE fr sg fi la ∧ oR (fun b => E b = 8 ∧ lv b ≤ lv a) fi ∧ oR (fun b => E b = 8) la) ∧
  (∀ a, E a = 8 → ∃ ds fi nx, f a = gE ds fi nx ∧ GO E lv a fi nx) ∧
  (∀ a, E a = 9 → ∃ kd nm hs ht st sp se fl nx, f a = lE kd nm hs ht st sp se fl nx ∧ LO E lv a kd nm se fl nx) ∧
  (∀ a, E a = 10 → ∃ kd fi nx qu le ri, f a = kE kd fi nx qu le ri ∧ KO E lv a kd fi nx qu le ri) ∧
  (∀ a, E a = 11 → ∃ kd va qu inn, f a = oE kd va qu inn ∧ OO E lv a kd va qu inn)
section PoolOK
variable {cI cV : ClassId} {E lv : Nat → Nat} {L : List Nat} {f : Nat → va_E} {a : Nat}
theorem PO.inL (h : PO cI cV E lv L f) (ha : E a ≠ 0) : a ∈ L := by sorry
theorem PO.inV (h : PO cI cV E lv L f) (ha : isV E a) : a ∈ L := by sorry
theorem PO.inA (h : PO cI cV E lv L f) (ha : isA E a) : a ∈ L := by sorry
theorem PO.val (h : PO cI cV E lv L f) (ha : isV E a) : ∃ kd nu tx me pa na ix nm no sp, f a = vE kd nu tx me pa na ix nm no sp ∧ VO E a kd tx me pa na nm no := by sorry
theorem PO.txt (h : PO cI cV E lv L f) (ha : E a = 4) : ∃ n g, f a = tE cI n g ∧ n ≤ 4096 := by sorry
theorem PO.arr (h : PO cI cV E lv L f) (ha : isA E a) : ∃ n g, f a = aE cV n g ∧ n ≤ 4096 ∧ ∀ j, j < n → ∃ b, g j = some b ∧ isF E b ∧ (E a = 6 → E b = 3) := by sorry
theorem PO.qry (h : PO cI cV E lv L f) (ha : E a = 7) : ∃ fr sg fi la, f a = qE fr sg fi la ∧ oR (fun b => E b = 8 ∧ lv b ≤ lv a) fi ∧ oR (fun b => E b = 8) la := by sorry
theorem PO.seg (h : PO cI cV E lv L f) (ha : E a = 8) : ∃ ds fi nx, f a = gE ds fi nx ∧ GO E lv a fi nx := by sorry
theorem PO.sel (h : PO cI cV E lv L f) (ha : E a = 9) : ∃ kd nm hs ht st sp se fl nx, f a = lE kd nm hs ht st sp se fl nx ∧ LO E lv a kd nm se fl nx := by sorry
theorem PO.con (h : PO cI cV E lv L f) (ha : E a = 10) : ∃ kd fi nx qu le ri, f a = kE kd fi nx qu le ri ∧ KO E lv a kd fi nx qu le ri := by sorry
theorem PO.opd (h : PO cI cV E lv L f) (ha : E a = 11) : ∃ kd va qu inn, f a = oE kd va qu inn ∧ OO E lv a kd va qu inn := by sorry
end PoolOK
/-- how many members a value has -/
def szF (f : Nat → va_E) (a : Nat) : Nat := match f a with
  | .inr (_, [_, _, _, .ref b, _, _, _, _, _, _]) => match f b with
    | .inl (_, n, _) => n
    | _ => 0
  | _ => 0
theorem PO.mem {cI cV : ClassId} {E lv : Nat → Nat} {L : List Nat} {f : Nat → va_E} {a : Nat} (h : PO cI cV E lv L f) {kd : Int32} {nu : Int64} {tx me pa na : Option Nat} {ix : Int32} {nm no : Option Nat} {sp : Int32} (hf : f a = vE kd nu tx me pa na ix nm no sp) (hV : VO E a kd tx me pa na nm no) (ha : E a ≠ 1) :
    szF f a ≤ 4096 ∧ ((me = none ∧ szF f a = 0) ∨ ∃ b g, me = some b ∧ b ∈ L ∧ f b = aE cV (szF f a) g ∧ ∀ j, j < szF f a → ∃ c, g j = some c ∧ isF E c ∧ (kd = 6 → E c = 3)) := by sorry
/-- the heap stays as it is -/
abbrev mq (dC : Nat → ClassId) (dI : Nat → Nat → Nat) (ws : va_W) (tys : List (ClassId × FieldType)) (sz : Heap) (U : State) : Prop := U.heap = sz ∧ va_P (dC, dI) classes ws U.heap ∧ va_K (dC, dI) classes tys U ∧ NW U
theorem mq_blind {dC : Nat → ClassId} {dI : Nat → Nat → Nat} {ws : va_W} {tys : List (ClassId × FieldType)} {sz : Heap} {av : List Value} : FrameBlind (va_Pc av (mq dC dI ws tys sz)) := by sorry
section PoolRows
variable {p : Program} {l : Launch} {e : Env} {R : Room} {s : State} {m : MethodId} {args : Array Value} {below : List Frame} {meth : Method} {c : Code} {H : Heap} {locs : List Loc} {cells slots : Nat} {Q : State → Prop}
variable {cc : ByteArray} {pc : Nat} {ls : Array Slot} {rest : List Value} {D : va_G} {cl : List vw_C} {A : Nat → Prop} {a : Nat} {tys : List (ClassId × FieldType)} {X : va_W} {L : List Nat} {f : Nat → va_E} {H0 : Heap}
theorem vq_get (hexec : p.tables.exec = Jvm.exec) (hb : c.code = cc) {own ref C : String} {T : u_T} {N ci index : Nat} {Ts : List Cond} (hts : ∀ w ∈ Ts, w.before args s = true) (hin : ∀ w ∈ u_ws C T N, w ∈ Ts) (hown : s.vm.findClass own = some m.cls) (hK : va_K D cl tys s) (hP : va_P D cl (X ++ va_pl L f) H) (ha : a ∈ L) {fs : List Value} (he : f a = .inr (ci, fs)) (hc : cl[ci]? = some (C, T, N)) (k : Nat) (hk : k < N) (hlink : (Cond.fieldLink own index ref (T k).2.1 (T k).2.2.1).before args s = true) (hsame : ∀ x, s.fieldFound? (T k).1 (T k).2.1 (T k).2.2.1 = some x → s.fieldFound? ref (T k).2.1 (T k).2.2.1 = some x) {v : Value} (hv : fs[k]? = some v) (hdg : decode cc pc = .ok (.getfield index, 3))
    (kk : W p l e R s m args below meth c H locs cells slots Q (F0 m (pc + 3) ls (v :: rest))) : W p l e R s m args below meth c H locs cells slots Q (F0 m pc ls (.ref a :: rest)) := by sorry
theorem vq_put (hexec : p.tables.exec = Jvm.exec) (hb : c.code = cc) {own ref C : String} {T : u_T} {N ci index : Nat} {Ts : List Cond} (hts : ∀ w ∈ Ts, w.before args s = true) (hin : ∀ w ∈ u_ws C T N, w ∈ Ts) (ty0 : Nat → FieldType) (hty : ∀ k, k < N → parseFieldDescriptor (T k).2.2.1 = some (ty0 k)) (hnm : ∀ a, a < N → ∀ b, b < N → a ≠ b → (T a).2.1 ≠ (T b).2.1) (hown : s.vm.findClass own = some m.cls) (hK : va_K D cl tys s) (hP : va_P D cl (X ++ va_pl L f) H) (hD : va_D A (X ++ va_pl L f)) (hS0 : va_S A H0 H locs) (ha : a ∈ L) {fs : List Value} (he : f a = .inr (ci, fs)) (hc : cl[ci]? = some (C, T, N)) (k : Nat) (hk : k < N) (hlink : (Cond.fieldLink own index ref (T k).2.1 (T k).2.2.1).before args s = true) (hsame : ∀ x, s.fieldFound? (T k).1 (T k).2.1 (T k).2.2.1 = some x → s.fieldFound? ref (T k).2.1 (T k).2.2.1 = some x) (hfin : (T k).2.2.2 = false) {ty : FieldType} {v : Value} (hd : parseFieldDescriptor (T k).2.2.1 = some ty) (hn : narrow ty v = v) (hfit : fits ty v = true) (hl : k < fs.length)
    (hdg : decode cc pc = .ok (.putfield index, 3)) (kk : ∀ (H1 : Heap) (locs1 : List Loc), va_P D cl (X ++ va_pl L (va_up f a (.inr (ci, fs.set k v)))) H1 → va_D A (X ++ va_pl L (va_up f a (.inr (ci, fs.set k v)))) → va_S A H0 H1 locs1 → W p l e R s m args below meth c H1 locs1 cells slots Q (F0 m (pc + 3) ls rest)) : W p l e R s m args below meth c H locs cells slots Q (F0 m pc ls (v :: .ref a :: rest)) := by sorry
theorem vq_iald (hexec : p.tables.exec = Jvm.exec) (hb : c.code = cc) (hK : va_K D cl tys s) (hP : va_P D cl (X ++ va_pl L f) H) (t0 : Nat) {cA : ClassId} {n : Nat} {g : Nat → Int32} (ha : a ∈ L) (he : f a = .inl (cA, n, .inl g)) (ht : tys[t0]? = some (cA, .int)) {j : Nat} (hj : j < n) (hn : n ≤ 4096) (hdg : decode cc pc = .ok (.iaload, 1))
    (kk : W p l e R s m args below meth c H locs cells slots Q (F0 m (pc + 1) ls (.int (g j) :: rest))) : W p l e R s m args below meth c H locs cells slots Q (F0 m pc ls (.int (nI j) :: .ref a :: rest)) := by sorry
theorem vq_aald (hexec : p.tables.exec = Jvm.exec) (hb : c.code = cc) (hK : va_K D cl tys s) (hP : va_P D cl (X ++ va_pl L f) H) (t0 : Nat) {cA : ClassId} {C : String} {n : Nat} {g : Nat → Option Nat} (ha : a ∈ L) (he : f a = .inl (cA, n, .inr (.inr (.inr (.inr g))))) (ht : tys[t0]? = some (cA, .object C)) {j b : Nat} (hj : j < n) (hn : n ≤ 4096) (hg : g j = some b) (hdg : decode cc pc = .ok (.aaload, 1))
    (kk : W p l e R s m args below meth c H locs cells slots Q (F0 m (pc + 1) ls (.ref b :: rest))) : W p l e R s m args below meth c H locs cells slots Q (F0 m pc ls (.int (nI j) :: .ref a :: rest)) := by sorry
theorem vq_alen (hexec : p.tables.exec = Jvm.exec) (hb : c.code = cc) (hK : va_K D cl tys s) (hP : va_P D cl (X ++ va_pl L f) H) (t0 : Nat) {cA : ClassId} {x : vp_A} (ha : a ∈ L) (he : f a = .inl (cA, x)) {ty : FieldType} (ht : tys[t0]? = some (cA, ty)) (hdg : decode cc pc = .ok (.arraylength, 1))
    (kk : W p l e R s m args below meth c H locs cells slots Q (F0 m (pc + 1) ls (.int (nI x.1) :: rest))) : W p l e R s m args below meth c H locs cells slots Q (F0 m pc ls (.ref a :: rest)) := by sorry
theorem vq_recv {C : String} {T : u_T} {N ci : Nat} {fs : List Value} (hK : va_K D cl tys s) (hP : va_P D cl (X ++ va_pl L f) H) (hc : cl[ci]? = some (C, T, N)) (ha : a ∈ L) (he : f a = .inr (ci, fs)) : ∃ cell : Cell, H[a]? = some cell ∧ cell.vm.isStatics = false ∧ s.vm.findClass C = some cell.cls := by sorry
/-- a loop of a method that leaves the heap -/
theorem w_loopR {nL : Nat} (pc : Nat) {σ : Type} (Inv : σ → Prop) (ms : σ → Nat) (lv : σ → List (Nat × Value))
    (step : ∀ (x : σ) (ls : Array Slot), Inv x → (∀ (y : σ) (ls : Array Slot), Inv y → ms y < ms x → lv_has ls nL (lv y) → W p l e R s m args below meth c H locs cells slots Q (F0 m pc ls [])) → lv_has ls nL (lv x) → W p l e R s m args below meth c H locs cells slots Q (F0 m pc ls []))
    (x : σ) {ls : Array Slot} (h : Inv x) (hl : lv_has ls nL (lv x)) : W p l e R s m args below meth c H locs cells slots Q (F0 m pc ls []) := by sorry
end PoolRows
theorem PO.mem0 {f : Nat → va_E} {a : Nat} {kd : Int32} {nu : Int64} {tx pa na : Option Nat} {ix : Int32} {nm no : Option Nat} {sp : Int32} (hf : f a = vE kd nu tx none pa na ix nm no sp) : szF f a = 0 := by sorry
theorem PO.mem1 {cI cV : ClassId} {E lv : Nat → Nat} {L : List Nat} {f : Nat → va_E} {a : Nat} (h : PO cI cV E lv L f) {kd : Int32} {nu : Int64} {tx pa na : Option Nat} {b : Nat} {ix : Int32} {nm no : Option Nat} {sp : Int32} (hf : f a = vE kd nu tx (some b) pa na ix nm no sp) (hV : VO E a kd tx (some b) pa na nm no) (ha : E a ≠ 1) :
    ∃ g, b ∈ L ∧ f b = aE cV (szF f a) g ∧ ∀ j, j < szF f a → ∃ c, g j = some c ∧ isF E c ∧ (kd = 6 → E c = 3) := by sorry
theorem PO.szle {cI cV : ClassId} {E lv : Nat → Nat} {L : List Nat} {f : Nat → va_E} {a : Nat} (h : PO cI cV E lv L f) {kd : Int32} {nu : Int64} {tx me pa na : Option Nat} {ix : Int32} {nm no : Option Nat} {sp : Int32} (hf : f a = vE kd nu tx me pa na ix nm no sp) (hV : VO E a kd tx me pa na nm no) : szF f a ≤ 4096 := by sorry
theorem isF.n1 {E : Nat → Nat} {b : Nat} (h : isF E b) : E b ≠ 1 := by sorry
/-- nothing is asked of the heap -/
abbrev mT (U : State) : Prop := NW U
theorem mT_blind {av : List Value} : FrameBlind (va_Pc av mT) := by sorry
abbrev Bo (r : Int32) : Prop := r = 0 ∨ r = 1
theorem Bo.nar {r : Int32} (h : Bo r) : narrow .boolean (.int r) = .int r := by sorry
end
section
theorem z_325 : (.fieldLink "QueryBench$Value" 15 "QueryBench$Value" "members" "[LQueryBench$Value;" : Cond) ∈ gtbl := by sorry
abbrev b_QB_sameText : ByteArray := prog_1_method_15_code
def y_QB_sameText : MethodName := ⟨"QueryBench", "sameText", "([I[I)Z"⟩
abbrev k_QB_sameText : Cond := .code y_QB_sameText b_QB_sameText 3 (some .boolean)
theorem i_QB_sameText : k_QB_sameText ∈ gtbl := by sorry
theorem d_QB_sameText_0 : decode b_QB_sameText 0 = .ok (.aload_n 0, 1) := by sorry
theorem d_QB_sameText_1 : decode b_QB_sameText 1 = .ok (.arraylength, 1) := by sorry
theorem d_QB_sameText_2 : decode b_QB_sameText 2 = .ok (.aload_n 1, 1) := by sorry
theorem d_QB_sameText_3 : decode b_QB_sameText 3 = .ok (.arraylength, 1) := by sorry
theorem d_QB_sameText_4 : decode b_QB_sameText 4 = .ok (.if_icmp .eq 5, 3) := by sorry
theorem d_QB_sameText_7 : decode b_QB_sameText 7 = .ok (.iconst 0, 1) := by sorry
theorem d_QB_sameText_8 : decode b_QB_sameText 8 = .ok (.ireturn, 1) := by sorry
theorem d_QB_sameText_9 : decode b_QB_sameText 9 = .ok (.iconst 0, 1) := by sorry
theorem d_QB_sameText_10 : decode b_QB_sameText 10 = .ok (.istore_n 2, 1) := by sorry
theorem d_QB_sameText_11 : decode b_QB_sameText 11 = .ok (.iload_n 2, 1) := by sorry
theorem d_QB_sameText_12 : decode b_QB_sameText 12 = .ok (.aload_n 0, 1) := by sorry
theorem d_QB_sameText_13 : decode b_QB_sameText 13 = .ok (.arraylength, 1) := by sorry
theorem d_QB_sameText_14 : decode b_QB_sameText 14 = .ok (.if_icmp .ge 20, 3) := by sorry
theorem d_QB_sameText_17 : decode b_QB_sameText 17 = .ok (.aload_n 0, 1) := by sorry
theorem d_QB_sameText_18 : decode b_QB_sameText 18 = .ok (.iload_n 2, 1) := by sorry
theorem d_QB_sameText_19 : decode b_QB_sameText 19 = .ok (.iaload, 1) := by sorry
theorem d_QB_sameText_20 : decode b_QB_sameText 20 = .ok (.aload_n 1, 1) := by sorry
theorem d_QB_sameText_21 : decode b_QB_sameText 21 = .ok (.iload_n 2, 1) := by sorry
theorem d_QB_sameText_22 : decode b_QB_sameText 22 = .ok (.iaload, 1) := by sorry
theorem d_QB_sameText_23 : decode b_QB_sameText 23 = .ok (.if_icmp .eq 5, 3) := by sorry
theorem d_QB_sameText_26 : decode b_QB_sameText 26 = .ok (.iconst 0, 1) := by sorry
theorem d_QB_sameText_27 : decode b_QB_sameText 27 = .ok (.ireturn, 1) := by sorry
theorem d_QB_sameText_28 : decode b_QB_sameText 28 = .ok (.iinc 2 1, 3) := by sorry
theorem d_QB_sameText_31 : decode b_QB_sameText 31 = .ok (.goto (-20), 3) := by sorry
theorem d_QB_sameText_34 : decode b_QB_sameText 34 = .ok (.iconst 1, 1) := by sorry
theorem d_QB_sameText_35 : decode b_QB_sameText 35 = .ok (.ireturn, 1) := by sorry
abbrev b_Value_size : ByteArray := prog_11_method_2_code
def y_Value_size : MethodName := ⟨"QueryBench$Value", "size", "()I"⟩
abbrev k_Value_size : Cond := .code y_Value_size b_Value_size 1 (some .int)
theorem i_Value_size : k_Value_size ∈ gtbl := by sorry
theorem d_Value_size_0 : decode b_Value_size 0 = .ok (.aload_n 0, 1) := by sorry
theorem d_Value_size_1 : decode b_Value_size 1 = .ok (.getfield 15, 3) := by sorry
theorem d_Value_size_4 : decode b_Value_size 4 = .ok (.ifnonnull 7, 3) := by sorry
theorem d_Value_size_7 : decode b_Value_size 7 = .ok (.iconst 0, 1) := by sorry
theorem d_Value_size_8 : decode b_Value_size 8 = .ok (.goto 8, 3) := by sorry
theorem d_Value_size_11 : decode b_Value_size 11 = .ok (.aload_n 0, 1) := by sorry
theorem d_Value_size_12 : decode b_Value_size 12 = .ok (.getfield 15, 3) := by sorry
theorem d_Value_size_15 : decode b_Value_size 15 = .ok (.arraylength, 1) := by sorry
theorem d_Value_size_16 : decode b_Value_size 16 = .ok (.ireturn, 1) := by sorry
set_option maxHeartbeats 4000000 in
set_option maxRecDepth 100000 in
/-- Value.size -/
theorem c_Value_size (l : Launch) (dC : Nat → ClassId) (dI : Nat → Nat → Nat) (sz : Heap) (cI cV : ClassId) (E lv : Nat → Nat) (L : List Nat) (f : Nat → va_E) (hO : PO cI cV E lv L f) (a : Nat) (ha : isF E a) : Met l y_Value_size (k_Value_size :: gtbl) ({ frames := 0, cells := 0, slots := 0, locals := 0 }) (va_Pc [.ref a] (mq dC dI ([] ++ va_pl L f) [(cI, .int), (cV, .object "QueryBench$Value")] sz)) (vp_Si (fun (r : Int32) => r = nI (szF f a))) 0 0 (fun _ => False) := by sorry
end
section
theorem z_14 : (.initialized "QueryBench$Value" : Cond) ∈ gtbl := by sorry
theorem z_312 : (.fieldLink "QueryBench$Value" 9 "QueryBench$Value" "kind" "I" : Cond) ∈ gtbl := by sorry
theorem z_317 : (.fieldLink "QueryBench$Value" 42 "QueryBench$Value" "number" "J" : Cond) ∈ gtbl := by sorry
theorem z_322 : (.fieldLink "QueryBench$Value" 31 "QueryBench$Value" "text" "[I" : Cond) ∈ gtbl := by sorry
theorem z_331 : (.fieldLink "QueryBench$Value" 23 "QueryBench$Value" "name" "[I" : Cond) ∈ gtbl := by sorry
theorem z_444 : (.static ⟨"QueryBench", "sameText", "([I[I)Z"⟩ : Cond) ∈ gtbl := by sorry
theorem z_865 : (.methodLink "QueryBench$Value" 19 ⟨"QueryBench$Value", "size", "()I"⟩ : Cond) ∈ gtbl := by sorry
theorem z_866 : (.instanceMethod ⟨"QueryBench$Value", "size", "()I"⟩ : Cond) ∈ gtbl := by sorry
theorem z_867 : (.selects "QueryBench$Value" ⟨"QueryBench$Value", "size", "()I"⟩ ⟨"QueryBench$Value", "size", "()I"⟩ : Cond) ∈ gtbl := by sorry
theorem z_938 : (.methodLink "QueryBench$Value" 50 ⟨"QueryBench$Value", "lessText", "([I[I)Z"⟩ : Cond) ∈ gtbl := by sorry
theorem z_939 : (.static ⟨"QueryBench$Value", "lessText", "([I[I)Z"⟩ : Cond) ∈ gtbl := by sorry
theorem z_941 : (.methodLink "QueryBench$Value" 53 ⟨"java/lang/Math", "min", "(II)I"⟩ : Cond) ∈ gtbl := by sorry
theorem z_944 : (.methodLink "QueryBench$Value" 59 ⟨"QueryBench$Value", "rank", "(I)I"⟩ : Cond) ∈ gtbl := by sorry
theorem z_945 : (.static ⟨"QueryBench$Value", "rank", "(I)I"⟩ : Cond) ∈ gtbl := by sorry
theorem z_948 : (.constant "QueryBench$Value" 66 65536 : Cond) ∈ gtbl := by sorry
theorem nz_869 : (.methodLinkNest "QueryBench$Value" 27 ⟨"QueryBench", "sameText", "([I[I)Z"⟩ "QueryBench" : Cond) ∈ nwl := by sorry
theorem nz_927 : (.methodLinkNest "QueryBench$Value" 34 ⟨"QueryBench", "isLowUnit", "(I)Z"⟩ "QueryBench" : Cond) ∈ nwl := by sorry
theorem nz_947 : (.methodLinkNest "QueryBench$Value" 63 ⟨"QueryBench", "isHighUnit", "(I)Z"⟩ "QueryBench" : Cond) ∈ nwl := by sorry
theorem wm_mini : Cond.code Lib.Math.min.name Lib.Math.min.code 2 (some .int) ∈ gtbl := by sorry
theorem wm_maxi : Cond.code Lib.Math.max.name Lib.Math.max.code 2 (some .int) ∈ gtbl := by sorry
theorem wm_maxl : Cond.code Lib.MathLoose.max_long.x Lib.MathLoose.max_long.code 4 (some .long) ∈ gtbl := by sorry
abbrev b_Value_member : ByteArray := prog_11_method_3_code
def y_Value_member : MethodName := ⟨"QueryBench$Value", "member", "([I)LQueryBench$Value;"⟩
abbrev k_Value_member : Cond := .code y_Value_member b_Value_member 3 (some (.object "QueryBench$Value"))
theorem i_Value_member : k_Value_member ∈ gtbl := by sorry
theorem d_Value_member_0 : decode b_Value_member 0 = .ok (.aload_n 0, 1) := by sorry
theorem d_Value_member_1 : decode b_Value_member 1 = .ok (.getfield 9, 3) := by sorry
theorem d_Value_member_4 : decode b_Value_member 4 = .ok (.bipush 6, 2) := by sorry
theorem d_Value_member_6 : decode b_Value_member 6 = .ok (.if_icmp .eq 5, 3) := by sorry
theorem d_Value_member_9 : decode b_Value_member 9 = .ok (.aconst_null, 1) := by sorry
theorem d_Value_member_10 : decode b_Value_member 10 = .ok (.areturn, 1) := by sorry
theorem d_Value_member_11 : decode b_Value_member 11 = .ok (.iconst 0, 1) := by sorry
theorem d_Value_member_12 : decode b_Value_member 12 = .ok (.istore_n 2, 1) := by sorry
theorem d_Value_member_13 : decode b_Value_member 13 = .ok (.iload_n 2, 1) := by sorry
theorem d_Value_member_14 : decode b_Value_member 14 = .ok (.aload_n 0, 1) := by sorry
theorem d_Value_member_15 : decode b_Value_member 15 = .ok (.invokevirtual 19, 3) := by sorry
theorem d_Value_member_18 : decode b_Value_member 18 = .ok (.if_icmp .ge 32, 3) := by sorry
theorem d_Value_member_21 : decode b_Value_member 21 = .ok (.aload_n 0, 1) := by sorry
theorem d_Value_member_22 : decode b_Value_member 22 = .ok (.getfield 15, 3) := by sorry
theorem d_Value_member_25 : decode b_Value_member 25 = .ok (.iload_n 2, 1) := by sorry
theorem d_Value_member_26 : decode b_Value_member 26 = .ok (.aaload, 1) := by sorry
theorem d_Value_member_27 : decode b_Value_member 27 = .ok (.getfield 23, 3) := by sorry
theorem d_Value_member_30 : decode b_Value_member 30 = .ok (.aload_n 1, 1) := by sorry
theorem d_Value_member_31 : decode b_Value_member 31 = .ok (.invokestatic 27, 3) := by sorry
theorem d_Value_member_34 : decode b_Value_member 34 = .ok (.ifCond .eq 10, 3) := by sorry
theorem d_Value_member_37 : decode b_Value_member 37 = .ok (.aload_n 0, 1) := by sorry
theorem d_Value_member_38 : decode b_Value_member 38 = .ok (.getfield 15, 3) := by sorry
theorem d_Value_member_41 : decode b_Value_member 41 = .ok (.iload_n 2, 1) := by sorry
theorem d_Value_member_42 : decode b_Value_member 42 = .ok (.aaload, 1) := by sorry
theorem d_Value_member_43 : decode b_Value_member 43 = .ok (.areturn, 1) := by sorry
theorem d_Value_member_44 : decode b_Value_member 44 = .ok (.iinc 2 1, 3) := by sorry
theorem d_Value_member_47 : decode b_Value_member 47 = .ok (.goto (-34), 3) := by sorry
theorem d_Value_member_50 : decode b_Value_member 50 = .ok (.aconst_null, 1) := by sorry
theorem d_Value_member_51 : decode b_Value_member 51 = .ok (.areturn, 1) := by sorry
abbrev b_Value_measure : ByteArray := prog_11_method_4_code
def y_Value_measure : MethodName := ⟨"QueryBench$Value", "measure", "()I"⟩
abbrev k_Value_measure : Cond := .code y_Value_measure b_Value_measure 3 (some .int)
theorem i_Value_measure : k_Value_measure ∈ gtbl := by sorry
theorem d_Value_measure_0 : decode b_Value_measure 0 = .ok (.aload_n 0, 1) := by sorry
theorem d_Value_measure_1 : decode b_Value_measure 1 = .ok (.getfield 9, 3) := by sorry
theorem d_Value_measure_4 : decode b_Value_measure 4 = .ok (.iconst 5, 1) := by sorry
theorem d_Value_measure_5 : decode b_Value_measure 5 = .ok (.if_icmp .eq 12, 3) := by sorry
theorem d_Value_measure_8 : decode b_Value_measure 8 = .ok (.aload_n 0, 1) := by sorry
theorem d_Value_measure_9 : decode b_Value_measure 9 = .ok (.getfield 9, 3) := by sorry
theorem d_Value_measure_12 : decode b_Value_measure 12 = .ok (.bipush 6, 2) := by sorry
theorem d_Value_measure_14 : decode b_Value_measure 14 = .ok (.if_icmp .ne 8, 3) := by sorry
theorem d_Value_measure_17 : decode b_Value_measure 17 = .ok (.aload_n 0, 1) := by sorry
theorem d_Value_measure_18 : decode b_Value_measure 18 = .ok (.invokevirtual 19, 3) := by sorry
theorem d_Value_measure_21 : decode b_Value_measure 21 = .ok (.ireturn, 1) := by sorry
theorem d_Value_measure_22 : decode b_Value_measure 22 = .ok (.aload_n 0, 1) := by sorry
theorem d_Value_measure_23 : decode b_Value_measure 23 = .ok (.getfield 9, 3) := by sorry
theorem d_Value_measure_26 : decode b_Value_measure 26 = .ok (.iconst 4, 1) := by sorry
theorem d_Value_measure_27 : decode b_Value_measure 27 = .ok (.if_icmp .eq 5, 3) := by sorry
theorem d_Value_measure_30 : decode b_Value_measure 30 = .ok (.iconst (-1), 1) := by sorry
theorem d_Value_measure_31 : decode b_Value_measure 31 = .ok (.ireturn, 1) := by sorry
theorem d_Value_measure_32 : decode b_Value_measure 32 = .ok (.iconst 0, 1) := by sorry
theorem d_Value_measure_33 : decode b_Value_measure 33 = .ok (.istore_n 1, 1) := by sorry
theorem d_Value_measure_34 : decode b_Value_measure 34 = .ok (.iconst 0, 1) := by sorry
theorem d_Value_measure_35 : decode b_Value_measure 35 = .ok (.istore_n 2, 1) := by sorry
theorem d_Value_measure_36 : decode b_Value_measure 36 = .ok (.iload_n 2, 1) := by sorry
theorem d_Value_measure_37 : decode b_Value_measure 37 = .ok (.aload_n 0, 1) := by sorry
theorem d_Value_measure_38 : decode b_Value_measure 38 = .ok (.getfield 31, 3) := by sorry
theorem d_Value_measure_41 : decode b_Value_measure 41 = .ok (.arraylength, 1) := by sorry
theorem d_Value_measure_42 : decode b_Value_measure 42 = .ok (.if_icmp .ge 24, 3) := by sorry
theorem d_Value_measure_45 : decode b_Value_measure 45 = .ok (.aload_n 0, 1) := by sorry
theorem d_Value_measure_46 : decode b_Value_measure 46 = .ok (.getfield 31, 3) := by sorry
theorem d_Value_measure_49 : decode b_Value_measure 49 = .ok (.iload_n 2, 1) := by sorry
theorem d_Value_measure_50 : decode b_Value_measure 50 = .ok (.iaload, 1) := by sorry
theorem d_Value_measure_51 : decode b_Value_measure 51 = .ok (.invokestatic 34, 3) := by sorry
theorem d_Value_measure_54 : decode b_Value_measure 54 = .ok (.ifCond .ne 6, 3) := by sorry
theorem d_Value_measure_57 : decode b_Value_measure 57 = .ok (.iinc 1 1, 3) := by sorry
theorem d_Value_measure_60 : decode b_Value_measure 60 = .ok (.iinc 2 1, 3) := by sorry
theorem d_Value_measure_63 : decode b_Value_measure 63 = .ok (.goto (-27), 3) := by sorry
theorem d_Value_measure_66 : decode b_Value_measure 66 = .ok (.iload_n 1, 1) := by sorry
theorem d_Value_measure_67 : decode b_Value_measure 67 = .ok (.ireturn, 1) := by sorry
abbrev b_Value_rank : ByteArray := prog_11_method_9_code
def y_Value_rank : MethodName := ⟨"QueryBench$Value", "rank", "(I)I"⟩
abbrev k_Value_rank : Cond := .code y_Value_rank b_Value_rank 1 (some .int)
theorem i_Value_rank : k_Value_rank ∈ gtbl := by sorry
theorem d_Value_rank_0 : decode b_Value_rank 0 = .ok (.iload_n 0, 1) := by sorry
theorem d_Value_rank_1 : decode b_Value_rank 1 = .ok (.invokestatic 63, 3) := by sorry
theorem d_Value_rank_4 : decode b_Value_rank 4 = .ok (.ifCond .ne 10, 3) := by sorry
theorem d_Value_rank_7 : decode b_Value_rank 7 = .ok (.iload_n 0, 1) := by sorry
theorem d_Value_rank_8 : decode b_Value_rank 8 = .ok (.invokestatic 34, 3) := by sorry
theorem d_Value_rank_11 : decode b_Value_rank 11 = .ok (.ifCond .eq 10, 3) := by sorry
theorem d_Value_rank_14 : decode b_Value_rank 14 = .ok (.iload_n 0, 1) := by sorry
theorem d_Value_rank_15 : decode b_Value_rank 15 = .ok (.ldc 66, 2) := by sorry
theorem d_Value_rank_17 : decode b_Value_rank 17 = .ok (.iadd, 1) := by sorry
theorem d_Value_rank_18 : decode b_Value_rank 18 = .ok (.goto 4, 3) := by sorry
theorem d_Value_rank_21 : decode b_Value_rank 21 = .ok (.iload_n 0, 1) := by sorry
theorem d_Value_rank_22 : decode b_Value_rank 22 = .ok (.ireturn, 1) := by sorry
abbrev b_Value_lessText : ByteArray := prog_11_method_8_code
def y_Value_lessText : MethodName := ⟨"QueryBench$Value", "lessText", "([I[I)Z"⟩
abbrev k_Value_lessText : Cond := .code y_Value_lessText b_Value_lessText 4 (some .boolean)
theorem i_Value_lessText : k_Value_lessText ∈ gtbl := by sorry
theorem d_Value_lessText_0 : decode b_Value_lessText 0 = .ok (.aload_n 0, 1) := by sorry
theorem d_Value_lessText_1 : decode b_Value_lessText 1 = .ok (.arraylength, 1) := by sorry
theorem d_Value_lessText_2 : decode b_Value_lessText 2 = .ok (.aload_n 1, 1) := by sorry
theorem d_Value_lessText_3 : decode b_Value_lessText 3 = .ok (.arraylength, 1) := by sorry
theorem d_Value_lessText_4 : decode b_Value_lessText 4 = .ok (.invokestatic 53, 3) := by sorry
theorem d_Value_lessText_7 : decode b_Value_lessText 7 = .ok (.istore_n 2, 1) := by sorry
theorem d_Value_lessText_8 : decode b_Value_lessText 8 = .ok (.iconst 0, 1) := by sorry
theorem d_Value_lessText_9 : decode b_Value_lessText 9 = .ok (.istore_n 3, 1) := by sorry
theorem d_Value_lessText_10 : decode b_Value_lessText 10 = .ok (.iload_n 3, 1) := by sorry
theorem d_Value_lessText_11 : decode b_Value_lessText 11 = .ok (.iload_n 2, 1) := by sorry
theorem d_Value_lessText_12 : decode b_Value_lessText 12 = .ok (.if_icmp .ge 39, 3) := by sorry
theorem d_Value_lessText_15 : decode b_Value_lessText 15 = .ok (.aload_n 0, 1) := by sorry
theorem d_Value_lessText_16 : decode b_Value_lessText 16 = .ok (.iload_n 3, 1) := by sorry
theorem d_Value_lessText_17 : decode b_Value_lessText 17 = .ok (.iaload, 1) := by sorry
theorem d_Value_lessText_18 : decode b_Value_lessText 18 = .ok (.aload_n 1, 1) := by sorry
theorem d_Value_lessText_19 : decode b_Value_lessText 19 = .ok (.iload_n 3, 1) := by sorry
theorem d_Value_lessText_20 : decode b_Value_lessText 20 = .ok (.iaload, 1) := by sorry
theorem d_Value_lessText_21 : decode b_Value_lessText 21 = .ok (.if_icmp .eq 24, 3) := by sorry
theorem d_Value_lessText_24 : decode b_Value_lessText 24 = .ok (.aload_n 0, 1) := by sorry
theorem d_Value_lessText_25 : decode b_Value_lessText 25 = .ok (.iload_n 3, 1) := by sorry
theorem d_Value_lessText_26 : decode b_Value_lessText 26 = .ok (.iaload, 1) := by sorry
theorem d_Value_lessText_27 : decode b_Value_lessText 27 = .ok (.invokestatic 59, 3) := by sorry
theorem d_Value_lessText_30 : decode b_Value_lessText 30 = .ok (.aload_n 1, 1) := by sorry
theorem d_Value_lessText_31 : decode b_Value_lessText 31 = .ok (.iload_n 3, 1) := by sorry
theorem d_Value_lessText_32 : decode b_Value_lessText 32 = .ok (.iaload, 1) := by sorry
theorem d_Value_lessText_33 : decode b_Value_lessText 33 = .ok (.invokestatic 59, 3) := by sorry
theorem d_Value_lessText_36 : decode b_Value_lessText 36 = .ok (.if_icmp .ge 7, 3) := by sorry
theorem d_Value_lessText_39 : decode b_Value_lessText 39 = .ok (.iconst 1, 1) := by sorry
theorem d_Value_lessText_40 : decode b_Value_lessText 40 = .ok (.goto 4, 3) := by sorry
theorem d_Value_lessText_43 : decode b_Value_lessText 43 = .ok (.iconst 0, 1) := by sorry
theorem d_Value_lessText_44 : decode b_Value_lessText 44 = .ok (.ireturn, 1) := by sorry
theorem d_Value_lessText_45 : decode b_Value_lessText 45 = .ok (.iinc 3 1, 3) := by sorry
theorem d_Value_lessText_48 : decode b_Value_lessText 48 = .ok (.goto (-38), 3) := by sorry
theorem d_Value_lessText_51 : decode b_Value_lessText 51 = .ok (.aload_n 0, 1) := by sorry
theorem d_Value_lessText_52 : decode b_Value_lessText 52 = .ok (.arraylength, 1) := by sorry
theorem d_Value_lessText_53 : decode b_Value_lessText 53 = .ok (.aload_n 1, 1) := by sorry
theorem d_Value_lessText_54 : decode b_Value_lessText 54 = .ok (.arraylength, 1) := by sorry
theorem d_Value_lessText_55 : decode b_Value_lessText 55 = .ok (.if_icmp .ge 7, 3) := by sorry
theorem d_Value_lessText_58 : decode b_Value_lessText 58 = .ok (.iconst 1, 1) := by sorry
theorem d_Value_lessText_59 : decode b_Value_lessText 59 = .ok (.goto 4, 3) := by sorry
theorem d_Value_lessText_62 : decode b_Value_lessText 62 = .ok (.iconst 0, 1) := by sorry
theorem d_Value_lessText_63 : decode b_Value_lessText 63 = .ok (.ireturn, 1) := by sorry
abbrev b_Value_less : ByteArray := prog_11_method_7_code
def y_Value_less : MethodName := ⟨"QueryBench$Value", "less", "(LQueryBench$Value;LQueryBench$Value;)Z"⟩
abbrev k_Value_less : Cond := .code y_Value_less b_Value_less 2 (some .boolean)
theorem i_Value_less : k_Value_less ∈ gtbl := by sorry
theorem d_Value_less_0 : decode b_Value_less 0 = .ok (.aload_n 0, 1) := by sorry
theorem d_Value_less_1 : decode b_Value_less 1 = .ok (.ifnull 18, 3) := by sorry
theorem d_Value_less_4 : decode b_Value_less 4 = .ok (.aload_n 1, 1) := by sorry
theorem d_Value_less_5 : decode b_Value_less 5 = .ok (.ifnull 14, 3) := by sorry
theorem d_Value_less_8 : decode b_Value_less 8 = .ok (.aload_n 0, 1) := by sorry
theorem d_Value_less_9 : decode b_Value_less 9 = .ok (.getfield 9, 3) := by sorry
theorem d_Value_less_12 : decode b_Value_less 12 = .ok (.aload_n 1, 1) := by sorry
theorem d_Value_less_13 : decode b_Value_less 13 = .ok (.getfield 9, 3) := by sorry
theorem d_Value_less_16 : decode b_Value_less 16 = .ok (.if_icmp .eq 5, 3) := by sorry
theorem d_Value_less_19 : decode b_Value_less 19 = .ok (.iconst 0, 1) := by sorry
theorem d_Value_less_20 : decode b_Value_less 20 = .ok (.ireturn, 1) := by sorry
theorem d_Value_less_21 : decode b_Value_less 21 = .ok (.aload_n 0, 1) := by sorry
theorem d_Value_less_22 : decode b_Value_less 22 = .ok (.getfield 9, 3) := by sorry
theorem d_Value_less_25 : decode b_Value_less 25 = .ok (.iconst 3, 1) := by sorry
theorem d_Value_less_26 : decode b_Value_less 26 = .ok (.if_icmp .ne 21, 3) := by sorry
theorem d_Value_less_29 : decode b_Value_less 29 = .ok (.aload_n 0, 1) := by sorry
theorem d_Value_less_30 : decode b_Value_less 30 = .ok (.getfield 42, 3) := by sorry
theorem d_Value_less_33 : decode b_Value_less 33 = .ok (.aload_n 1, 1) := by sorry
theorem d_Value_less_34 : decode b_Value_less 34 = .ok (.getfield 42, 3) := by sorry
theorem d_Value_less_37 : decode b_Value_less 37 = .ok (.lcmp, 1) := by sorry
theorem d_Value_less_38 : decode b_Value_less 38 = .ok (.ifCond .ge 7, 3) := by sorry
theorem d_Value_less_41 : decode b_Value_less 41 = .ok (.iconst 1, 1) := by sorry
theorem d_Value_less_42 : decode b_Value_less 42 = .ok (.goto 4, 3) := by sorry
theorem d_Value_less_45 : decode b_Value_less 45 = .ok (.iconst 0, 1) := by sorry
theorem d_Value_less_46 : decode b_Value_less 46 = .ok (.ireturn, 1) := by sorry
theorem d_Value_less_47 : decode b_Value_less 47 = .ok (.aload_n 0, 1) := by sorry
theorem d_Value_less_48 : decode b_Value_less 48 = .ok (.getfield 9, 3) := by sorry
theorem d_Value_less_51 : decode b_Value_less 51 = .ok (.iconst 4, 1) := by sorry
theorem d_Value_less_52 : decode b_Value_less 52 = .ok (.if_icmp .ne 21, 3) := by sorry
theorem d_Value_less_55 : decode b_Value_less 55 = .ok (.aload_n 0, 1) := by sorry
theorem d_Value_less_56 : decode b_Value_less 56 = .ok (.getfield 31, 3) := by sorry
theorem d_Value_less_59 : decode b_Value_less 59 = .ok (.aload_n 1, 1) := by sorry
theorem d_Value_less_60 : decode b_Value_less 60 = .ok (.getfield 31, 3) := by sorry
theorem d_Value_less_63 : decode b_Value_less 63 = .ok (.invokestatic 50, 3) := by sorry
theorem d_Value_less_66 : decode b_Value_less 66 = .ok (.ifCond .eq 7, 3) := by sorry
theorem d_Value_less_69 : decode b_Value_less 69 = .ok (.iconst 1, 1) := by sorry
theorem d_Value_less_70 : decode b_Value_less 70 = .ok (.goto 4, 3) := by sorry
theorem d_Value_less_73 : decode b_Value_less 73 = .ok (.iconst 0, 1) := by sorry
theorem d_Value_less_74 : decode b_Value_less 74 = .ok (.ireturn, 1) := by sorry
end
section
theorem z_862 : (.instanceMethod ⟨"QueryBench$Value", "member", "([I)LQueryBench$Value;"⟩ : Cond) ∈ gtbl := by sorry
theorem z_863 : (.selects "QueryBench$Value" ⟨"QueryBench$Value", "member", "([I)LQueryBench$Value;"⟩ ⟨"QueryBench$Value", "member", "([I)LQueryBench$Value;"⟩ : Cond) ∈ gtbl := by sorry
theorem z_931 : (.methodLink "QueryBench$Value" 38 ⟨"QueryBench$Value", "sameFrom", "(LQueryBench$Value;LQueryBench$Value;I)Z"⟩ : Cond) ∈ gtbl := by sorry
theorem z_932 : (.static ⟨"QueryBench$Value", "sameFrom", "(LQueryBench$Value;LQueryBench$Value;I)Z"⟩ : Cond) ∈ gtbl := by sorry
theorem z_934 : (.methodLink "QueryBench$Value" 46 ⟨"QueryBench$Value", "member", "([I)LQueryBench$Value;"⟩ : Cond) ∈ gtbl := by sorry
abbrev b_Value_sameFrom : ByteArray := prog_11_method_6_code
def y_Value_sameFrom : MethodName := ⟨"QueryBench$Value", "sameFrom", "(LQueryBench$Value;LQueryBench$Value;I)Z"⟩
abbrev k_Value_sameFrom : Cond := .code y_Value_sameFrom b_Value_sameFrom 5 (some .boolean)
theorem i_Value_sameFrom : k_Value_sameFrom ∈ gtbl := by sorry
theorem d_Value_sameFrom_0 : decode b_Value_sameFrom 0 = .ok (.aload_n 0, 1) := by sorry
theorem d_Value_sameFrom_1 : decode b_Value_sameFrom 1 = .ok (.getfield 9, 3) := by sorry
theorem d_Value_sameFrom_4 : decode b_Value_sameFrom 4 = .ok (.aload_n 1, 1) := by sorry
theorem d_Value_sameFrom_5 : decode b_Value_sameFrom 5 = .ok (.getfield 9, 3) := by sorry
theorem d_Value_sameFrom_8 : decode b_Value_sameFrom 8 = .ok (.if_icmp .ne 20, 3) := by sorry
theorem d_Value_sameFrom_11 : decode b_Value_sameFrom 11 = .ok (.aload_n 0, 1) := by sorry
theorem d_Value_sameFrom_12 : decode b_Value_sameFrom 12 = .ok (.invokevirtual 19, 3) := by sorry
theorem d_Value_sameFrom_15 : decode b_Value_sameFrom 15 = .ok (.aload_n 1, 1) := by sorry
theorem d_Value_sameFrom_16 : decode b_Value_sameFrom 16 = .ok (.invokevirtual 19, 3) := by sorry
theorem d_Value_sameFrom_19 : decode b_Value_sameFrom 19 = .ok (.if_icmp .ne 9, 3) := by sorry
theorem d_Value_sameFrom_22 : decode b_Value_sameFrom 22 = .ok (.iload_n 2, 1) := by sorry
theorem d_Value_sameFrom_23 : decode b_Value_sameFrom 23 = .ok (.bipush 32, 2) := by sorry
theorem d_Value_sameFrom_25 : decode b_Value_sameFrom 25 = .ok (.if_icmp .le 5, 3) := by sorry
theorem d_Value_sameFrom_28 : decode b_Value_sameFrom 28 = .ok (.iconst 0, 1) := by sorry
theorem d_Value_sameFrom_29 : decode b_Value_sameFrom 29 = .ok (.ireturn, 1) := by sorry
theorem d_Value_sameFrom_30 : decode b_Value_sameFrom 30 = .ok (.aload_n 0, 1) := by sorry
theorem d_Value_sameFrom_31 : decode b_Value_sameFrom 31 = .ok (.getfield 9, 3) := by sorry
theorem d_Value_sameFrom_34 : decode b_Value_sameFrom 34 = .ok (.iconst 3, 1) := by sorry
theorem d_Value_sameFrom_35 : decode b_Value_sameFrom 35 = .ok (.if_icmp .ne 21, 3) := by sorry
theorem d_Value_sameFrom_38 : decode b_Value_sameFrom 38 = .ok (.aload_n 0, 1) := by sorry
theorem d_Value_sameFrom_39 : decode b_Value_sameFrom 39 = .ok (.getfield 42, 3) := by sorry
theorem d_Value_sameFrom_42 : decode b_Value_sameFrom 42 = .ok (.aload_n 1, 1) := by sorry
theorem d_Value_sameFrom_43 : decode b_Value_sameFrom 43 = .ok (.getfield 42, 3) := by sorry
theorem d_Value_sameFrom_46 : decode b_Value_sameFrom 46 = .ok (.lcmp, 1) := by sorry
theorem d_Value_sameFrom_47 : decode b_Value_sameFrom 47 = .ok (.ifCond .ne 7, 3) := by sorry
theorem d_Value_sameFrom_50 : decode b_Value_sameFrom 50 = .ok (.iconst 1, 1) := by sorry
theorem d_Value_sameFrom_51 : decode b_Value_sameFrom 51 = .ok (.goto 4, 3) := by sorry
theorem d_Value_sameFrom_54 : decode b_Value_sameFrom 54 = .ok (.iconst 0, 1) := by sorry
theorem d_Value_sameFrom_55 : decode b_Value_sameFrom 55 = .ok (.ireturn, 1) := by sorry
theorem d_Value_sameFrom_56 : decode b_Value_sameFrom 56 = .ok (.aload_n 0, 1) := by sorry
theorem d_Value_sameFrom_57 : decode b_Value_sameFrom 57 = .ok (.getfield 9, 3) := by sorry
theorem d_Value_sameFrom_60 : decode b_Value_sameFrom 60 = .ok (.iconst 4, 1) := by sorry
theorem d_Value_sameFrom_61 : decode b_Value_sameFrom 61 = .ok (.if_icmp .ne 15, 3) := by sorry
theorem d_Value_sameFrom_64 : decode b_Value_sameFrom 64 = .ok (.aload_n 0, 1) := by sorry
theorem d_Value_sameFrom_65 : decode b_Value_sameFrom 65 = .ok (.getfield 31, 3) := by sorry
theorem d_Value_sameFrom_68 : decode b_Value_sameFrom 68 = .ok (.aload_n 1, 1) := by sorry
theorem d_Value_sameFrom_69 : decode b_Value_sameFrom 69 = .ok (.getfield 31, 3) := by sorry
theorem d_Value_sameFrom_72 : decode b_Value_sameFrom 72 = .ok (.invokestatic 27, 3) := by sorry
theorem d_Value_sameFrom_75 : decode b_Value_sameFrom 75 = .ok (.ireturn, 1) := by sorry
theorem d_Value_sameFrom_76 : decode b_Value_sameFrom 76 = .ok (.iconst 0, 1) := by sorry
theorem d_Value_sameFrom_77 : decode b_Value_sameFrom 77 = .ok (.istore_n 3, 1) := by sorry
theorem d_Value_sameFrom_78 : decode b_Value_sameFrom 78 = .ok (.iload_n 3, 1) := by sorry
theorem d_Value_sameFrom_79 : decode b_Value_sameFrom 79 = .ok (.aload_n 0, 1) := by sorry
theorem d_Value_sameFrom_80 : decode b_Value_sameFrom 80 = .ok (.invokevirtual 19, 3) := by sorry
theorem d_Value_sameFrom_83 : decode b_Value_sameFrom 83 = .ok (.if_icmp .ge 65, 3) := by sorry
theorem d_Value_sameFrom_86 : decode b_Value_sameFrom 86 = .ok (.aload_n 0, 1) := by sorry
theorem d_Value_sameFrom_87 : decode b_Value_sameFrom 87 = .ok (.getfield 9, 3) := by sorry
theorem d_Value_sameFrom_90 : decode b_Value_sameFrom 90 = .ok (.iconst 5, 1) := by sorry
theorem d_Value_sameFrom_91 : decode b_Value_sameFrom 91 = .ok (.if_icmp .ne 12, 3) := by sorry
theorem d_Value_sameFrom_94 : decode b_Value_sameFrom 94 = .ok (.aload_n 1, 1) := by sorry
theorem d_Value_sameFrom_95 : decode b_Value_sameFrom 95 = .ok (.getfield 15, 3) := by sorry
theorem d_Value_sameFrom_98 : decode b_Value_sameFrom 98 = .ok (.iload_n 3, 1) := by sorry
theorem d_Value_sameFrom_99 : decode b_Value_sameFrom 99 = .ok (.aaload, 1) := by sorry
theorem d_Value_sameFrom_100 : decode b_Value_sameFrom 100 = .ok (.goto 16, 3) := by sorry
theorem d_Value_sameFrom_103 : decode b_Value_sameFrom 103 = .ok (.aload_n 1, 1) := by sorry
theorem d_Value_sameFrom_104 : decode b_Value_sameFrom 104 = .ok (.aload_n 0, 1) := by sorry
theorem d_Value_sameFrom_105 : decode b_Value_sameFrom 105 = .ok (.getfield 15, 3) := by sorry
theorem d_Value_sameFrom_108 : decode b_Value_sameFrom 108 = .ok (.iload_n 3, 1) := by sorry
theorem d_Value_sameFrom_109 : decode b_Value_sameFrom 109 = .ok (.aaload, 1) := by sorry
theorem d_Value_sameFrom_110 : decode b_Value_sameFrom 110 = .ok (.getfield 23, 3) := by sorry
theorem d_Value_sameFrom_113 : decode b_Value_sameFrom 113 = .ok (.invokevirtual 46, 3) := by sorry
theorem d_Value_sameFrom_116 : decode b_Value_sameFrom 116 = .ok (.astore 4, 2) := by sorry
theorem d_Value_sameFrom_118 : decode b_Value_sameFrom 118 = .ok (.aload 4, 2) := by sorry
theorem d_Value_sameFrom_120 : decode b_Value_sameFrom 120 = .ok (.ifnull 20, 3) := by sorry
theorem d_Value_sameFrom_123 : decode b_Value_sameFrom 123 = .ok (.aload_n 0, 1) := by sorry
theorem d_Value_sameFrom_124 : decode b_Value_sameFrom 124 = .ok (.getfield 15, 3) := by sorry
theorem d_Value_sameFrom_127 : decode b_Value_sameFrom 127 = .ok (.iload_n 3, 1) := by sorry
theorem d_Value_sameFrom_128 : decode b_Value_sameFrom 128 = .ok (.aaload, 1) := by sorry
theorem d_Value_sameFrom_129 : decode b_Value_sameFrom 129 = .ok (.aload 4, 2) := by sorry
theorem d_Value_sameFrom_131 : decode b_Value_sameFrom 131 = .ok (.iload_n 2, 1) := by sorry
theorem d_Value_sameFrom_132 : decode b_Value_sameFrom 132 = .ok (.iconst 1, 1) := by sorry
theorem d_Value_sameFrom_133 : decode b_Value_sameFrom 133 = .ok (.iadd, 1) := by sorry
theorem d_Value_sameFrom_134 : decode b_Value_sameFrom 134 = .ok (.invokestatic 38, 3) := by sorry
theorem d_Value_sameFrom_137 : decode b_Value_sameFrom 137 = .ok (.ifCond .ne 5, 3) := by sorry
theorem d_Value_sameFrom_140 : decode b_Value_sameFrom 140 = .ok (.iconst 0, 1) := by sorry
theorem d_Value_sameFrom_141 : decode b_Value_sameFrom 141 = .ok (.ireturn, 1) := by sorry
theorem d_Value_sameFrom_142 : decode b_Value_sameFrom 142 = .ok (.iinc 3 1, 3) := by sorry
theorem d_Value_sameFrom_145 : decode b_Value_sameFrom 145 = .ok (.goto (-67), 3) := by sorry
theorem d_Value_sameFrom_148 : decode b_Value_sameFrom 148 = .ok (.iconst 1, 1) := by sorry
theorem d_Value_sameFrom_149 : decode b_Value_sameFrom 149 = .ok (.ireturn, 1) := by sorry
abbrev b_Value_same : ByteArray := prog_11_method_5_code
def y_Value_same : MethodName := ⟨"QueryBench$Value", "same", "(LQueryBench$Value;LQueryBench$Value;)Z"⟩
abbrev k_Value_same : Cond := .code y_Value_same b_Value_same 2 (some .boolean)
theorem i_Value_same : k_Value_same ∈ gtbl := by sorry
theorem d_Value_same_0 : decode b_Value_same 0 = .ok (.aload_n 0, 1) := by sorry
theorem d_Value_same_1 : decode b_Value_same 1 = .ok (.ifnull 7, 3) := by sorry
theorem d_Value_same_4 : decode b_Value_same 4 = .ok (.aload_n 1, 1) := by sorry
theorem d_Value_same_5 : decode b_Value_same 5 = .ok (.ifnonnull 17, 3) := by sorry
theorem d_Value_same_8 : decode b_Value_same 8 = .ok (.aload_n 0, 1) := by sorry
theorem d_Value_same_9 : decode b_Value_same 9 = .ok (.ifnonnull 11, 3) := by sorry
theorem d_Value_same_12 : decode b_Value_same 12 = .ok (.aload_n 1, 1) := by sorry
theorem d_Value_same_13 : decode b_Value_same 13 = .ok (.ifnonnull 7, 3) := by sorry
theorem d_Value_same_16 : decode b_Value_same 16 = .ok (.iconst 1, 1) := by sorry
theorem d_Value_same_17 : decode b_Value_same 17 = .ok (.goto 4, 3) := by sorry
theorem d_Value_same_20 : decode b_Value_same 20 = .ok (.iconst 0, 1) := by sorry
theorem d_Value_same_21 : decode b_Value_same 21 = .ok (.ireturn, 1) := by sorry
theorem d_Value_same_22 : decode b_Value_same 22 = .ok (.aload_n 0, 1) := by sorry
theorem d_Value_same_23 : decode b_Value_same 23 = .ok (.aload_n 1, 1) := by sorry
theorem d_Value_same_24 : decode b_Value_same 24 = .ok (.iconst 0, 1) := by sorry
theorem d_Value_same_25 : decode b_Value_same 25 = .ok (.invokestatic 38, 3) := by sorry
theorem d_Value_same_28 : decode b_Value_same 28 = .ok (.ireturn, 1) := by sorry
end
section
/-- the class's texts: whose they are, the place of each in its class, its letters -/
def cstrs : List (String × Nat × String × List Int32) := [("QueryBench$Printer", 71, "null", [110, 117, 108, 108]), ("QueryBench$Printer", 77, "false", [102, 97, 108, 115, 101]), ("QueryBench$Printer", 79, "true", [116, 114, 117, 101]), ("QueryBench$Printer", 104, "\\u", [92, 117]), ("QueryBench$Printer", 106, "0123456789abcdef", [48, 49, 50, 51, 52, 53, 54, 55, 56, 57, 97, 98, 99, 100, 101, 102]), ("QueryBench$JsonReader", 70, "null", [110, 117, 108, 108]), ("QueryBench$JsonReader", 76, "false", [102, 97, 108, 115, 101]), ("QueryBench$JsonReader", 78, "true", [116, 114, 117, 101]), ("QueryBench$QueryReader", 221, "count", [99, 111, 117, 110, 116]), ("QueryBench$QueryReader", 230, "value", [118, 97, 108, 117, 101]), ("QueryBench$QueryReader", 236, "length", [108, 101, 110, 103, 116, 104]), ("QueryBench$QueryReader", 245, "true", [116, 114, 117, 101]), ("QueryBench$QueryReader", 247, "false", [102, 97, 108, 115, 101]), ("QueryBench$QueryReader", 249, "null", [110, 117, 108, 108])]
def ctx (k : Nat) (j : Nat) : Int32 := ((cstrs.getD k ("", 0, "", [])).2.2.2).getD j 0
def CE (K : Nat → Nat × Nat) (A : Nat → Prop) (U : State) (H : Heap) : Prop := ∀ (k : Nat) (x : String × Nat × String × List Int32), cstrs[k]? = some x → SX (K k).1 (K k).2 x.2.2.2.length (ctx k) A U H ∧ vk_R x.1 x.2.1 x.2.2.1 (K k).1 U
theorem CE.call {K : Nat → Nat × Nat} {A B : Nat → Prop} {s U : State} {H : Heap} (h : CE K A s s.heap) (hq : ∀ a : Nat, a < s.heap.size → ¬ A a → H[a]? = s.heap[a]?) (hF : ∀ q, B q → A q) (hW : s.WarmedH U.vm) : CE K B U H := by sorry
/-- the world of the class's methods: what a throw needs, its texts, its rows of values -/
abbrev ml (K : Nat → Nat × Nat) (dC : Nat → ClassId) (dI : Nat → Nat → Nat) (ws : va_W) (tys : List (ClassId × FieldType)) (sz : Heap) (U : State) : Prop := mp dC dI ws tys sz U ∧ NW U ∧ ZX (va_A ws sz.size) U U.heap ∧ CE K (va_A ws sz.size) U U.heap ∧ va_AO "QueryBench$Value" U
theorem ml_blind {K : Nat → Nat × Nat} {dC : Nat → ClassId} {dI : Nat → Nat → Nat} {ws : va_W} {tys : List (ClassId × FieldType)} {sz : Heap} {vs : List Value} : FrameBlind (va_Pc vs (ml K dC dI ws tys sz)) := by sorry
section CallQ
variable {p : Program} {l : Launch} {e : Env} {R : Room} {s : State} {m : MethodId} {args : Array Value} {below : List Frame} {meth : Method} {c : Code} {H : Heap} {locs : List Loc} {cells slots : Nat} {Q : State → Prop}
variable {mc ms : Nat} {free : Addr → Prop} {A0 A1 : Nat → Prop} {H0 : Heap} {a : Array Value} {pc : Nat} {ls : Array Slot} {st0 rest : List Value}
/-- behind a call that answers a reference or null, or throws -/
theorem vx_callq {S SX : Type} {post : Option Nat → S → Prop} {px : SX → Prop} {B : S → State → Prop} {BX : String → SX → State → Prop} {AX : Nat → Prop} (hr : vx_Run p l e R s m args below meth c H locs cells slots mc ms (F0 m pc ls st0) rest (va_Qq post B A1 a) (vx_X px BX AX) free) (hS : va_S A0 H0 H locs) (hA : ∀ q, q < H.size → A1 q → A0 q) (hf : ∀ q, free q → A0 q) (hAX : ∀ q, q < H.size → AX q → A0 q)
    (kx : ∀ (E : String) (ce : Cell) (q9 : Addr) (u : SX) (t : State) (H1 : Heap) (locs1 : List Loc), t.heap = H1 → s.vm.Alike t.vm → px u → BX E u t → H.size ≤ H1.size → (∀ q : Nat, q < H.size → ¬ AX q → H1[q]? = H[q]?) → va_S A0 H0 H1 locs1 → H1[q9]? = some ce → ce.vm = .none → s.vm.findClass E = some ce.cls → vx_W p l e R s m args below meth c H1 locs1 (cells + mc) (slots + ms) Q (F0 m pc ls rest) q9)
    (kk : ∀ (r : Option Nat) (u : S) (t : State) (H1 : Heap) (locs1 : List Loc), t.heap = H1 → s.vm.Alike t.vm → post r u → B u t → H.size ≤ H1.size → (∀ q : Nat, q < H.size → ¬ A1 q → H1[q]? = H[q]?) → va_S A0 H0 H1 locs1 → W p l e R s m args below meth c H1 locs1 (cells + mc) (slots + ms) Q (F0 m (pc + 3) ls (va_rf r :: rest))) : W p l e R s m args below meth c H locs cells slots Q (F0 m pc ls st0) := by sorry
end CallQ
theorem i_neN {x k : Int32} (z : Int) (e : k.toInt = z) (h : ¬ x = k) : x.toInt ≠ z := by sorry
abbrev IOB : String := "java/lang/IndexOutOfBoundsException"
/-- put: how much and what is left open -/
theorem w_put (l : Launch) (hl9 : l.stackTraces = false) (dC : Nat → ClassId) (dI : Nat → Nat → Nat) (cB : ClassId) (p1 pb : Nat) (sz : Heap) (rps : Value) (g : Nat → Int32) (k : Nat) (x : Int32) (hk0 : k ≤ 16384) : vx_Met l y_Printer_put (k_Printer_put :: gtbl) ({ frames := 8, cells := 1, slots := 6, locals := 110 }) (va_Pc [.ref p1, .int x] (mx dC dI [(p1, .inr (3, [.ref pb, .int (nI k), rps])), (pb, .inl (cB, 16384, .inl g))] [(cB, .byte)] sz))
    (va_Qv (fun (u : Nat × (Nat → Int32)) => u.1 ≤ 16384) (fun u t => mz dC dI [(p1, .inr (3, [.ref pb, .int (nI u.1), rps])), (pb, .inl (cB, 16384, .inl u.2))] [(cB, .byte)] (va_A [(p1, .inr (3, [.ref pb, .int (nI k), rps])), (pb, .inl (cB, 16384, .inl g))] sz.size) t ∧ szk sz t.heap 0 0) (va_A [(p1, .inr (3, [.ref pb, .int (nI k), rps])), (pb, .inl (cB, 16384, .inl g))] sz.size))
    (vx_X (fun (u : Nat × (Nat → Int32)) => u.1 ≤ 16384) (fun En u t => En = IOB ∧ mz dC dI [(p1, .inr (3, [.ref pb, .int (nI u.1), rps])), (pb, .inl (cB, 16384, .inl u.2))] [(cB, .byte)] (va_A [(p1, .inr (3, [.ref pb, .int (nI k), rps])), (pb, .inl (cB, 16384, .inl g))] sz.size) t) (va_A [(p1, .inr (3, [.ref pb, .int (nI k), rps])), (pb, .inl (cB, 16384, .inl g))] sz.size)) 1 6 (va_A [(p1, .inr (3, [.ref pb, .int (nI k), rps])), (pb, .inl (cB, 16384, .inl g))] sz.size) := by sorry
theorem w_putLetters (l : Launch) (hl9 : l.stackTraces = false) (dC : Nat → ClassId) (dI : Nat → Nat → Nat) (cB : ClassId) (p1 pb : Nat) (sz : Heap) (rps : Value) (g : Nat → Int32) (k : Nat) (sa av len : Nat) (b : Nat → Int32) (hk0 : k ≤ 16384) (hlen : len ≤ 1000) : vx_Met l y_Printer_putLetters (k_Printer_putLetters :: gtbl) ({ frames := 9, cells := 1, slots := 6, locals := 131 }) (va_Pc [.ref p1, .ref sa] (mt sa av len b dC dI [(p1, .inr (3, [.ref pb, .int (nI k), rps])), (pb, .inl (cB, 16384, .inl g))] [(cB, .byte)] sz))
    (va_Qv (fun (u : Nat × (Nat → Int32)) => u.1 ≤ 16384) (fun u t => mz dC dI [(p1, .inr (3, [.ref pb, .int (nI u.1), rps])), (pb, .inl (cB, 16384, .inl u.2))] [(cB, .byte)] (va_A [(p1, .inr (3, [.ref pb, .int (nI k), rps])), (pb, .inl (cB, 16384, .inl g))] sz.size) t ∧ szk sz t.heap 0 0) (va_A [(p1, .inr (3, [.ref pb, .int (nI k), rps])), (pb, .inl (cB, 16384, .inl g))] sz.size))
    (vx_X (fun (u : Nat × (Nat → Int32)) => u.1 ≤ 1000000) (fun En u t => En = IOB ∧ mz dC dI [(p1, .inr (3, [.ref pb, .int (nI u.1), rps])), (pb, .inl (cB, 16384, .inl u.2))] [(cB, .byte)] (va_A [(p1, .inr (3, [.ref pb, .int (nI k), rps])), (pb, .inl (cB, 16384, .inl g))] sz.size) t) (va_A [(p1, .inr (3, [.ref pb, .int (nI k), rps])), (pb, .inl (cB, 16384, .inl g))] sz.size)) 1 6 (va_A [(p1, .inr (3, [.ref pb, .int (nI k), rps])), (pb, .inl (cB, 16384, .inl g))] sz.size) := by sorry
end
section
theorem z_967 : (.constantLong "QueryBench$Printer" 94 10 : Cond) ∈ gtbl := by sorry
theorem toI9 {t : Nat} (ht : t < 2 ^ 63) : (lN t).toInt = (t : Int) := by sorry
/-- the power of ten goes on growing only below the number -/
theorem ten_grow {x : Int64} {n : Nat} (h1 : 1 ≤ n) (hn : n < 2 ^ 63) (h : lN n ≤ x / 10) : ∃ m, m < 2 ^ 63 ∧ x = lN m ∧ n * 10 ≤ m := by sorry
abbrev b_Printer_shortEscape : ByteArray := prog_5_method_11_code
def y_Printer_shortEscape : MethodName := ⟨"QueryBench$Printer", "shortEscape", "(II)I"⟩
abbrev k_Printer_shortEscape : Cond := .code y_Printer_shortEscape b_Printer_shortEscape 2 (some .int)
theorem i_Printer_shortEscape : k_Printer_shortEscape ∈ gtbl := by sorry
theorem d_Printer_shortEscape_0 : decode b_Printer_shortEscape 0 = .ok (.iload_n 0, 1) := by sorry
theorem d_Printer_shortEscape_1 : decode b_Printer_shortEscape 1 = .ok (.tableswitch 54 8 13 #[39, 42, 45, 54, 48, 51], 39) := by sorry
theorem d_Printer_shortEscape_40 : decode b_Printer_shortEscape 40 = .ok (.bipush 98, 2) := by sorry
theorem d_Printer_shortEscape_42 : decode b_Printer_shortEscape 42 = .ok (.ireturn, 1) := by sorry
theorem d_Printer_shortEscape_43 : decode b_Printer_shortEscape 43 = .ok (.bipush 116, 2) := by sorry
theorem d_Printer_shortEscape_45 : decode b_Printer_shortEscape 45 = .ok (.ireturn, 1) := by sorry
theorem d_Printer_shortEscape_46 : decode b_Printer_shortEscape 46 = .ok (.bipush 110, 2) := by sorry
theorem d_Printer_shortEscape_48 : decode b_Printer_shortEscape 48 = .ok (.ireturn, 1) := by sorry
theorem d_Printer_shortEscape_49 : decode b_Printer_shortEscape 49 = .ok (.bipush 102, 2) := by sorry
theorem d_Printer_shortEscape_51 : decode b_Printer_shortEscape 51 = .ok (.ireturn, 1) := by sorry
theorem d_Printer_shortEscape_52 : decode b_Printer_shortEscape 52 = .ok (.bipush 114, 2) := by sorry
theorem d_Printer_shortEscape_54 : decode b_Printer_shortEscape 54 = .ok (.ireturn, 1) := by sorry
theorem d_Printer_shortEscape_55 : decode b_Printer_shortEscape 55 = .ok (.iload_n 0, 1) := by sorry
theorem d_Printer_shortEscape_56 : decode b_Printer_shortEscape 56 = .ok (.iload_n 1, 1) := by sorry
theorem d_Printer_shortEscape_57 : decode b_Printer_shortEscape 57 = .ok (.if_icmp .eq 9, 3) := by sorry
theorem d_Printer_shortEscape_60 : decode b_Printer_shortEscape 60 = .ok (.iload_n 0, 1) := by sorry
theorem d_Printer_shortEscape_61 : decode b_Printer_shortEscape 61 = .ok (.bipush 92, 2) := by sorry
theorem d_Printer_shortEscape_63 : decode b_Printer_shortEscape 63 = .ok (.if_icmp .ne 7, 3) := by sorry
theorem d_Printer_shortEscape_66 : decode b_Printer_shortEscape 66 = .ok (.iload_n 0, 1) := by sorry
theorem d_Printer_shortEscape_67 : decode b_Printer_shortEscape 67 = .ok (.goto 4, 3) := by sorry
theorem d_Printer_shortEscape_70 : decode b_Printer_shortEscape 70 = .ok (.iconst 0, 1) := by sorry
theorem d_Printer_shortEscape_71 : decode b_Printer_shortEscape 71 = .ok (.ireturn, 1) := by sorry
set_option maxHeartbeats 4000000 in
set_option maxRecDepth 100000 in
/-- Printer.shortEscape -/
theorem c_Printer_shortEscape (l : Launch) (dC : Nat → ClassId) (dI : Nat → Nat → Nat) (sz : Heap) (x q : Int32) : Met l y_Printer_shortEscape (k_Printer_shortEscape :: gtbl) ({ frames := 0, cells := 0, slots := 0, locals := 0 }) (va_Pc [.int x, .int q] mT) (vp_Si (fun (r : Int32) => True)) 0 0 (fun _ => False) := by sorry
abbrev b_Printer_number : ByteArray := prog_5_method_8_code
def y_Printer_number : MethodName := ⟨"QueryBench$Printer", "number", "(J)V"⟩
abbrev k_Printer_number : Cond := .code y_Printer_number b_Printer_number 7 none
theorem i_Printer_number : k_Printer_number ∈ gtbl := by sorry
theorem d_Printer_number_0 : decode b_Printer_number 0 = .ok (.lload_n 1, 1) := by sorry
theorem d_Printer_number_1 : decode b_Printer_number 1 = .ok (.lconst 0, 1) := by sorry
theorem d_Printer_number_2 : decode b_Printer_number 2 = .ok (.lcmp, 1) := by sorry
theorem d_Printer_number_3 : decode b_Printer_number 3 = .ok (.ifCond .ge 8, 3) := by sorry
theorem d_Printer_number_6 : decode b_Printer_number 6 = .ok (.lload_n 1, 1) := by sorry
theorem d_Printer_number_7 : decode b_Printer_number 7 = .ok (.lneg, 1) := by sorry
theorem d_Printer_number_8 : decode b_Printer_number 8 = .ok (.goto 4, 3) := by sorry
theorem d_Printer_number_11 : decode b_Printer_number 11 = .ok (.lload_n 1, 1) := by sorry
theorem d_Printer_number_12 : decode b_Printer_number 12 = .ok (.lstore_n 3, 1) := by sorry
theorem d_Printer_number_13 : decode b_Printer_number 13 = .ok (.lload_n 1, 1) := by sorry
theorem d_Printer_number_14 : decode b_Printer_number 14 = .ok (.lconst 0, 1) := by sorry
theorem d_Printer_number_15 : decode b_Printer_number 15 = .ok (.lcmp, 1) := by sorry
theorem d_Printer_number_16 : decode b_Printer_number 16 = .ok (.ifCond .ge 9, 3) := by sorry
theorem d_Printer_number_19 : decode b_Printer_number 19 = .ok (.aload_n 0, 1) := by sorry
theorem d_Printer_number_20 : decode b_Printer_number 20 = .ok (.bipush 45, 2) := by sorry
theorem d_Printer_number_22 : decode b_Printer_number 22 = .ok (.invokevirtual 25, 3) := by sorry
theorem d_Printer_number_25 : decode b_Printer_number 25 = .ok (.lconst 1, 1) := by sorry
theorem d_Printer_number_26 : decode b_Printer_number 26 = .ok (.lstore 5, 2) := by sorry
theorem d_Printer_number_28 : decode b_Printer_number 28 = .ok (.lload 5, 2) := by sorry
theorem d_Printer_number_30 : decode b_Printer_number 30 = .ok (.lload_n 3, 1) := by sorry
theorem d_Printer_number_31 : decode b_Printer_number 31 = .ok (.ldc2_w 94, 3) := by sorry
theorem d_Printer_number_34 : decode b_Printer_number 34 = .ok (.ldiv, 1) := by sorry
theorem d_Printer_number_35 : decode b_Printer_number 35 = .ok (.lcmp, 1) := by sorry
theorem d_Printer_number_36 : decode b_Printer_number 36 = .ok (.ifCond .gt 14, 3) := by sorry
theorem d_Printer_number_39 : decode b_Printer_number 39 = .ok (.lload 5, 2) := by sorry
theorem d_Printer_number_41 : decode b_Printer_number 41 = .ok (.ldc2_w 94, 3) := by sorry
theorem d_Printer_number_44 : decode b_Printer_number 44 = .ok (.lmul, 1) := by sorry
theorem d_Printer_number_45 : decode b_Printer_number 45 = .ok (.lstore 5, 2) := by sorry
theorem d_Printer_number_47 : decode b_Printer_number 47 = .ok (.goto (-19), 3) := by sorry
theorem d_Printer_number_50 : decode b_Printer_number 50 = .ok (.lload 5, 2) := by sorry
theorem d_Printer_number_52 : decode b_Printer_number 52 = .ok (.lconst 0, 1) := by sorry
theorem d_Printer_number_53 : decode b_Printer_number 53 = .ok (.lcmp, 1) := by sorry
theorem d_Printer_number_54 : decode b_Printer_number 54 = .ok (.ifCond .le 30, 3) := by sorry
theorem d_Printer_number_57 : decode b_Printer_number 57 = .ok (.aload_n 0, 1) := by sorry
theorem d_Printer_number_58 : decode b_Printer_number 58 = .ok (.bipush 48, 2) := by sorry
theorem d_Printer_number_60 : decode b_Printer_number 60 = .ok (.lload_n 3, 1) := by sorry
theorem d_Printer_number_61 : decode b_Printer_number 61 = .ok (.lload 5, 2) := by sorry
theorem d_Printer_number_63 : decode b_Printer_number 63 = .ok (.ldiv, 1) := by sorry
theorem d_Printer_number_64 : decode b_Printer_number 64 = .ok (.ldc2_w 94, 3) := by sorry
theorem d_Printer_number_67 : decode b_Printer_number 67 = .ok (.lrem, 1) := by sorry
theorem d_Printer_number_68 : decode b_Printer_number 68 = .ok (.l2i, 1) := by sorry
theorem d_Printer_number_69 : decode b_Printer_number 69 = .ok (.iadd, 1) := by sorry
theorem d_Printer_number_70 : decode b_Printer_number 70 = .ok (.invokevirtual 25, 3) := by sorry
theorem d_Printer_number_73 : decode b_Printer_number 73 = .ok (.lload 5, 2) := by sorry
theorem d_Printer_number_75 : decode b_Printer_number 75 = .ok (.ldc2_w 94, 3) := by sorry
theorem d_Printer_number_78 : decode b_Printer_number 78 = .ok (.ldiv, 1) := by sorry
theorem d_Printer_number_79 : decode b_Printer_number 79 = .ok (.lstore 5, 2) := by sorry
theorem d_Printer_number_81 : decode b_Printer_number 81 = .ok (.goto (-31), 3) := by sorry
theorem d_Printer_number_84 : decode b_Printer_number 84 = .ok (.return_, 1) := by sorry
set_option maxHeartbeats 4000000 in
set_option maxRecDepth 100000 in
/-- Printer.number -/
theorem c_Printer_number (l : Launch) (hl9 : l.stackTraces = false) (dC : Nat → ClassId) (dI : Nat → Nat → Nat) (sz : Heap) (cB : ClassId) (p1 pb ps : Nat) (g : Nat → Int32) (k : Nat) (hk : k ≤ 16384) (x : Int64) : vx_Met l y_Printer_number (k_Printer_number :: gtbl) ({ frames := 9, cells := 1, slots := 6, locals := 150 }) (va_Pc [.ref p1, .long x] (mx dC dI ([(p1, .inr (3, [.ref pb, .int (nI k), .ref ps])), (pb, .inl (cB, 16384, .inl g))]) [(cB, .byte)] sz)) (va_Qv (fun (u : Nat × (Nat → Int32)) => u.1 ≤ 16384) (fun u t9 => mz dC dI ([(p1, .inr (3, [.ref pb, .int (nI u.1), .ref ps])), (pb, .inl (cB, 16384, .inl u.2))]) [(cB, .byte)] (va_A ([(p1, .inr (3, [.ref pb, .int (nI k), .ref ps])), (pb, .inl (cB, 16384, .inl g))]) sz.size) t9 ∧ szk sz t9.heap (0) (0)) (va_A ([(p1, .inr (3, [.ref pb, .int (nI k), .ref ps])), (pb, .inl (cB, 16384, .inl g))]) sz.size)) (vx_X (fun (u : Int32 × (Nat → Int32)) => True) (fun En u t9 => En = IOB ∧ mz dC dI ([(p1, .inr (3, [.ref pb, .int u.1, .ref ps])), (pb, .inl (cB, 16384, .inl u.2))]) [(cB, .byte)] (va_A ([(p1, .inr (3, [.ref pb, .int (nI k), .ref ps])), (pb, .inl (cB, 16384, .inl g))]) sz.size) t9) (va_A ([(p1, .inr (3, [.ref pb, .int (nI k), .ref ps])), (pb, .inl (cB, 16384, .inl g))]) sz.size)) (1) (6) (va_A ([(p1, .inr (3, [.ref pb, .int (nI k), .ref ps])), (pb, .inl (cB, 16384, .inl g))]) sz.size) := by sorry
end
section
theorem z_972 : (.methodLink "QueryBench$Printer" 96 ⟨"QueryBench$Printer", "unit", "(II)V"⟩ : Cond) ∈ gtbl := by sorry
theorem z_974 : (.instanceMethod ⟨"QueryBench$Printer", "unit", "(II)V"⟩ : Cond) ∈ gtbl := by sorry
theorem z_976 : (.methodLink "QueryBench$Printer" 100 ⟨"QueryBench$Printer", "shortEscape", "(II)I"⟩ : Cond) ∈ gtbl := by sorry
theorem z_977 : (.static ⟨"QueryBench$Printer", "shortEscape", "(II)I"⟩ : Cond) ∈ gtbl := by sorry
theorem z_980 : (.methodLink "QueryBench$Printer" 73 ⟨"QueryBench$Printer", "putLetters", "(Ljava/lang/String;)V"⟩ : Cond) ∈ gtbl := by sorry
theorem z_982 : (.instanceMethod ⟨"QueryBench$Printer", "putLetters", "(Ljava/lang/String;)V"⟩ : Cond) ∈ gtbl := by sorry
section PoolRows2
variable {p : Program} {l : Launch} {e : Env} {R : Room} {s : State} {m : MethodId} {args : Array Value} {below : List Frame} {meth : Method} {c : Code} {H : Heap} {locs : List Loc} {cells slots : Nat} {Q : State → Prop}
variable {cc : ByteArray} {pc : Nat} {ls : Array Slot} {rest : List Value} {D : va_G} {cl : List vw_C} {A : Nat → Prop} {a : Nat} {tys : List (ClassId × FieldType)} {X : va_W} {L : List Nat} {f : Nat → va_E} {H0 : Heap} {ws : va_W}
/-- an object of the pool into a row beside it -/
theorem vq_ast (hexec : p.tables.exec = Jvm.exec) (hb : c.code = cc) (hK : va_K D cl tys s) (hP : va_P D cl (X ++ va_pl L f) H) (hD : va_D A (X ++ va_pl L f)) (hS : va_S A H0 H locs) (q0 t0 ci : Nat) {cA : ClassId} {C : String} {T : u_T} {N n v : Nat} {vs : List Value} {g : Nat → Option Nat} (ha : (X ++ va_pl L f)[q0]? = some (a, .inl (cA, n, .inr (.inr (.inr (.inr g)))))) (ht : tys[t0]? = some (cA, .object C)) (hv : v ∈ L) (he : f v = .inr (ci, vs)) (hc : cl[ci]? = some (C, T, N)) {j : Nat} (hj : j < n) (hn : n ≤ 1000000) (hdg : decode cc pc = .ok (.aastore, 1))
    (kk : ∀ (H1 : Heap) (locs1 : List Loc), va_P D cl ((X ++ va_pl L f).set q0 (a, .inl (cA, n, .inr (.inr (.inr (.inr (va_up g j (some v)))))))) H1 → va_D A ((X ++ va_pl L f).set q0 (a, .inl (cA, n, .inr (.inr (.inr (.inr (va_up g j (some v)))))))) → va_S A H0 H1 locs1 → W p l e R s m args below meth c H1 locs1 cells slots Q (F0 m (pc + 1) ls rest)) : W p l e R s m args below meth c H locs cells slots Q (F0 m pc ls (.ref v :: .int (nI j) :: .ref a :: rest)) := by sorry
/-- a row of values: what is known to be there -/
theorem vq_ald0 (hexec : p.tables.exec = Jvm.exec) (hb : c.code = cc) (hK : va_K D cl tys s) (hP : va_P D cl ws H) (q0 t0 : Nat) {cA : ClassId} {C : String} {n : Nat} {g : Nat → Option Nat} (ha : ws[q0]? = some (a, .inl (cA, n, .inr (.inr (.inr (.inr g)))))) (ht : tys[t0]? = some (cA, .object C)) {j : Nat} {o : Option Nat} (hj : j < n) (hn : n ≤ 1000000) (hg : g j = o) (hdg : decode cc pc = .ok (.aaload, 1))
    (kk : W p l e R s m args below meth c H locs cells slots Q (F0 m (pc + 1) ls (va_rf o :: rest))) : W p l e R s m args below meth c H locs cells slots Q (F0 m pc ls (.int (nI j) :: .ref a :: rest)) := by sorry
end PoolRows2
theorem nI_neg1 (j : Nat) : nI j - 1 = nI j + Int32.ofInt (-1) := by sorry
abbrev sh5 (x : Int32) : Prop := x = 12 ∨ x = 8 ∨ x = 4 ∨ x = 0 ∨ x = -4
theorem sh5_s {x : Int32} (h : sh5 x) (h0 : ¬ x < 0) : sh5 (x + Int32.ofInt (-4)) ∧ (x + Int32.ofInt (-4) + 4).toInt.toNat < (x + 4).toInt.toNat := by sorry
abbrev b_Printer_unit : ByteArray := prog_5_method_10_code
def y_Printer_unit : MethodName := ⟨"QueryBench$Printer", "unit", "(II)V"⟩
abbrev k_Printer_unit : Cond := .code y_Printer_unit b_Printer_unit 5 none
theorem i_Printer_unit : k_Printer_unit ∈ gtbl := by sorry
theorem d_Printer_unit_0 : decode b_Printer_unit 0 = .ok (.iload_n 1, 1) := by sorry
theorem d_Printer_unit_1 : decode b_Printer_unit 1 = .ok (.iload_n 2, 1) := by sorry
theorem d_Printer_unit_2 : decode b_Printer_unit 2 = .ok (.invokestatic 100, 3) := by sorry
theorem d_Printer_unit_5 : decode b_Printer_unit 5 = .ok (.istore_n 3, 1) := by sorry
theorem d_Printer_unit_6 : decode b_Printer_unit 6 = .ok (.iload_n 3, 1) := by sorry
theorem d_Printer_unit_7 : decode b_Printer_unit 7 = .ok (.ifCond .eq 17, 3) := by sorry
theorem d_Printer_unit_10 : decode b_Printer_unit 10 = .ok (.aload_n 0, 1) := by sorry
theorem d_Printer_unit_11 : decode b_Printer_unit 11 = .ok (.bipush 92, 2) := by sorry
theorem d_Printer_unit_13 : decode b_Printer_unit 13 = .ok (.invokevirtual 25, 3) := by sorry
theorem d_Printer_unit_16 : decode b_Printer_unit 16 = .ok (.aload_n 0, 1) := by sorry
theorem d_Printer_unit_17 : decode b_Printer_unit 17 = .ok (.iload_n 3, 1) := by sorry
theorem d_Printer_unit_18 : decode b_Printer_unit 18 = .ok (.invokevirtual 25, 3) := by sorry
theorem d_Printer_unit_21 : decode b_Printer_unit 21 = .ok (.goto 60, 3) := by sorry
theorem d_Printer_unit_24 : decode b_Printer_unit 24 = .ok (.iload_n 1, 1) := by sorry
theorem d_Printer_unit_25 : decode b_Printer_unit 25 = .ok (.bipush 32, 2) := by sorry
theorem d_Printer_unit_27 : decode b_Printer_unit 27 = .ok (.if_icmp .lt 17, 3) := by sorry
theorem d_Printer_unit_30 : decode b_Printer_unit 30 = .ok (.iload_n 1, 1) := by sorry
theorem d_Printer_unit_31 : decode b_Printer_unit 31 = .ok (.bipush 126, 2) := by sorry
theorem d_Printer_unit_33 : decode b_Printer_unit 33 = .ok (.if_icmp .gt 11, 3) := by sorry
theorem d_Printer_unit_36 : decode b_Printer_unit 36 = .ok (.aload_n 0, 1) := by sorry
theorem d_Printer_unit_37 : decode b_Printer_unit 37 = .ok (.iload_n 1, 1) := by sorry
theorem d_Printer_unit_38 : decode b_Printer_unit 38 = .ok (.invokevirtual 25, 3) := by sorry
theorem d_Printer_unit_41 : decode b_Printer_unit 41 = .ok (.goto 40, 3) := by sorry
theorem d_Printer_unit_44 : decode b_Printer_unit 44 = .ok (.aload_n 0, 1) := by sorry
theorem d_Printer_unit_45 : decode b_Printer_unit 45 = .ok (.ldc 104, 2) := by sorry
theorem d_Printer_unit_47 : decode b_Printer_unit 47 = .ok (.invokevirtual 73, 3) := by sorry
theorem d_Printer_unit_50 : decode b_Printer_unit 50 = .ok (.bipush 12, 2) := by sorry
theorem d_Printer_unit_52 : decode b_Printer_unit 52 = .ok (.istore 4, 2) := by sorry
theorem d_Printer_unit_54 : decode b_Printer_unit 54 = .ok (.iload 4, 2) := by sorry
theorem d_Printer_unit_56 : decode b_Printer_unit 56 = .ok (.ifCond .lt 25, 3) := by sorry
theorem d_Printer_unit_59 : decode b_Printer_unit 59 = .ok (.aload_n 0, 1) := by sorry
theorem d_Printer_unit_60 : decode b_Printer_unit 60 = .ok (.ldc 106, 2) := by sorry
theorem d_Printer_unit_62 : decode b_Printer_unit 62 = .ok (.iload_n 1, 1) := by sorry
theorem d_Printer_unit_63 : decode b_Printer_unit 63 = .ok (.iload 4, 2) := by sorry
theorem d_Printer_unit_65 : decode b_Printer_unit 65 = .ok (.ishr, 1) := by sorry
theorem d_Printer_unit_66 : decode b_Printer_unit 66 = .ok (.bipush 15, 2) := by sorry
theorem d_Printer_unit_68 : decode b_Printer_unit 68 = .ok (.iand, 1) := by sorry
theorem d_Printer_unit_69 : decode b_Printer_unit 69 = .ok (.invokevirtual 45, 3) := by sorry
theorem d_Printer_unit_72 : decode b_Printer_unit 72 = .ok (.invokevirtual 25, 3) := by sorry
theorem d_Printer_unit_75 : decode b_Printer_unit 75 = .ok (.iinc 4 (-4), 3) := by sorry
theorem d_Printer_unit_78 : decode b_Printer_unit 78 = .ok (.goto (-24), 3) := by sorry
theorem d_Printer_unit_81 : decode b_Printer_unit 81 = .ok (.return_, 1) := by sorry
set_option maxHeartbeats 4000000 in
set_option maxRecDepth 100000 in
/-- Printer.unit -/
theorem c_Printer_unit (l : Launch) (hl9 : l.stackTraces = false) (K : Nat → Nat × Nat) (dC : Nat → ClassId) (dI : Nat → Nat → Nat) (sz : Heap) (cB : ClassId) (p1 pb ps : Nat) (g : Nat → Int32) (k : Nat) (hk : k ≤ 16384) (x q : Int32) : vx_Met l y_Printer_unit (k_Printer_unit :: gtbl) ({ frames := 10, cells := 1, slots := 6, locals := 190 }) (va_Pc [.ref p1, .int x, .int q] (ml K dC dI ([(p1, .inr (3, [.ref pb, .int (nI k), .ref ps])), (pb, .inl (cB, 16384, .inl g))]) [(cB, .byte)] sz)) (va_Qv (fun (u : Nat × (Nat → Int32)) => u.1 ≤ 16384) (fun u t9 => mz dC dI ([(p1, .inr (3, [.ref pb, .int (nI u.1), .ref ps])), (pb, .inl (cB, 16384, .inl u.2))]) [(cB, .byte)] (va_A ([(p1, .inr (3, [.ref pb, .int (nI k), .ref ps])), (pb, .inl (cB, 16384, .inl g))]) sz.size) t9 ∧ szk sz t9.heap (0) (0)) (va_A ([(p1, .inr (3, [.ref pb, .int (nI k), .ref ps])), (pb, .inl (cB, 16384, .inl g))]) sz.size)) (vx_X (fun (u : Int32 × (Nat → Int32)) => True) (fun En u t9 => En = IOB ∧ mz dC dI ([(p1, .inr (3, [.ref pb, .int u.1, .ref ps])), (pb, .inl (cB, 16384, .inl u.2))]) [(cB, .byte)] (va_A ([(p1, .inr (3, [.ref pb, .int (nI k), .ref ps])), (pb, .inl (cB, 16384, .inl g))]) sz.size) t9) (va_A ([(p1, .inr (3, [.ref pb, .int (nI k), .ref ps])), (pb, .inl (cB, 16384, .inl g))]) sz.size)) (1) (6) (va_A ([(p1, .inr (3, [.ref pb, .int (nI k), .ref ps])), (pb, .inl (cB, 16384, .inl g))]) sz.size) := by sorry
abbrev b_Printer_text : ByteArray := prog_5_method_9_code
def y_Printer_text : MethodName := ⟨"QueryBench$Printer", "text", "([II)V"⟩
abbrev k_Printer_text : Cond := .code y_Printer_text b_Printer_text 4 none
theorem i_Printer_text : k_Printer_text ∈ gtbl := by sorry
theorem d_Printer_text_0 : decode b_Printer_text 0 = .ok (.aload_n 0, 1) := by sorry
theorem d_Printer_text_1 : decode b_Printer_text 1 = .ok (.iload_n 2, 1) := by sorry
theorem d_Printer_text_2 : decode b_Printer_text 2 = .ok (.invokevirtual 25, 3) := by sorry
theorem d_Printer_text_5 : decode b_Printer_text 5 = .ok (.iconst 0, 1) := by sorry
theorem d_Printer_text_6 : decode b_Printer_text 6 = .ok (.istore_n 3, 1) := by sorry
theorem d_Printer_text_7 : decode b_Printer_text 7 = .ok (.iload_n 3, 1) := by sorry
theorem d_Printer_text_8 : decode b_Printer_text 8 = .ok (.aload_n 1, 1) := by sorry
theorem d_Printer_text_9 : decode b_Printer_text 9 = .ok (.arraylength, 1) := by sorry
theorem d_Printer_text_10 : decode b_Printer_text 10 = .ok (.if_icmp .ge 17, 3) := by sorry
theorem d_Printer_text_13 : decode b_Printer_text 13 = .ok (.aload_n 0, 1) := by sorry
theorem d_Printer_text_14 : decode b_Printer_text 14 = .ok (.aload_n 1, 1) := by sorry
theorem d_Printer_text_15 : decode b_Printer_text 15 = .ok (.iload_n 3, 1) := by sorry
theorem d_Printer_text_16 : decode b_Printer_text 16 = .ok (.iaload, 1) := by sorry
theorem d_Printer_text_17 : decode b_Printer_text 17 = .ok (.iload_n 2, 1) := by sorry
theorem d_Printer_text_18 : decode b_Printer_text 18 = .ok (.invokevirtual 96, 3) := by sorry
theorem d_Printer_text_21 : decode b_Printer_text 21 = .ok (.iinc 3 1, 3) := by sorry
theorem d_Printer_text_24 : decode b_Printer_text 24 = .ok (.goto (-17), 3) := by sorry
theorem d_Printer_text_27 : decode b_Printer_text 27 = .ok (.aload_n 0, 1) := by sorry
theorem d_Printer_text_28 : decode b_Printer_text 28 = .ok (.iload_n 2, 1) := by sorry
theorem d_Printer_text_29 : decode b_Printer_text 29 = .ok (.invokevirtual 25, 3) := by sorry
theorem d_Printer_text_32 : decode b_Printer_text 32 = .ok (.return_, 1) := by sorry
set_option maxHeartbeats 4000000 in
set_option maxRecDepth 100000 in
/-- Printer.text -/
theorem c_Printer_text (l : Launch) (hl9 : l.stackTraces = false) (K : Nat → Nat × Nat) (dC : Nat → ClassId) (dI : Nat → Nat → Nat) (sz : Heap) (cI cV : ClassId) (E lv : Nat → Nat) (L : List Nat) (f : Nat → va_E) (hO : PO cI cV E lv L f) (cB : ClassId) (p1 pb ps : Nat) (g : Nat → Int32) (k : Nat) (hk : k ≤ 16384) (tx : Nat) (htx : E tx = 4) (q : Int32) : vx_Met l y_Printer_text (k_Printer_text :: gtbl) ({ frames := 11, cells := 1, slots := 6, locals := 230 }) (va_Pc [.ref p1, .ref tx, .int q] (ml K dC dI ([(p1, .inr (3, [.ref pb, .int (nI k), .ref ps])), (pb, .inl (cB, 16384, .inl g))] ++ va_pl L f) [(cB, .byte), (cI, .int), (cV, .object "QueryBench$Value")] sz)) (va_Qv (fun (u : Nat × (Nat → Int32)) => u.1 ≤ 16384) (fun u t9 => mz dC dI ([(p1, .inr (3, [.ref pb, .int (nI u.1), .ref ps])), (pb, .inl (cB, 16384, .inl u.2))] ++ va_pl L f) [(cB, .byte), (cI, .int), (cV, .object "QueryBench$Value")] (va_A ([(p1, .inr (3, [.ref pb, .int (nI k), .ref ps])), (pb, .inl (cB, 16384, .inl g))] ++ va_pl L f) sz.size) t9 ∧ szk sz t9.heap (0) (0)) (va_A ([(p1, .inr (3, [.ref pb, .int (nI k), .ref ps])), (pb, .inl (cB, 16384, .inl g))] ++ va_pl L f) sz.size)) (vx_X (fun (u : Int32 × (Nat → Int32)) => True) (fun En u t9 => En = IOB ∧ mz dC dI ([(p1, .inr (3, [.ref pb, .int u.1, .ref ps])), (pb, .inl (cB, 16384, .inl u.2))] ++ va_pl L f) [(cB, .byte), (cI, .int), (cV, .object "QueryBench$Value")] (va_A ([(p1, .inr (3, [.ref pb, .int (nI k), .ref ps])), (pb, .inl (cB, 16384, .inl g))] ++ va_pl L f) sz.size) t9) (va_A ([(p1, .inr (3, [.ref pb, .int (nI k), .ref ps])), (pb, .inl (cB, 16384, .inl g))] ++ va_pl L f) sz.size)) (1) (6) (va_A ([(p1, .inr (3, [.ref pb, .int (nI k), .ref ps])), (pb, .inl (cB, 16384, .inl g))] ++ va_pl L f) sz.size) := by sorry
end
section
theorem z_314 : (.fieldLink "QueryBench$Printer" 68 "QueryBench$Value" "kind" "I" : Cond) ∈ gtbl := by sorry
theorem z_318 : (.fieldLink "QueryBench$Printer" 81 "QueryBench$Value" "number" "J" : Cond) ∈ gtbl := by sorry
theorem z_323 : (.fieldLink "QueryBench$Printer" 84 "QueryBench$Value" "text" "[I" : Cond) ∈ gtbl := by sorry
theorem z_326 : (.fieldLink "QueryBench$Printer" 92 "QueryBench$Value" "members" "[LQueryBench$Value;" : Cond) ∈ gtbl := by sorry
theorem z_329 : (.fieldLink "QueryBench$Printer" 49 "QueryBench$Value" "parent" "LQueryBench$Value;" : Cond) ∈ gtbl := by sorry
theorem z_332 : (.fieldLink "QueryBench$Printer" 53 "QueryBench$Value" "name" "[I" : Cond) ∈ gtbl := by sorry
theorem z_334 : (.fieldLink "QueryBench$Printer" 57 "QueryBench$Value" "index" "I" : Cond) ∈ gtbl := by sorry
theorem z_953 : (.methodLink "QueryBench$Printer" 21 ⟨"QueryBench$Printer", "path", "(LQueryBench$Value;)V"⟩ : Cond) ∈ gtbl := by sorry
theorem z_955 : (.instanceMethod ⟨"QueryBench$Printer", "path", "(LQueryBench$Value;)V"⟩ : Cond) ∈ gtbl := by sorry
theorem z_963 : (.methodLink "QueryBench$Printer" 60 ⟨"QueryBench$Printer", "number", "(J)V"⟩ : Cond) ∈ gtbl := by sorry
theorem z_965 : (.instanceMethod ⟨"QueryBench$Printer", "number", "(J)V"⟩ : Cond) ∈ gtbl := by sorry
theorem z_968 : (.methodLink "QueryBench$Printer" 64 ⟨"QueryBench$Printer", "text", "([II)V"⟩ : Cond) ∈ gtbl := by sorry
theorem z_970 : (.instanceMethod ⟨"QueryBench$Printer", "text", "([II)V"⟩ : Cond) ∈ gtbl := by sorry
theorem z_987 : (.methodLink "QueryBench$Printer" 29 ⟨"QueryBench$Printer", "value", "(LQueryBench$Value;I)V"⟩ : Cond) ∈ gtbl := by sorry
theorem z_989 : (.instanceMethod ⟨"QueryBench$Printer", "value", "(LQueryBench$Value;I)V"⟩ : Cond) ∈ gtbl := by sorry
theorem z_994 : (.methodLink "QueryBench$Printer" 86 ⟨"QueryBench$Printer", "members", "(LQueryBench$Value;I)V"⟩ : Cond) ∈ gtbl := by sorry
theorem z_996 : (.instanceMethod ⟨"QueryBench$Printer", "members", "(LQueryBench$Value;I)V"⟩ : Cond) ∈ gtbl := by sorry
theorem z_998 : (.methodLink "QueryBench$Printer" 89 ⟨"QueryBench$Value", "size", "()I"⟩ : Cond) ∈ gtbl := by sorry
abbrev b_Printer_path : ByteArray := prog_5_method_5_code
def y_Printer_path : MethodName := ⟨"QueryBench$Printer", "path", "(LQueryBench$Value;)V"⟩
abbrev k_Printer_path : Cond := .code y_Printer_path b_Printer_path 4 none
theorem i_Printer_path : k_Printer_path ∈ gtbl := by sorry
theorem d_Printer_path_0 : decode b_Printer_path 0 = .ok (.iconst 0, 1) := by sorry
theorem d_Printer_path_1 : decode b_Printer_path 1 = .ok (.istore_n 2, 1) := by sorry
theorem d_Printer_path_2 : decode b_Printer_path 2 = .ok (.aload_n 1, 1) := by sorry
theorem d_Printer_path_3 : decode b_Printer_path 3 = .ok (.astore_n 3, 1) := by sorry
theorem d_Printer_path_4 : decode b_Printer_path 4 = .ok (.aload_n 3, 1) := by sorry
theorem d_Printer_path_5 : decode b_Printer_path 5 = .ok (.getfield 49, 3) := by sorry
theorem d_Printer_path_8 : decode b_Printer_path 8 = .ok (.ifnull 27, 3) := by sorry
theorem d_Printer_path_11 : decode b_Printer_path 11 = .ok (.iload_n 2, 1) := by sorry
theorem d_Printer_path_12 : decode b_Printer_path 12 = .ok (.bipush 32, 2) := by sorry
theorem d_Printer_path_14 : decode b_Printer_path 14 = .ok (.if_icmp .ge 21, 3) := by sorry
theorem d_Printer_path_17 : decode b_Printer_path 17 = .ok (.aload_n 0, 1) := by sorry
theorem d_Printer_path_18 : decode b_Printer_path 18 = .ok (.getfield 17, 3) := by sorry
theorem d_Printer_path_21 : decode b_Printer_path 21 = .ok (.iload_n 2, 1) := by sorry
theorem d_Printer_path_22 : decode b_Printer_path 22 = .ok (.aload_n 3, 1) := by sorry
theorem d_Printer_path_23 : decode b_Printer_path 23 = .ok (.aastore, 1) := by sorry
theorem d_Printer_path_24 : decode b_Printer_path 24 = .ok (.iinc 2 1, 3) := by sorry
theorem d_Printer_path_27 : decode b_Printer_path 27 = .ok (.aload_n 3, 1) := by sorry
theorem d_Printer_path_28 : decode b_Printer_path 28 = .ok (.getfield 49, 3) := by sorry
theorem d_Printer_path_31 : decode b_Printer_path 31 = .ok (.astore_n 3, 1) := by sorry
theorem d_Printer_path_32 : decode b_Printer_path 32 = .ok (.goto (-28), 3) := by sorry
theorem d_Printer_path_35 : decode b_Printer_path 35 = .ok (.aload_n 0, 1) := by sorry
theorem d_Printer_path_36 : decode b_Printer_path 36 = .ok (.bipush 36, 2) := by sorry
theorem d_Printer_path_38 : decode b_Printer_path 38 = .ok (.invokevirtual 25, 3) := by sorry
theorem d_Printer_path_41 : decode b_Printer_path 41 = .ok (.iload_n 2, 1) := by sorry
theorem d_Printer_path_42 : decode b_Printer_path 42 = .ok (.iconst 1, 1) := by sorry
theorem d_Printer_path_43 : decode b_Printer_path 43 = .ok (.isub, 1) := by sorry
theorem d_Printer_path_44 : decode b_Printer_path 44 = .ok (.istore_n 3, 1) := by sorry
theorem d_Printer_path_45 : decode b_Printer_path 45 = .ok (.iload_n 3, 1) := by sorry
theorem d_Printer_path_46 : decode b_Printer_path 46 = .ok (.ifCond .lt 65, 3) := by sorry
theorem d_Printer_path_49 : decode b_Printer_path 49 = .ok (.aload_n 0, 1) := by sorry
theorem d_Printer_path_50 : decode b_Printer_path 50 = .ok (.bipush 91, 2) := by sorry
theorem d_Printer_path_52 : decode b_Printer_path 52 = .ok (.invokevirtual 25, 3) := by sorry
theorem d_Printer_path_55 : decode b_Printer_path 55 = .ok (.aload_n 0, 1) := by sorry
theorem d_Printer_path_56 : decode b_Printer_path 56 = .ok (.getfield 17, 3) := by sorry
theorem d_Printer_path_59 : decode b_Printer_path 59 = .ok (.iload_n 3, 1) := by sorry
theorem d_Printer_path_60 : decode b_Printer_path 60 = .ok (.aaload, 1) := by sorry
theorem d_Printer_path_61 : decode b_Printer_path 61 = .ok (.getfield 53, 3) := by sorry
theorem d_Printer_path_64 : decode b_Printer_path 64 = .ok (.ifnonnull 20, 3) := by sorry
theorem d_Printer_path_67 : decode b_Printer_path 67 = .ok (.aload_n 0, 1) := by sorry
theorem d_Printer_path_68 : decode b_Printer_path 68 = .ok (.aload_n 0, 1) := by sorry
theorem d_Printer_path_69 : decode b_Printer_path 69 = .ok (.getfield 17, 3) := by sorry
theorem d_Printer_path_72 : decode b_Printer_path 72 = .ok (.iload_n 3, 1) := by sorry
theorem d_Printer_path_73 : decode b_Printer_path 73 = .ok (.aaload, 1) := by sorry
theorem d_Printer_path_74 : decode b_Printer_path 74 = .ok (.getfield 57, 3) := by sorry
theorem d_Printer_path_77 : decode b_Printer_path 77 = .ok (.i2l, 1) := by sorry
theorem d_Printer_path_78 : decode b_Printer_path 78 = .ok (.invokevirtual 60, 3) := by sorry
theorem d_Printer_path_81 : decode b_Printer_path 81 = .ok (.goto 18, 3) := by sorry
theorem d_Printer_path_84 : decode b_Printer_path 84 = .ok (.aload_n 0, 1) := by sorry
theorem d_Printer_path_85 : decode b_Printer_path 85 = .ok (.aload_n 0, 1) := by sorry
theorem d_Printer_path_86 : decode b_Printer_path 86 = .ok (.getfield 17, 3) := by sorry
theorem d_Printer_path_89 : decode b_Printer_path 89 = .ok (.iload_n 3, 1) := by sorry
theorem d_Printer_path_90 : decode b_Printer_path 90 = .ok (.aaload, 1) := by sorry
theorem d_Printer_path_91 : decode b_Printer_path 91 = .ok (.getfield 53, 3) := by sorry
theorem d_Printer_path_94 : decode b_Printer_path 94 = .ok (.bipush 39, 2) := by sorry
theorem d_Printer_path_96 : decode b_Printer_path 96 = .ok (.invokevirtual 64, 3) := by sorry
theorem d_Printer_path_99 : decode b_Printer_path 99 = .ok (.aload_n 0, 1) := by sorry
theorem d_Printer_path_100 : decode b_Printer_path 100 = .ok (.bipush 93, 2) := by sorry
theorem d_Printer_path_102 : decode b_Printer_path 102 = .ok (.invokevirtual 25, 3) := by sorry
theorem d_Printer_path_105 : decode b_Printer_path 105 = .ok (.iinc 3 (-1), 3) := by sorry
theorem d_Printer_path_108 : decode b_Printer_path 108 = .ok (.goto (-63), 3) := by sorry
theorem d_Printer_path_111 : decode b_Printer_path 111 = .ok (.return_, 1) := by sorry
set_option maxHeartbeats 4000000 in
set_option maxRecDepth 100000 in
/-- Printer.path -/
theorem c_Printer_path (l : Launch) (hl9 : l.stackTraces = false) (K : Nat → Nat × Nat) (dC : Nat → ClassId) (dI : Nat → Nat → Nat) (sz : Heap) (cI cV : ClassId) (E lv : Nat → Nat) (L : List Nat) (f : Nat → va_E) (hO : PO cI cV E lv L f) (cB : ClassId) (p1 pb ps : Nat) (g : Nat → Int32) (k : Nat) (hk : k ≤ 16384) (h : Nat → Option Nat) (nd : Nat) (hnd : isF E nd) : vx_Met l y_Printer_path (k_Printer_path :: gtbl) ({ frames := 12, cells := 1, slots := 6, locals := 270 }) (va_Pc [.ref p1, .ref nd] (ml K dC dI ([(p1, .inr (3, [.ref pb, .int (nI k), .ref ps])), (pb, .inl (cB, 16384, .inl g)), (ps, .inl (cV, 32, .inr (.inr (.inr (.inr h)))))] ++ va_pl L f) [(cB, .byte), (cI, .int), (cV, .object "QueryBench$Value")] sz)) (va_Qv (fun (u : Nat × (Nat → Int32) × (Nat → Option Nat)) => u.1 ≤ 16384) (fun u t9 => mz dC dI ([(p1, .inr (3, [.ref pb, .int (nI u.1), .ref ps])), (pb, .inl (cB, 16384, .inl u.2.1)), (ps, .inl (cV, 32, .inr (.inr (.inr (.inr u.2.2)))))] ++ va_pl L f) [(cB, .byte), (cI, .int), (cV, .object "QueryBench$Value")] (va_A ([(p1, .inr (3, [.ref pb, .int (nI k), .ref ps])), (pb, .inl (cB, 16384, .inl g)), (ps, .inl (cV, 32, .inr (.inr (.inr (.inr h)))))] ++ va_pl L f) sz.size) t9 ∧ szk sz t9.heap (0) (0)) (va_A ([(p1, .inr (3, [.ref pb, .int (nI k), .ref ps])), (pb, .inl (cB, 16384, .inl g)), (ps, .inl (cV, 32, .inr (.inr (.inr (.inr h)))))] ++ va_pl L f) sz.size)) (vx_X (fun (u : Int32 × (Nat → Int32) × (Nat → Option Nat)) => True) (fun En u t9 => En = IOB ∧ mz dC dI ([(p1, .inr (3, [.ref pb, .int u.1, .ref ps])), (pb, .inl (cB, 16384, .inl u.2.1)), (ps, .inl (cV, 32, .inr (.inr (.inr (.inr u.2.2)))))] ++ va_pl L f) [(cB, .byte), (cI, .int), (cV, .object "QueryBench$Value")] (va_A ([(p1, .inr (3, [.ref pb, .int (nI k), .ref ps])), (pb, .inl (cB, 16384, .inl g)), (ps, .inl (cV, 32, .inr (.inr (.inr (.inr h)))))] ++ va_pl L f) sz.size) t9) (va_A ([(p1, .inr (3, [.ref pb, .int (nI k), .ref ps])), (pb, .inl (cB, 16384, .inl g)), (ps, .inl (cV, 32, .inr (.inr (.inr (.inr h)))))] ++ va_pl L f) sz.size)) (1) (6) (va_A ([(p1, .inr (3, [.ref pb, .int (nI k), .ref ps])), (pb, .inl (cB, 16384, .inl g)), (ps, .inl (cV, 32, .inr (.inr (.inr (.inr h)))))] ++ va_pl L f) sz.size) := by sorry
abbrev b_Printer_value : ByteArray := prog_5_method_6_code
def y_Printer_value : MethodName := ⟨"QueryBench$Printer", "value", "(LQueryBench$Value;I)V"⟩
abbrev k_Printer_value : Cond := .code y_Printer_value b_Printer_value 3 none
theorem i_Printer_value : k_Printer_value ∈ gtbl := by sorry
theorem d_Printer_value_0 : decode b_Printer_value 0 = .ok (.aload_n 1, 1) := by sorry
theorem d_Printer_value_1 : decode b_Printer_value 1 = .ok (.getfield 68, 3) := by sorry
theorem d_Printer_value_4 : decode b_Printer_value 4 = .ok (.tableswitch 87 0 4 #[36, 45, 54, 63, 74], 36) := by sorry
theorem d_Printer_value_40 : decode b_Printer_value 40 = .ok (.aload_n 0, 1) := by sorry
theorem d_Printer_value_41 : decode b_Printer_value 41 = .ok (.ldc 71, 2) := by sorry
theorem d_Printer_value_43 : decode b_Printer_value 43 = .ok (.invokevirtual 73, 3) := by sorry
theorem d_Printer_value_46 : decode b_Printer_value 46 = .ok (.goto 51, 3) := by sorry
theorem d_Printer_value_49 : decode b_Printer_value 49 = .ok (.aload_n 0, 1) := by sorry
theorem d_Printer_value_50 : decode b_Printer_value 50 = .ok (.ldc 77, 2) := by sorry
theorem d_Printer_value_52 : decode b_Printer_value 52 = .ok (.invokevirtual 73, 3) := by sorry
theorem d_Printer_value_55 : decode b_Printer_value 55 = .ok (.goto 42, 3) := by sorry
theorem d_Printer_value_58 : decode b_Printer_value 58 = .ok (.aload_n 0, 1) := by sorry
theorem d_Printer_value_59 : decode b_Printer_value 59 = .ok (.ldc 79, 2) := by sorry
theorem d_Printer_value_61 : decode b_Printer_value 61 = .ok (.invokevirtual 73, 3) := by sorry
theorem d_Printer_value_64 : decode b_Printer_value 64 = .ok (.goto 33, 3) := by sorry
theorem d_Printer_value_67 : decode b_Printer_value 67 = .ok (.aload_n 0, 1) := by sorry
theorem d_Printer_value_68 : decode b_Printer_value 68 = .ok (.aload_n 1, 1) := by sorry
theorem d_Printer_value_69 : decode b_Printer_value 69 = .ok (.getfield 81, 3) := by sorry
theorem d_Printer_value_72 : decode b_Printer_value 72 = .ok (.invokevirtual 60, 3) := by sorry
theorem d_Printer_value_75 : decode b_Printer_value 75 = .ok (.goto 22, 3) := by sorry
theorem d_Printer_value_78 : decode b_Printer_value 78 = .ok (.aload_n 0, 1) := by sorry
theorem d_Printer_value_79 : decode b_Printer_value 79 = .ok (.aload_n 1, 1) := by sorry
theorem d_Printer_value_80 : decode b_Printer_value 80 = .ok (.getfield 84, 3) := by sorry
theorem d_Printer_value_83 : decode b_Printer_value 83 = .ok (.bipush 34, 2) := by sorry
theorem d_Printer_value_85 : decode b_Printer_value 85 = .ok (.invokevirtual 64, 3) := by sorry
theorem d_Printer_value_88 : decode b_Printer_value 88 = .ok (.goto 9, 3) := by sorry
theorem d_Printer_value_91 : decode b_Printer_value 91 = .ok (.aload_n 0, 1) := by sorry
theorem d_Printer_value_92 : decode b_Printer_value 92 = .ok (.aload_n 1, 1) := by sorry
theorem d_Printer_value_93 : decode b_Printer_value 93 = .ok (.iload_n 2, 1) := by sorry
theorem d_Printer_value_94 : decode b_Printer_value 94 = .ok (.invokevirtual 86, 3) := by sorry
theorem d_Printer_value_97 : decode b_Printer_value 97 = .ok (.return_, 1) := by sorry
abbrev b_Printer_members : ByteArray := prog_5_method_7_code
def y_Printer_members : MethodName := ⟨"QueryBench$Printer", "members", "(LQueryBench$Value;I)V"⟩
abbrev k_Printer_members : Cond := .code y_Printer_members b_Printer_members 5 none
theorem i_Printer_members : k_Printer_members ∈ gtbl := by sorry
theorem d_Printer_members_0 : decode b_Printer_members 0 = .ok (.aload_n 1, 1) := by sorry
theorem d_Printer_members_1 : decode b_Printer_members 1 = .ok (.getfield 68, 3) := by sorry
theorem d_Printer_members_4 : decode b_Printer_members 4 = .ok (.bipush 6, 2) := by sorry
theorem d_Printer_members_6 : decode b_Printer_members 6 = .ok (.if_icmp .ne 7, 3) := by sorry
theorem d_Printer_members_9 : decode b_Printer_members 9 = .ok (.iconst 1, 1) := by sorry
theorem d_Printer_members_10 : decode b_Printer_members 10 = .ok (.goto 4, 3) := by sorry
theorem d_Printer_members_13 : decode b_Printer_members 13 = .ok (.iconst 0, 1) := by sorry
theorem d_Printer_members_14 : decode b_Printer_members 14 = .ok (.istore_n 3, 1) := by sorry
theorem d_Printer_members_15 : decode b_Printer_members 15 = .ok (.aload_n 0, 1) := by sorry
theorem d_Printer_members_16 : decode b_Printer_members 16 = .ok (.iload_n 3, 1) := by sorry
theorem d_Printer_members_17 : decode b_Printer_members 17 = .ok (.ifCond .eq 8, 3) := by sorry
theorem d_Printer_members_20 : decode b_Printer_members 20 = .ok (.bipush 123, 2) := by sorry
theorem d_Printer_members_22 : decode b_Printer_members 22 = .ok (.goto 5, 3) := by sorry
theorem d_Printer_members_25 : decode b_Printer_members 25 = .ok (.bipush 91, 2) := by sorry
theorem d_Printer_members_27 : decode b_Printer_members 27 = .ok (.invokevirtual 25, 3) := by sorry
theorem d_Printer_members_30 : decode b_Printer_members 30 = .ok (.iconst 0, 1) := by sorry
theorem d_Printer_members_31 : decode b_Printer_members 31 = .ok (.istore 4, 2) := by sorry
theorem d_Printer_members_33 : decode b_Printer_members 33 = .ok (.iload 4, 2) := by sorry
theorem d_Printer_members_35 : decode b_Printer_members 35 = .ok (.aload_n 1, 1) := by sorry
theorem d_Printer_members_36 : decode b_Printer_members 36 = .ok (.invokevirtual 89, 3) := by sorry
theorem d_Printer_members_39 : decode b_Printer_members 39 = .ok (.if_icmp .ge 66, 3) := by sorry
theorem d_Printer_members_42 : decode b_Printer_members 42 = .ok (.iload_n 2, 1) := by sorry
theorem d_Printer_members_43 : decode b_Printer_members 43 = .ok (.bipush 32, 2) := by sorry
theorem d_Printer_members_45 : decode b_Printer_members 45 = .ok (.if_icmp .ge 60, 3) := by sorry
theorem d_Printer_members_48 : decode b_Printer_members 48 = .ok (.iload 4, 2) := by sorry
theorem d_Printer_members_50 : decode b_Printer_members 50 = .ok (.ifCond .le 9, 3) := by sorry
theorem d_Printer_members_53 : decode b_Printer_members 53 = .ok (.aload_n 0, 1) := by sorry
theorem d_Printer_members_54 : decode b_Printer_members 54 = .ok (.bipush 44, 2) := by sorry
theorem d_Printer_members_56 : decode b_Printer_members 56 = .ok (.invokevirtual 25, 3) := by sorry
theorem d_Printer_members_59 : decode b_Printer_members 59 = .ok (.iload_n 3, 1) := by sorry
theorem d_Printer_members_60 : decode b_Printer_members 60 = .ok (.ifCond .eq 25, 3) := by sorry
theorem d_Printer_members_63 : decode b_Printer_members 63 = .ok (.aload_n 0, 1) := by sorry
theorem d_Printer_members_64 : decode b_Printer_members 64 = .ok (.aload_n 1, 1) := by sorry
theorem d_Printer_members_65 : decode b_Printer_members 65 = .ok (.getfield 92, 3) := by sorry
theorem d_Printer_members_68 : decode b_Printer_members 68 = .ok (.iload 4, 2) := by sorry
theorem d_Printer_members_70 : decode b_Printer_members 70 = .ok (.aaload, 1) := by sorry
theorem d_Printer_members_71 : decode b_Printer_members 71 = .ok (.getfield 53, 3) := by sorry
theorem d_Printer_members_74 : decode b_Printer_members 74 = .ok (.bipush 34, 2) := by sorry
theorem d_Printer_members_76 : decode b_Printer_members 76 = .ok (.invokevirtual 64, 3) := by sorry
theorem d_Printer_members_79 : decode b_Printer_members 79 = .ok (.aload_n 0, 1) := by sorry
theorem d_Printer_members_80 : decode b_Printer_members 80 = .ok (.bipush 58, 2) := by sorry
theorem d_Printer_members_82 : decode b_Printer_members 82 = .ok (.invokevirtual 25, 3) := by sorry
theorem d_Printer_members_85 : decode b_Printer_members 85 = .ok (.aload_n 0, 1) := by sorry
theorem d_Printer_members_86 : decode b_Printer_members 86 = .ok (.aload_n 1, 1) := by sorry
theorem d_Printer_members_87 : decode b_Printer_members 87 = .ok (.getfield 92, 3) := by sorry
theorem d_Printer_members_90 : decode b_Printer_members 90 = .ok (.iload 4, 2) := by sorry
theorem d_Printer_members_92 : decode b_Printer_members 92 = .ok (.aaload, 1) := by sorry
theorem d_Printer_members_93 : decode b_Printer_members 93 = .ok (.iload_n 2, 1) := by sorry
theorem d_Printer_members_94 : decode b_Printer_members 94 = .ok (.iconst 1, 1) := by sorry
theorem d_Printer_members_95 : decode b_Printer_members 95 = .ok (.iadd, 1) := by sorry
theorem d_Printer_members_96 : decode b_Printer_members 96 = .ok (.invokevirtual 29, 3) := by sorry
theorem d_Printer_members_99 : decode b_Printer_members 99 = .ok (.iinc 4 1, 3) := by sorry
theorem d_Printer_members_102 : decode b_Printer_members 102 = .ok (.goto (-69), 3) := by sorry
theorem d_Printer_members_105 : decode b_Printer_members 105 = .ok (.aload_n 0, 1) := by sorry
theorem d_Printer_members_106 : decode b_Printer_members 106 = .ok (.iload_n 3, 1) := by sorry
theorem d_Printer_members_107 : decode b_Printer_members 107 = .ok (.ifCond .eq 8, 3) := by sorry
theorem d_Printer_members_110 : decode b_Printer_members 110 = .ok (.bipush 125, 2) := by sorry
theorem d_Printer_members_112 : decode b_Printer_members 112 = .ok (.goto 5, 3) := by sorry
theorem d_Printer_members_115 : decode b_Printer_members 115 = .ok (.bipush 93, 2) := by sorry
theorem d_Printer_members_117 : decode b_Printer_members 117 = .ok (.invokevirtual 25, 3) := by sorry
theorem d_Printer_members_120 : decode b_Printer_members 120 = .ok (.return_, 1) := by sorry
/-- Printer: value at a depth -/
def PVC (l : Launch) (K : Nat → Nat × Nat) (dC : Nat → ClassId) (dI : Nat → Nat → Nat) (cI cV : ClassId) (E : Nat → Nat) (L : List Nat) (f : Nat → va_E) (cB : ClassId) (p1 pb ps : Nat) (n d : Nat) : Prop := ∀ (sz : Heap) (g : Nat → Int32) (k : Nat), k ≤ 16384 → ∀ v9, isF E v9 → vx_Met l y_Printer_value (k_Printer_value :: gtbl) ({ frames := 14 + 2 * n, cells := 1, slots := 6, locals := 300 + 60 * n }) (va_Pc [.ref p1, .ref v9, .int (nI d)] (ml K dC dI ([(p1, .inr (3, [.ref pb, .int (nI k), .ref ps])), (pb, .inl (cB, 16384, .inl g))] ++ va_pl L f) [(cB, .byte), (cI, .int), (cV, .object "QueryBench$Value")] sz)) (va_Qv (fun (u : Nat × (Nat → Int32)) => u.1 ≤ 16384) (fun u t9 => mz dC dI ([(p1, .inr (3, [.ref pb, .int (nI u.1), .ref ps])), (pb, .inl (cB, 16384, .inl u.2))] ++ va_pl L f) [(cB, .byte), (cI, .int), (cV, .object "QueryBench$Value")] (va_A ([(p1, .inr (3, [.ref pb, .int (nI k), .ref ps])), (pb, .inl (cB, 16384, .inl g))] ++ va_pl L f) sz.size) t9 ∧ szk sz t9.heap (0) (0)) (va_A ([(p1, .inr (3, [.ref pb, .int (nI k), .ref ps])), (pb, .inl (cB, 16384, .inl g))] ++ va_pl L f) sz.size)) (vx_X (fun (u : Int32 × (Nat → Int32)) => True) (fun En u t9 => En = IOB ∧ mz dC dI ([(p1, .inr (3, [.ref pb, .int u.1, .ref ps])), (pb, .inl (cB, 16384, .inl u.2))] ++ va_pl L f) [(cB, .byte), (cI, .int), (cV, .object "QueryBench$Value")] (va_A ([(p1, .inr (3, [.ref pb, .int (nI k), .ref ps])), (pb, .inl (cB, 16384, .inl g))] ++ va_pl L f) sz.size) t9) (va_A ([(p1, .inr (3, [.ref pb, .int (nI k), .ref ps])), (pb, .inl (cB, 16384, .inl g))] ++ va_pl L f) sz.size)) (1) (6) (va_A ([(p1, .inr (3, [.ref pb, .int (nI k), .ref ps])), (pb, .inl (cB, 16384, .inl g))] ++ va_pl L f) sz.size)
/-- Printer: members at a depth -/
def PMC (l : Launch) (K : Nat → Nat × Nat) (dC : Nat → ClassId) (dI : Nat → Nat → Nat) (cI cV : ClassId) (E : Nat → Nat) (L : List Nat) (f : Nat → va_E) (cB : ClassId) (p1 pb ps : Nat) (n d : Nat) : Prop := ∀ (sz : Heap) (g : Nat → Int32) (k : Nat), k ≤ 16384 → ∀ v9, isF E v9 → vx_Met l y_Printer_members (k_Printer_members :: gtbl) ({ frames := 13 + 2 * n, cells := 1, slots := 6, locals := 270 + 60 * n }) (va_Pc [.ref p1, .ref v9, .int (nI d)] (ml K dC dI ([(p1, .inr (3, [.ref pb, .int (nI k), .ref ps])), (pb, .inl (cB, 16384, .inl g))] ++ va_pl L f) [(cB, .byte), (cI, .int), (cV, .object "QueryBench$Value")] sz)) (va_Qv (fun (u : Nat × (Nat → Int32)) => u.1 ≤ 16384) (fun u t9 => mz dC dI ([(p1, .inr (3, [.ref pb, .int (nI u.1), .ref ps])), (pb, .inl (cB, 16384, .inl u.2))] ++ va_pl L f) [(cB, .byte), (cI, .int), (cV, .object "QueryBench$Value")] (va_A ([(p1, .inr (3, [.ref pb, .int (nI k), .ref ps])), (pb, .inl (cB, 16384, .inl g))] ++ va_pl L f) sz.size) t9 ∧ szk sz t9.heap (0) (0)) (va_A ([(p1, .inr (3, [.ref pb, .int (nI k), .ref ps])), (pb, .inl (cB, 16384, .inl g))] ++ va_pl L f) sz.size)) (vx_X (fun (u : Int32 × (Nat → Int32)) => True) (fun En u t9 => En = IOB ∧ mz dC dI ([(p1, .inr (3, [.ref pb, .int u.1, .ref ps])), (pb, .inl (cB, 16384, .inl u.2))] ++ va_pl L f) [(cB, .byte), (cI, .int), (cV, .object "QueryBench$Value")] (va_A ([(p1, .inr (3, [.ref pb, .int (nI k), .ref ps])), (pb, .inl (cB, 16384, .inl g))] ++ va_pl L f) sz.size) t9) (va_A ([(p1, .inr (3, [.ref pb, .int (nI k), .ref ps])), (pb, .inl (cB, 16384, .inl g))] ++ va_pl L f) sz.size)) (1) (6) (va_A ([(p1, .inr (3, [.ref pb, .int (nI k), .ref ps])), (pb, .inl (cB, 16384, .inl g))] ++ va_pl L f) sz.size)
set_option maxHeartbeats 4000000 in
set_option maxRecDepth 100000 in
theorem c_PM (l : Launch) (hl9 : l.stackTraces = false) (K : Nat → Nat × Nat) (dC : Nat → ClassId) (dI : Nat → Nat → Nat) (cI cV : ClassId) (E lv : Nat → Nat) (L : List Nat) (f : Nat → va_E) (hO : PO cI cV E lv L f) (cB : ClassId) (p1 pb ps : Nat) (n d : Nat) (hnd : d + n = 32) (HV : d < 32 → PVC l K dC dI cI cV E L f cB p1 pb ps (n - 1) (d + 1)) : PMC l K dC dI cI cV E L f cB p1 pb ps n d := by sorry
set_option maxHeartbeats 4000000 in
set_option maxRecDepth 100000 in
theorem c_PV (l : Launch) (hl9 : l.stackTraces = false) (K : Nat → Nat × Nat) (dC : Nat → ClassId) (dI : Nat → Nat → Nat) (cI cV : ClassId) (E lv : Nat → Nat) (L : List Nat) (f : Nat → va_E) (hO : PO cI cV E lv L f) (cB : ClassId) (p1 pb ps : Nat) (n d : Nat) (HM : PMC l K dC dI cI cV E L f cB p1 pb ps n d) : PVC l K dC dI cI cV E L f cB p1 pb ps n d := by sorry
theorem c_PVall (l : Launch) (hl9 : l.stackTraces = false) (K : Nat → Nat × Nat) (dC : Nat → ClassId) (dI : Nat → Nat → Nat) (cI cV : ClassId) (E lv : Nat → Nat) (L : List Nat) (f : Nat → va_E) (hO : PO cI cV E lv L f) (cB : ClassId) (p1 pb ps : Nat) : ∀ n d, d + n = 32 → PVC l K dC dI cI cV E L f cB p1 pb ps n d := by sorry
abbrev b_Printer_line : ByteArray := prog_5_method_2_code
def y_Printer_line : MethodName := ⟨"QueryBench$Printer", "line", "(LQueryBench$Value;)V"⟩
abbrev k_Printer_line : Cond := .code y_Printer_line b_Printer_line 2 none
theorem i_Printer_line : k_Printer_line ∈ gtbl := by sorry
theorem d_Printer_line_0 : decode b_Printer_line 0 = .ok (.aload_n 0, 1) := by sorry
theorem d_Printer_line_1 : decode b_Printer_line 1 = .ok (.aload_n 1, 1) := by sorry
theorem d_Printer_line_2 : decode b_Printer_line 2 = .ok (.invokevirtual 21, 3) := by sorry
theorem d_Printer_line_5 : decode b_Printer_line 5 = .ok (.aload_n 0, 1) := by sorry
theorem d_Printer_line_6 : decode b_Printer_line 6 = .ok (.bipush 32, 2) := by sorry
theorem d_Printer_line_8 : decode b_Printer_line 8 = .ok (.invokevirtual 25, 3) := by sorry
theorem d_Printer_line_11 : decode b_Printer_line 11 = .ok (.aload_n 0, 1) := by sorry
theorem d_Printer_line_12 : decode b_Printer_line 12 = .ok (.aload_n 1, 1) := by sorry
theorem d_Printer_line_13 : decode b_Printer_line 13 = .ok (.iconst 0, 1) := by sorry
theorem d_Printer_line_14 : decode b_Printer_line 14 = .ok (.invokevirtual 29, 3) := by sorry
theorem d_Printer_line_17 : decode b_Printer_line 17 = .ok (.aload_n 0, 1) := by sorry
theorem d_Printer_line_18 : decode b_Printer_line 18 = .ok (.bipush 10, 2) := by sorry
theorem d_Printer_line_20 : decode b_Printer_line 20 = .ok (.invokevirtual 25, 3) := by sorry
theorem d_Printer_line_23 : decode b_Printer_line 23 = .ok (.return_, 1) := by sorry
set_option maxHeartbeats 4000000 in
set_option maxRecDepth 100000 in
/-- Printer.line -/
theorem c_Printer_line (l : Launch) (hl9 : l.stackTraces = false) (K : Nat → Nat × Nat) (dC : Nat → ClassId) (dI : Nat → Nat → Nat) (sz : Heap) (cI cV : ClassId) (E lv : Nat → Nat) (L : List Nat) (f : Nat → va_E) (hO : PO cI cV E lv L f) (cB : ClassId) (p1 pb ps : Nat) (g : Nat → Int32) (k : Nat) (hk : k ≤ 16384) (h : Nat → Option Nat) (nd : Nat) (hnd : isF E nd) : vx_Met l y_Printer_line (k_Printer_line :: gtbl) ({ frames := 80, cells := 1, slots := 6, locals := 2300 }) (va_Pc [.ref p1, .ref nd] (ml K dC dI ([(p1, .inr (3, [.ref pb, .int (nI k), .ref ps])), (pb, .inl (cB, 16384, .inl g)), (ps, .inl (cV, 32, .inr (.inr (.inr (.inr h)))))] ++ va_pl L f) [(cB, .byte), (cI, .int), (cV, .object "QueryBench$Value")] sz)) (va_Qv (fun (u : Nat × (Nat → Int32) × (Nat → Option Nat)) => u.1 ≤ 16384) (fun u t9 => mz dC dI ([(p1, .inr (3, [.ref pb, .int (nI u.1), .ref ps])), (pb, .inl (cB, 16384, .inl u.2.1)), (ps, .inl (cV, 32, .inr (.inr (.inr (.inr u.2.2)))))] ++ va_pl L f) [(cB, .byte), (cI, .int), (cV, .object "QueryBench$Value")] (va_A ([(p1, .inr (3, [.ref pb, .int (nI k), .ref ps])), (pb, .inl (cB, 16384, .inl g)), (ps, .inl (cV, 32, .inr (.inr (.inr (.inr h)))))] ++ va_pl L f) sz.size) t9 ∧ szk sz t9.heap (0) (0)) (va_A ([(p1, .inr (3, [.ref pb, .int (nI k), .ref ps])), (pb, .inl (cB, 16384, .inl g)), (ps, .inl (cV, 32, .inr (.inr (.inr (.inr h)))))] ++ va_pl L f) sz.size)) (vx_X (fun (u : Int32 × (Nat → Int32) × (Nat → Option Nat)) => True) (fun En u t9 => En = IOB ∧ mz dC dI ([(p1, .inr (3, [.ref pb, .int u.1, .ref ps])), (pb, .inl (cB, 16384, .inl u.2.1)), (ps, .inl (cV, 32, .inr (.inr (.inr (.inr u.2.2)))))] ++ va_pl L f) [(cB, .byte), (cI, .int), (cV, .object "QueryBench$Value")] (va_A ([(p1, .inr (3, [.ref pb, .int (nI k), .ref ps])), (pb, .inl (cB, 16384, .inl g)), (ps, .inl (cV, 32, .inr (.inr (.inr (.inr h)))))] ++ va_pl L f) sz.size) t9) (va_A ([(p1, .inr (3, [.ref pb, .int (nI k), .ref ps])), (pb, .inl (cB, 16384, .inl g)), (ps, .inl (cV, 32, .inr (.inr (.inr (.inr h)))))] ++ va_pl L f) sz.size)) (1) (6) (va_A ([(p1, .inr (3, [.ref pb, .int (nI k), .ref ps])), (pb, .inl (cB, 16384, .inl g)), (ps, .inl (cV, 32, .inr (.inr (.inr (.inr h)))))] ++ va_pl L f) sz.size) := by sorry
end
section
/-- the pool with the numbers of its values as ν says -/
def pf (f : Nat → va_E) (ν : Nat → Int64) (a : Nat) : va_E := match f a with
  | .inr (9, .int kd :: .long _ :: r) => .inr (9, .int kd :: .long (ν a) :: r)
  | e => e
section PF
variable {f : Nat → va_E} {ν : Nat → Int64} {a : Nat}
theorem pf_V {kd : Int32} {nu : Int64} {tx me pa na : Option Nat} {ix : Int32} {nm no : Option Nat} {sp : Int32} (h : f a = vE kd nu tx me pa na ix nm no sp) : pf f ν a = vE kd (ν a) tx me pa na ix nm no sp := by sorry
theorem pf_T {c : ClassId} {n : Nat} {g : Nat → Int32} (h : f a = tE c n g) : pf f ν a = tE c n g := by sorry
theorem pf_A {c : ClassId} {n : Nat} {g : Nat → Option Nat} (h : f a = aE c n g) : pf f ν a = aE c n g := by sorry
theorem pf_Q {x y : Int32} {o1 o2 : Option Nat} (h : f a = qE x y o1 o2) : pf f ν a = qE x y o1 o2 := by sorry
theorem pf_G {x : Int32} {o1 o2 : Option Nat} (h : f a = gE x o1 o2) : pf f ν a = gE x o1 o2 := by sorry
theorem pf_L {x y z : Int32} {i j k : Int64} {o1 o2 o3 : Option Nat} (h : f a = lE x o1 y z i j k o2 o3) : pf f ν a = lE x o1 y z i j k o2 o3 := by sorry
theorem pf_K {x : Int32} {o1 o2 o3 o4 o5 : Option Nat} (h : f a = kE x o1 o2 o3 o4 o5) : pf f ν a = kE x o1 o2 o3 o4 o5 := by sorry
theorem pf_O {x : Int32} {o1 o2 o3 : Option Nat} (h : f a = oE x o1 o2 o3) : pf f ν a = oE x o1 o2 o3 := by sorry
theorem pf_put {x : Int64} {kd : Int32} {nu : Int64} {tx me pa na : Option Nat} {ix : Int32} {nm no : Option Nat} {sp : Int32} (h : f a = vE kd nu tx me pa na ix nm no sp) : va_up (pf f ν) a (vE kd x tx me pa na ix nm no sp) = pf f (va_up ν a x) := by sorry
end PF
theorem PO.num {cI cV : ClassId} {E lv : Nat → Nat} {L : List Nat} {f : Nat → va_E} (h : PO cI cV E lv L f) (ν : Nat → Int64) : PO cI cV E lv L (pf f ν) := by sorry
theorem PO.szpf {cI cV : ClassId} {E lv : Nat → Nat} {L : List Nat} {f : Nat → va_E} {a : Nat} {ν : Nat → Int64} (h : PO cI cV E lv L f) (ha : isF E a) : szF (pf f ν) a = szF f a := by sorry
/-- the walk's list -/
def WI (E : Nat → Nat) (tp sp : Nat) (g : Nat → Option Nat) : Prop := tp ≤ sp ∧ sp ≤ 10000 ∧ ∀ j, j < tp → ∃ b, g j = some b ∧ isF E b
theorem WI.up {E : Nat → Nat} {tp sp : Nat} {g : Nat → Option Nat} {b : Nat} (h : WI E tp sp g) (hs : sp < 10000) (hb : isF E b) : WI E (tp + 1) (sp + 1) (va_up g tp (some b)) := by sorry
theorem WI.cut {E : Nat → Nat} {tp sp tp' : Nat} {g : Nat → Option Nat} (h : WI E tp sp g) (hs : tp' ≤ tp) : WI E tp' sp g := by sorry
theorem WI.more {E : Nat → Nat} {tp sp : Nat} {g : Nat → Option Nat} (h : WI E tp sp g) (hs : sp < 10000) : WI E tp (sp + 1) g := by sorry
/-- no address of the list is above it -/
def lmax : List Nat → Nat
  | [] => 0
  | a :: r => max a (lmax r)
theorem lmax_le {L : List Nat} {a : Nat} (h : a ∈ L) : a ≤ lmax L := by sorry
/-- how far a chain may still go -/
def chL (L : List Nat) : Option Nat → Nat
  | none => 0
  | some a => lmax L + 1 - a
theorem chL_lt {L : List Nat} {a : Nat} {o : Option Nat} (ha : a ∈ L) (h : oR (fun b => a < b) o) : chL L o < chL L (some a) := by sorry
theorem isV.f {E : Nat → Nat} (hN : ∀ a, E a ≠ 1) {b : Nat} (h : isV E b) : isF E b := by sorry
end
section
theorem z_117 : (.fieldLink "QueryBench$Walk" 21 "QueryBench$Walk" "top" "I" : Cond) ∈ gtbl := by sorry
theorem z_315 : (.fieldLink "QueryBench$Walk" 125 "QueryBench$Value" "kind" "I" : Cond) ∈ gtbl := by sorry
theorem z_328 : (.fieldLink "QueryBench$Walk" 122 "QueryBench$Value" "members" "[LQueryBench$Value;" : Cond) ∈ gtbl := by sorry
theorem z_839 : (.methodLink "QueryBench$Walk" 38 ⟨"QueryBench$Walk", "push", "(LQueryBench$Value;)V"⟩ : Cond) ∈ gtbl := by sorry
theorem z_841 : (.instanceMethod ⟨"QueryBench$Walk", "push", "(LQueryBench$Value;)V"⟩ : Cond) ∈ gtbl := by sorry
theorem z_843 : (.methodLink "QueryBench$Walk" 58 ⟨"QueryBench$Walk", "spend", "()V"⟩ : Cond) ∈ gtbl := by sorry
theorem z_845 : (.instanceMethod ⟨"QueryBench$Walk", "spend", "()V"⟩ : Cond) ∈ gtbl := by sorry
theorem z_861 : (.methodLink "QueryBench$Walk" 114 ⟨"QueryBench$Value", "member", "([I)LQueryBench$Value;"⟩ : Cond) ∈ gtbl := by sorry
theorem z_874 : (.methodLink "QueryBench$Walk" 118 ⟨"QueryBench$Value", "size", "()I"⟩ : Cond) ∈ gtbl := by sorry
theorem l_idx {x : Int64} {n : Nat} (h0 : 0 ≤ x.toInt) (h1 : x.toInt < n) (hn : n ≤ 4096) : ∃ j, j < n ∧ x = lN j := by sorry
theorem l_add {x y : Int64} (h0 : -4 ≤ x.toInt) (h1 : x.toInt ≤ 4096) (h2 : -9007199254740992 ≤ y.toInt) (h3 : y.toInt ≤ 9007199254740992) : (x + y).toInt = x.toInt + y.toInt := by sorry
theorem l_at {x : Int64} {n : Nat} (hn : n ≤ 4096) (h0 : ¬ lg_cmp x 0 < 0) (h1 : ¬ 0 ≤ lg_cmp x (nI n).toInt64) : ∃ j, j < n ∧ x = lN j := by sorry
theorem i64_nI {n : Nat} (h : n ≤ 4096) : (nI n).toInt64.toInt = n := by sorry
abbrev b_Walk_push : ByteArray := prog_12_method_5_code
def y_Walk_push : MethodName := ⟨"QueryBench$Walk", "push", "(LQueryBench$Value;)V"⟩
abbrev k_Walk_push : Cond := .code y_Walk_push b_Walk_push 2 none
theorem i_Walk_push : k_Walk_push ∈ gtbl := by sorry
theorem d_Walk_push_0 : decode b_Walk_push 0 = .ok (.aload_n 0, 1) := by sorry
theorem d_Walk_push_1 : decode b_Walk_push 1 = .ok (.invokevirtual 58, 3) := by sorry
theorem d_Walk_push_4 : decode b_Walk_push 4 = .ok (.aload_n 0, 1) := by sorry
theorem d_Walk_push_5 : decode b_Walk_push 5 = .ok (.getfield 11, 3) := by sorry
theorem d_Walk_push_8 : decode b_Walk_push 8 = .ok (.aload_n 0, 1) := by sorry
theorem d_Walk_push_9 : decode b_Walk_push 9 = .ok (.getfield 21, 3) := by sorry
theorem d_Walk_push_12 : decode b_Walk_push 12 = .ok (.aload_n 1, 1) := by sorry
theorem d_Walk_push_13 : decode b_Walk_push 13 = .ok (.aastore, 1) := by sorry
theorem d_Walk_push_14 : decode b_Walk_push 14 = .ok (.aload_n 0, 1) := by sorry
theorem d_Walk_push_15 : decode b_Walk_push 15 = .ok (.dup, 1) := by sorry
theorem d_Walk_push_16 : decode b_Walk_push 16 = .ok (.getfield 21, 3) := by sorry
theorem d_Walk_push_19 : decode b_Walk_push 19 = .ok (.iconst 1, 1) := by sorry
theorem d_Walk_push_20 : decode b_Walk_push 20 = .ok (.iadd, 1) := by sorry
theorem d_Walk_push_21 : decode b_Walk_push 21 = .ok (.putfield 21, 3) := by sorry
theorem d_Walk_push_24 : decode b_Walk_push 24 = .ok (.return_, 1) := by sorry
abbrev b_Walk_pushNamed : ByteArray := prog_12_method_8_code
def y_Walk_pushNamed : MethodName := ⟨"QueryBench$Walk", "pushNamed", "(LQueryBench$Value;[I)V"⟩
abbrev k_Walk_pushNamed : Cond := .code y_Walk_pushNamed b_Walk_pushNamed 4 none
theorem i_Walk_pushNamed : k_Walk_pushNamed ∈ gtbl := by sorry
theorem d_Walk_pushNamed_0 : decode b_Walk_pushNamed 0 = .ok (.aload_n 1, 1) := by sorry
theorem d_Walk_pushNamed_1 : decode b_Walk_pushNamed 1 = .ok (.aload_n 2, 1) := by sorry
theorem d_Walk_pushNamed_2 : decode b_Walk_pushNamed 2 = .ok (.invokevirtual 114, 3) := by sorry
theorem d_Walk_pushNamed_5 : decode b_Walk_pushNamed 5 = .ok (.astore_n 3, 1) := by sorry
theorem d_Walk_pushNamed_6 : decode b_Walk_pushNamed 6 = .ok (.aload_n 3, 1) := by sorry
theorem d_Walk_pushNamed_7 : decode b_Walk_pushNamed 7 = .ok (.ifnull 8, 3) := by sorry
theorem d_Walk_pushNamed_10 : decode b_Walk_pushNamed 10 = .ok (.aload_n 0, 1) := by sorry
theorem d_Walk_pushNamed_11 : decode b_Walk_pushNamed 11 = .ok (.aload_n 3, 1) := by sorry
theorem d_Walk_pushNamed_12 : decode b_Walk_pushNamed 12 = .ok (.invokevirtual 38, 3) := by sorry
theorem d_Walk_pushNamed_15 : decode b_Walk_pushNamed 15 = .ok (.return_, 1) := by sorry
abbrev b_Walk_pushAll : ByteArray := prog_12_method_9_code
def y_Walk_pushAll : MethodName := ⟨"QueryBench$Walk", "pushAll", "(LQueryBench$Value;)V"⟩
abbrev k_Walk_pushAll : Cond := .code y_Walk_pushAll b_Walk_pushAll 3 none
theorem i_Walk_pushAll : k_Walk_pushAll ∈ gtbl := by sorry
theorem d_Walk_pushAll_0 : decode b_Walk_pushAll 0 = .ok (.iconst 0, 1) := by sorry
theorem d_Walk_pushAll_1 : decode b_Walk_pushAll 1 = .ok (.istore_n 2, 1) := by sorry
theorem d_Walk_pushAll_2 : decode b_Walk_pushAll 2 = .ok (.iload_n 2, 1) := by sorry
theorem d_Walk_pushAll_3 : decode b_Walk_pushAll 3 = .ok (.aload_n 1, 1) := by sorry
theorem d_Walk_pushAll_4 : decode b_Walk_pushAll 4 = .ok (.invokevirtual 118, 3) := by sorry
theorem d_Walk_pushAll_7 : decode b_Walk_pushAll 7 = .ok (.if_icmp .ge 19, 3) := by sorry
theorem d_Walk_pushAll_10 : decode b_Walk_pushAll 10 = .ok (.aload_n 0, 1) := by sorry
theorem d_Walk_pushAll_11 : decode b_Walk_pushAll 11 = .ok (.aload_n 1, 1) := by sorry
theorem d_Walk_pushAll_12 : decode b_Walk_pushAll 12 = .ok (.getfield 122, 3) := by sorry
theorem d_Walk_pushAll_15 : decode b_Walk_pushAll 15 = .ok (.iload_n 2, 1) := by sorry
theorem d_Walk_pushAll_16 : decode b_Walk_pushAll 16 = .ok (.aaload, 1) := by sorry
theorem d_Walk_pushAll_17 : decode b_Walk_pushAll 17 = .ok (.invokevirtual 38, 3) := by sorry
theorem d_Walk_pushAll_20 : decode b_Walk_pushAll 20 = .ok (.iinc 2 1, 3) := by sorry
theorem d_Walk_pushAll_23 : decode b_Walk_pushAll 23 = .ok (.goto (-21), 3) := by sorry
theorem d_Walk_pushAll_26 : decode b_Walk_pushAll 26 = .ok (.return_, 1) := by sorry
abbrev b_Walk_pushAt : ByteArray := prog_12_method_10_code
def y_Walk_pushAt : MethodName := ⟨"QueryBench$Walk", "pushAt", "(LQueryBench$Value;J)V"⟩
abbrev k_Walk_pushAt : Cond := .code y_Walk_pushAt b_Walk_pushAt 6 none
theorem i_Walk_pushAt : k_Walk_pushAt ∈ gtbl := by sorry
theorem d_Walk_pushAt_0 : decode b_Walk_pushAt 0 = .ok (.lload_n 2, 1) := by sorry
theorem d_Walk_pushAt_1 : decode b_Walk_pushAt 1 = .ok (.lconst 0, 1) := by sorry
theorem d_Walk_pushAt_2 : decode b_Walk_pushAt 2 = .ok (.lcmp, 1) := by sorry
theorem d_Walk_pushAt_3 : decode b_Walk_pushAt 3 = .ok (.ifCond .ge 13, 3) := by sorry
theorem d_Walk_pushAt_6 : decode b_Walk_pushAt 6 = .ok (.lload_n 2, 1) := by sorry
theorem d_Walk_pushAt_7 : decode b_Walk_pushAt 7 = .ok (.aload_n 1, 1) := by sorry
theorem d_Walk_pushAt_8 : decode b_Walk_pushAt 8 = .ok (.invokevirtual 118, 3) := by sorry
theorem d_Walk_pushAt_11 : decode b_Walk_pushAt 11 = .ok (.i2l, 1) := by sorry
theorem d_Walk_pushAt_12 : decode b_Walk_pushAt 12 = .ok (.ladd, 1) := by sorry
theorem d_Walk_pushAt_13 : decode b_Walk_pushAt 13 = .ok (.goto 4, 3) := by sorry
theorem d_Walk_pushAt_16 : decode b_Walk_pushAt 16 = .ok (.lload_n 2, 1) := by sorry
theorem d_Walk_pushAt_17 : decode b_Walk_pushAt 17 = .ok (.lstore 4, 2) := by sorry
theorem d_Walk_pushAt_19 : decode b_Walk_pushAt 19 = .ok (.aload_n 1, 1) := by sorry
theorem d_Walk_pushAt_20 : decode b_Walk_pushAt 20 = .ok (.getfield 125, 3) := by sorry
theorem d_Walk_pushAt_23 : decode b_Walk_pushAt 23 = .ok (.iconst 5, 1) := by sorry
theorem d_Walk_pushAt_24 : decode b_Walk_pushAt 24 = .ok (.if_icmp .ne 33, 3) := by sorry
theorem d_Walk_pushAt_27 : decode b_Walk_pushAt 27 = .ok (.lload 4, 2) := by sorry
theorem d_Walk_pushAt_29 : decode b_Walk_pushAt 29 = .ok (.lconst 0, 1) := by sorry
theorem d_Walk_pushAt_30 : decode b_Walk_pushAt 30 = .ok (.lcmp, 1) := by sorry
theorem d_Walk_pushAt_31 : decode b_Walk_pushAt 31 = .ok (.ifCond .lt 26, 3) := by sorry
theorem d_Walk_pushAt_34 : decode b_Walk_pushAt 34 = .ok (.lload 4, 2) := by sorry
theorem d_Walk_pushAt_36 : decode b_Walk_pushAt 36 = .ok (.aload_n 1, 1) := by sorry
theorem d_Walk_pushAt_37 : decode b_Walk_pushAt 37 = .ok (.invokevirtual 118, 3) := by sorry
theorem d_Walk_pushAt_40 : decode b_Walk_pushAt 40 = .ok (.i2l, 1) := by sorry
theorem d_Walk_pushAt_41 : decode b_Walk_pushAt 41 = .ok (.lcmp, 1) := by sorry
theorem d_Walk_pushAt_42 : decode b_Walk_pushAt 42 = .ok (.ifCond .ge 15, 3) := by sorry
theorem d_Walk_pushAt_45 : decode b_Walk_pushAt 45 = .ok (.aload_n 0, 1) := by sorry
theorem d_Walk_pushAt_46 : decode b_Walk_pushAt 46 = .ok (.aload_n 1, 1) := by sorry
theorem d_Walk_pushAt_47 : decode b_Walk_pushAt 47 = .ok (.getfield 122, 3) := by sorry
theorem d_Walk_pushAt_50 : decode b_Walk_pushAt 50 = .ok (.lload 4, 2) := by sorry
theorem d_Walk_pushAt_52 : decode b_Walk_pushAt 52 = .ok (.l2i, 1) := by sorry
theorem d_Walk_pushAt_53 : decode b_Walk_pushAt 53 = .ok (.aaload, 1) := by sorry
theorem d_Walk_pushAt_54 : decode b_Walk_pushAt 54 = .ok (.invokevirtual 38, 3) := by sorry
theorem d_Walk_pushAt_57 : decode b_Walk_pushAt 57 = .ok (.return_, 1) := by sorry
end
section
theorem z_886 : (.methodLink "QueryBench$Walk" 143 ⟨"java/lang/Math", "min", "(JJ)J"⟩ : Cond) ∈ gtbl := by sorry
theorem z_887 : (.methodLink "QueryBench$Walk" 149 ⟨"java/lang/Math", "max", "(JJ)J"⟩ : Cond) ∈ gtbl := by sorry
theorem z_888 : (.static ⟨"java/lang/Math", "max", "(JJ)J"⟩ : Cond) ∈ gtbl := by sorry
abbrev b_Walk_cut : ByteArray := prog_12_method_12_code
def y_Walk_cut : MethodName := ⟨"QueryBench$Walk", "cut", "(JIII)J"⟩
abbrev k_Walk_cut : Cond := .code y_Walk_cut b_Walk_cut 7 (some .long)
theorem i_Walk_cut : k_Walk_cut ∈ gtbl := by sorry
theorem d_Walk_cut_0 : decode b_Walk_cut 0 = .ok (.lload_n 0, 1) := by sorry
theorem d_Walk_cut_1 : decode b_Walk_cut 1 = .ok (.lconst 0, 1) := by sorry
theorem d_Walk_cut_2 : decode b_Walk_cut 2 = .ok (.lcmp, 1) := by sorry
theorem d_Walk_cut_3 : decode b_Walk_cut 3 = .ok (.ifCond .ge 10, 3) := by sorry
theorem d_Walk_cut_6 : decode b_Walk_cut 6 = .ok (.lload_n 0, 1) := by sorry
theorem d_Walk_cut_7 : decode b_Walk_cut 7 = .ok (.iload_n 2, 1) := by sorry
theorem d_Walk_cut_8 : decode b_Walk_cut 8 = .ok (.i2l, 1) := by sorry
theorem d_Walk_cut_9 : decode b_Walk_cut 9 = .ok (.ladd, 1) := by sorry
theorem d_Walk_cut_10 : decode b_Walk_cut 10 = .ok (.goto 4, 3) := by sorry
theorem d_Walk_cut_13 : decode b_Walk_cut 13 = .ok (.lload_n 0, 1) := by sorry
theorem d_Walk_cut_14 : decode b_Walk_cut 14 = .ok (.lstore 5, 2) := by sorry
theorem d_Walk_cut_16 : decode b_Walk_cut 16 = .ok (.iload_n 3, 1) := by sorry
theorem d_Walk_cut_17 : decode b_Walk_cut 17 = .ok (.i2l, 1) := by sorry
theorem d_Walk_cut_18 : decode b_Walk_cut 18 = .ok (.iload 4, 2) := by sorry
theorem d_Walk_cut_20 : decode b_Walk_cut 20 = .ok (.i2l, 1) := by sorry
theorem d_Walk_cut_21 : decode b_Walk_cut 21 = .ok (.lload 5, 2) := by sorry
theorem d_Walk_cut_23 : decode b_Walk_cut 23 = .ok (.invokestatic 143, 3) := by sorry
theorem d_Walk_cut_26 : decode b_Walk_cut 26 = .ok (.invokestatic 149, 3) := by sorry
theorem d_Walk_cut_29 : decode b_Walk_cut 29 = .ok (.lreturn, 1) := by sorry
end
section
theorem z_616 : (.fieldLink "QueryBench$Walk" 138 "QueryBench$Selector" "hasStart" "Z" : Cond) ∈ gtbl := by sorry
theorem z_618 : (.fieldLink "QueryBench$Walk" 128 "QueryBench$Selector" "hasStop" "Z" : Cond) ∈ gtbl := by sorry
theorem z_619 : (.fieldLink "QueryBench$Walk" 92 "QueryBench$Selector" "start" "J" : Cond) ∈ gtbl := by sorry
theorem z_622 : (.fieldLink "QueryBench$Walk" 131 "QueryBench$Selector" "stop" "J" : Cond) ∈ gtbl := by sorry
theorem z_625 : (.fieldLink "QueryBench$Walk" 126 "QueryBench$Selector" "step" "J" : Cond) ∈ gtbl := by sorry
theorem z_883 : (.methodLink "QueryBench$Walk" 134 ⟨"QueryBench$Walk", "cut", "(JIII)J"⟩ : Cond) ∈ gtbl := by sorry
theorem z_884 : (.static ⟨"QueryBench$Walk", "cut", "(JIII)J"⟩ : Cond) ∈ gtbl := by sorry
theorem z_890 : (.constantLong "QueryBench$Walk" 141 (-1) : Cond) ∈ gtbl := by sorry
theorem nI_m1 {n : Nat} (h : n ≤ 4096) : (nI n - 1).toInt = (n : Int) - 1 := by sorry
abbrev b_Walk_pushSlice : ByteArray := prog_12_method_11_code
def y_Walk_pushSlice : MethodName := ⟨"QueryBench$Walk", "pushSlice", "(LQueryBench$Value;LQueryBench$Selector;)V"⟩
abbrev k_Walk_pushSlice : Cond := .code y_Walk_pushSlice b_Walk_pushSlice 8 none
theorem i_Walk_pushSlice : k_Walk_pushSlice ∈ gtbl := by sorry
theorem d_Walk_pushSlice_0 : decode b_Walk_pushSlice 0 = .ok (.aload_n 1, 1) := by sorry
theorem d_Walk_pushSlice_1 : decode b_Walk_pushSlice 1 = .ok (.getfield 125, 3) := by sorry
theorem d_Walk_pushSlice_4 : decode b_Walk_pushSlice 4 = .ok (.iconst 5, 1) := by sorry
theorem d_Walk_pushSlice_5 : decode b_Walk_pushSlice 5 = .ok (.if_icmp .ne 12, 3) := by sorry
theorem d_Walk_pushSlice_8 : decode b_Walk_pushSlice 8 = .ok (.aload_n 2, 1) := by sorry
theorem d_Walk_pushSlice_9 : decode b_Walk_pushSlice 9 = .ok (.getfield 126, 3) := by sorry
theorem d_Walk_pushSlice_12 : decode b_Walk_pushSlice 12 = .ok (.lconst 0, 1) := by sorry
theorem d_Walk_pushSlice_13 : decode b_Walk_pushSlice 13 = .ok (.lcmp, 1) := by sorry
theorem d_Walk_pushSlice_14 : decode b_Walk_pushSlice 14 = .ok (.ifCond .ne 4, 3) := by sorry
theorem d_Walk_pushSlice_17 : decode b_Walk_pushSlice 17 = .ok (.return_, 1) := by sorry
theorem d_Walk_pushSlice_18 : decode b_Walk_pushSlice 18 = .ok (.aload_n 1, 1) := by sorry
theorem d_Walk_pushSlice_19 : decode b_Walk_pushSlice 19 = .ok (.invokevirtual 118, 3) := by sorry
theorem d_Walk_pushSlice_22 : decode b_Walk_pushSlice 22 = .ok (.istore_n 3, 1) := by sorry
theorem d_Walk_pushSlice_23 : decode b_Walk_pushSlice 23 = .ok (.aload_n 2, 1) := by sorry
theorem d_Walk_pushSlice_24 : decode b_Walk_pushSlice 24 = .ok (.getfield 126, 3) := by sorry
theorem d_Walk_pushSlice_27 : decode b_Walk_pushSlice 27 = .ok (.lconst 0, 1) := by sorry
theorem d_Walk_pushSlice_28 : decode b_Walk_pushSlice 28 = .ok (.lcmp, 1) := by sorry
theorem d_Walk_pushSlice_29 : decode b_Walk_pushSlice 29 = .ok (.ifCond .le 85, 3) := by sorry
theorem d_Walk_pushSlice_32 : decode b_Walk_pushSlice 32 = .ok (.aload_n 2, 1) := by sorry
theorem d_Walk_pushSlice_33 : decode b_Walk_pushSlice 33 = .ok (.getfield 128, 3) := by sorry
theorem d_Walk_pushSlice_36 : decode b_Walk_pushSlice 36 = .ok (.ifCond .eq 16, 3) := by sorry
theorem d_Walk_pushSlice_39 : decode b_Walk_pushSlice 39 = .ok (.aload_n 2, 1) := by sorry
theorem d_Walk_pushSlice_40 : decode b_Walk_pushSlice 40 = .ok (.getfield 131, 3) := by sorry
theorem d_Walk_pushSlice_43 : decode b_Walk_pushSlice 43 = .ok (.iload_n 3, 1) := by sorry
theorem d_Walk_pushSlice_44 : decode b_Walk_pushSlice 44 = .ok (.iconst 0, 1) := by sorry
theorem d_Walk_pushSlice_45 : decode b_Walk_pushSlice 45 = .ok (.iload_n 3, 1) := by sorry
theorem d_Walk_pushSlice_46 : decode b_Walk_pushSlice 46 = .ok (.invokestatic 134, 3) := by sorry
theorem d_Walk_pushSlice_49 : decode b_Walk_pushSlice 49 = .ok (.goto 5, 3) := by sorry
theorem d_Walk_pushSlice_52 : decode b_Walk_pushSlice 52 = .ok (.iload_n 3, 1) := by sorry
theorem d_Walk_pushSlice_53 : decode b_Walk_pushSlice 53 = .ok (.i2l, 1) := by sorry
theorem d_Walk_pushSlice_54 : decode b_Walk_pushSlice 54 = .ok (.lstore 4, 2) := by sorry
theorem d_Walk_pushSlice_56 : decode b_Walk_pushSlice 56 = .ok (.aload_n 2, 1) := by sorry
theorem d_Walk_pushSlice_57 : decode b_Walk_pushSlice 57 = .ok (.getfield 138, 3) := by sorry
theorem d_Walk_pushSlice_60 : decode b_Walk_pushSlice 60 = .ok (.ifCond .eq 16, 3) := by sorry
theorem d_Walk_pushSlice_63 : decode b_Walk_pushSlice 63 = .ok (.aload_n 2, 1) := by sorry
theorem d_Walk_pushSlice_64 : decode b_Walk_pushSlice 64 = .ok (.getfield 92, 3) := by sorry
theorem d_Walk_pushSlice_67 : decode b_Walk_pushSlice 67 = .ok (.iload_n 3, 1) := by sorry
theorem d_Walk_pushSlice_68 : decode b_Walk_pushSlice 68 = .ok (.iconst 0, 1) := by sorry
theorem d_Walk_pushSlice_69 : decode b_Walk_pushSlice 69 = .ok (.iload_n 3, 1) := by sorry
theorem d_Walk_pushSlice_70 : decode b_Walk_pushSlice 70 = .ok (.invokestatic 134, 3) := by sorry
theorem d_Walk_pushSlice_73 : decode b_Walk_pushSlice 73 = .ok (.goto 4, 3) := by sorry
theorem d_Walk_pushSlice_76 : decode b_Walk_pushSlice 76 = .ok (.lconst 0, 1) := by sorry
theorem d_Walk_pushSlice_77 : decode b_Walk_pushSlice 77 = .ok (.lstore 6, 2) := by sorry
theorem d_Walk_pushSlice_79 : decode b_Walk_pushSlice 79 = .ok (.lload 6, 2) := by sorry
theorem d_Walk_pushSlice_81 : decode b_Walk_pushSlice 81 = .ok (.lload 4, 2) := by sorry
theorem d_Walk_pushSlice_83 : decode b_Walk_pushSlice 83 = .ok (.lcmp, 1) := by sorry
theorem d_Walk_pushSlice_84 : decode b_Walk_pushSlice 84 = .ok (.ifCond .ge 27, 3) := by sorry
theorem d_Walk_pushSlice_87 : decode b_Walk_pushSlice 87 = .ok (.aload_n 0, 1) := by sorry
theorem d_Walk_pushSlice_88 : decode b_Walk_pushSlice 88 = .ok (.aload_n 1, 1) := by sorry
theorem d_Walk_pushSlice_89 : decode b_Walk_pushSlice 89 = .ok (.getfield 122, 3) := by sorry
theorem d_Walk_pushSlice_92 : decode b_Walk_pushSlice 92 = .ok (.lload 6, 2) := by sorry
theorem d_Walk_pushSlice_94 : decode b_Walk_pushSlice 94 = .ok (.l2i, 1) := by sorry
theorem d_Walk_pushSlice_95 : decode b_Walk_pushSlice 95 = .ok (.aaload, 1) := by sorry
theorem d_Walk_pushSlice_96 : decode b_Walk_pushSlice 96 = .ok (.invokevirtual 38, 3) := by sorry
theorem d_Walk_pushSlice_99 : decode b_Walk_pushSlice 99 = .ok (.lload 6, 2) := by sorry
theorem d_Walk_pushSlice_101 : decode b_Walk_pushSlice 101 = .ok (.aload_n 2, 1) := by sorry
theorem d_Walk_pushSlice_102 : decode b_Walk_pushSlice 102 = .ok (.getfield 126, 3) := by sorry
theorem d_Walk_pushSlice_105 : decode b_Walk_pushSlice 105 = .ok (.ladd, 1) := by sorry
theorem d_Walk_pushSlice_106 : decode b_Walk_pushSlice 106 = .ok (.lstore 6, 2) := by sorry
theorem d_Walk_pushSlice_108 : decode b_Walk_pushSlice 108 = .ok (.goto (-29), 3) := by sorry
theorem d_Walk_pushSlice_111 : decode b_Walk_pushSlice 111 = .ok (.goto 90, 3) := by sorry
theorem d_Walk_pushSlice_114 : decode b_Walk_pushSlice 114 = .ok (.aload_n 2, 1) := by sorry
theorem d_Walk_pushSlice_115 : decode b_Walk_pushSlice 115 = .ok (.getfield 128, 3) := by sorry
theorem d_Walk_pushSlice_118 : decode b_Walk_pushSlice 118 = .ok (.ifCond .eq 18, 3) := by sorry
theorem d_Walk_pushSlice_121 : decode b_Walk_pushSlice 121 = .ok (.aload_n 2, 1) := by sorry
theorem d_Walk_pushSlice_122 : decode b_Walk_pushSlice 122 = .ok (.getfield 131, 3) := by sorry
theorem d_Walk_pushSlice_125 : decode b_Walk_pushSlice 125 = .ok (.iload_n 3, 1) := by sorry
theorem d_Walk_pushSlice_126 : decode b_Walk_pushSlice 126 = .ok (.iconst (-1), 1) := by sorry
theorem d_Walk_pushSlice_127 : decode b_Walk_pushSlice 127 = .ok (.iload_n 3, 1) := by sorry
theorem d_Walk_pushSlice_128 : decode b_Walk_pushSlice 128 = .ok (.iconst 1, 1) := by sorry
theorem d_Walk_pushSlice_129 : decode b_Walk_pushSlice 129 = .ok (.isub, 1) := by sorry
theorem d_Walk_pushSlice_130 : decode b_Walk_pushSlice 130 = .ok (.invokestatic 134, 3) := by sorry
theorem d_Walk_pushSlice_133 : decode b_Walk_pushSlice 133 = .ok (.goto 6, 3) := by sorry
theorem d_Walk_pushSlice_136 : decode b_Walk_pushSlice 136 = .ok (.ldc2_w 141, 3) := by sorry
theorem d_Walk_pushSlice_139 : decode b_Walk_pushSlice 139 = .ok (.lstore 4, 2) := by sorry
theorem d_Walk_pushSlice_141 : decode b_Walk_pushSlice 141 = .ok (.aload_n 2, 1) := by sorry
theorem d_Walk_pushSlice_142 : decode b_Walk_pushSlice 142 = .ok (.getfield 138, 3) := by sorry
theorem d_Walk_pushSlice_145 : decode b_Walk_pushSlice 145 = .ok (.ifCond .eq 18, 3) := by sorry
theorem d_Walk_pushSlice_148 : decode b_Walk_pushSlice 148 = .ok (.aload_n 2, 1) := by sorry
theorem d_Walk_pushSlice_149 : decode b_Walk_pushSlice 149 = .ok (.getfield 92, 3) := by sorry
theorem d_Walk_pushSlice_152 : decode b_Walk_pushSlice 152 = .ok (.iload_n 3, 1) := by sorry
theorem d_Walk_pushSlice_153 : decode b_Walk_pushSlice 153 = .ok (.iconst (-1), 1) := by sorry
theorem d_Walk_pushSlice_154 : decode b_Walk_pushSlice 154 = .ok (.iload_n 3, 1) := by sorry
theorem d_Walk_pushSlice_155 : decode b_Walk_pushSlice 155 = .ok (.iconst 1, 1) := by sorry
theorem d_Walk_pushSlice_156 : decode b_Walk_pushSlice 156 = .ok (.isub, 1) := by sorry
theorem d_Walk_pushSlice_157 : decode b_Walk_pushSlice 157 = .ok (.invokestatic 134, 3) := by sorry
theorem d_Walk_pushSlice_160 : decode b_Walk_pushSlice 160 = .ok (.goto 7, 3) := by sorry
theorem d_Walk_pushSlice_163 : decode b_Walk_pushSlice 163 = .ok (.iload_n 3, 1) := by sorry
theorem d_Walk_pushSlice_164 : decode b_Walk_pushSlice 164 = .ok (.iconst 1, 1) := by sorry
theorem d_Walk_pushSlice_165 : decode b_Walk_pushSlice 165 = .ok (.isub, 1) := by sorry
theorem d_Walk_pushSlice_166 : decode b_Walk_pushSlice 166 = .ok (.i2l, 1) := by sorry
theorem d_Walk_pushSlice_167 : decode b_Walk_pushSlice 167 = .ok (.lstore 6, 2) := by sorry
theorem d_Walk_pushSlice_169 : decode b_Walk_pushSlice 169 = .ok (.lload 6, 2) := by sorry
theorem d_Walk_pushSlice_171 : decode b_Walk_pushSlice 171 = .ok (.lload 4, 2) := by sorry
theorem d_Walk_pushSlice_173 : decode b_Walk_pushSlice 173 = .ok (.lcmp, 1) := by sorry
theorem d_Walk_pushSlice_174 : decode b_Walk_pushSlice 174 = .ok (.ifCond .le 27, 3) := by sorry
theorem d_Walk_pushSlice_177 : decode b_Walk_pushSlice 177 = .ok (.aload_n 0, 1) := by sorry
theorem d_Walk_pushSlice_178 : decode b_Walk_pushSlice 178 = .ok (.aload_n 1, 1) := by sorry
theorem d_Walk_pushSlice_179 : decode b_Walk_pushSlice 179 = .ok (.getfield 122, 3) := by sorry
theorem d_Walk_pushSlice_182 : decode b_Walk_pushSlice 182 = .ok (.lload 6, 2) := by sorry
theorem d_Walk_pushSlice_184 : decode b_Walk_pushSlice 184 = .ok (.l2i, 1) := by sorry
theorem d_Walk_pushSlice_185 : decode b_Walk_pushSlice 185 = .ok (.aaload, 1) := by sorry
theorem d_Walk_pushSlice_186 : decode b_Walk_pushSlice 186 = .ok (.invokevirtual 38, 3) := by sorry
theorem d_Walk_pushSlice_189 : decode b_Walk_pushSlice 189 = .ok (.lload 6, 2) := by sorry
theorem d_Walk_pushSlice_191 : decode b_Walk_pushSlice 191 = .ok (.aload_n 2, 1) := by sorry
theorem d_Walk_pushSlice_192 : decode b_Walk_pushSlice 192 = .ok (.getfield 126, 3) := by sorry
theorem d_Walk_pushSlice_195 : decode b_Walk_pushSlice 195 = .ok (.ladd, 1) := by sorry
theorem d_Walk_pushSlice_196 : decode b_Walk_pushSlice 196 = .ok (.lstore 6, 2) := by sorry
theorem d_Walk_pushSlice_198 : decode b_Walk_pushSlice 198 = .ok (.goto (-29), 3) := by sorry
theorem d_Walk_pushSlice_201 : decode b_Walk_pushSlice 201 = .ok (.return_, 1) := by sorry
end
section
theorem z_579 : (.fieldLink "QueryBench$Walk" 73 "QueryBench$Segment" "first" "LQueryBench$Selector;" : Cond) ∈ gtbl := by sorry
theorem z_611 : (.fieldLink "QueryBench$Walk" 76 "QueryBench$Selector" "kind" "I" : Cond) ∈ gtbl := by sorry
theorem z_614 : (.fieldLink "QueryBench$Walk" 81 "QueryBench$Selector" "name" "[I" : Cond) ∈ gtbl := by sorry
theorem z_626 : (.fieldLink "QueryBench$Walk" 104 "QueryBench$Selector" "filter" "LQueryBench$Condition;" : Cond) ∈ gtbl := by sorry
theorem z_630 : (.fieldLink "QueryBench$Walk" 112 "QueryBench$Selector" "next" "LQueryBench$Selector;" : Cond) ∈ gtbl := by sorry
theorem z_857 : (.methodLink "QueryBench$Walk" 85 ⟨"QueryBench$Walk", "pushNamed", "(LQueryBench$Value;[I)V"⟩ : Cond) ∈ gtbl := by sorry
theorem z_859 : (.instanceMethod ⟨"QueryBench$Walk", "pushNamed", "(LQueryBench$Value;[I)V"⟩ : Cond) ∈ gtbl := by sorry
theorem z_870 : (.methodLink "QueryBench$Walk" 89 ⟨"QueryBench$Walk", "pushAll", "(LQueryBench$Value;)V"⟩ : Cond) ∈ gtbl := by sorry
theorem z_872 : (.instanceMethod ⟨"QueryBench$Walk", "pushAll", "(LQueryBench$Value;)V"⟩ : Cond) ∈ gtbl := by sorry
theorem z_875 : (.methodLink "QueryBench$Walk" 96 ⟨"QueryBench$Walk", "pushAt", "(LQueryBench$Value;J)V"⟩ : Cond) ∈ gtbl := by sorry
theorem z_877 : (.instanceMethod ⟨"QueryBench$Walk", "pushAt", "(LQueryBench$Value;J)V"⟩ : Cond) ∈ gtbl := by sorry
theorem z_879 : (.methodLink "QueryBench$Walk" 100 ⟨"QueryBench$Walk", "pushSlice", "(LQueryBench$Value;LQueryBench$Selector;)V"⟩ : Cond) ∈ gtbl := by sorry
theorem z_881 : (.instanceMethod ⟨"QueryBench$Walk", "pushSlice", "(LQueryBench$Value;LQueryBench$Selector;)V"⟩ : Cond) ∈ gtbl := by sorry
theorem z_891 : (.methodLink "QueryBench$Walk" 108 ⟨"QueryBench$Walk", "pushFiltered", "(LQueryBench$Value;LQueryBench$Condition;)V"⟩ : Cond) ∈ gtbl := by sorry
theorem z_893 : (.instanceMethod ⟨"QueryBench$Walk", "pushFiltered", "(LQueryBench$Value;LQueryBench$Condition;)V"⟩ : Cond) ∈ gtbl := by sorry
theorem z_895 : (.methodLink "QueryBench$Walk" 152 ⟨"QueryBench$Walk", "holds", "(LQueryBench$Condition;LQueryBench$Value;)Z"⟩ : Cond) ∈ gtbl := by sorry
theorem z_897 : (.instanceMethod ⟨"QueryBench$Walk", "holds", "(LQueryBench$Condition;LQueryBench$Value;)Z"⟩ : Cond) ∈ gtbl := by sorry
abbrev b_Walk_nodes : ByteArray := prog_12_method_3_code
def y_Walk_nodes : MethodName := ⟨"QueryBench$Walk", "nodes", "(LQueryBench$Query;LQueryBench$Value;)I"⟩
abbrev k_Walk_nodes : Cond := .code y_Walk_nodes b_Walk_nodes 7 (some .int)
theorem i_Walk_nodes : k_Walk_nodes ∈ gtbl := by sorry
theorem d_Walk_nodes_0 : decode b_Walk_nodes 0 = .ok (.aload_n 0, 1) := by sorry
theorem d_Walk_nodes_1 : decode b_Walk_nodes 1 = .ok (.getfield 21, 3) := by sorry
theorem d_Walk_nodes_4 : decode b_Walk_nodes 4 = .ok (.istore_n 3, 1) := by sorry
theorem d_Walk_nodes_5 : decode b_Walk_nodes 5 = .ok (.aload_n 0, 1) := by sorry
theorem d_Walk_nodes_6 : decode b_Walk_nodes 6 = .ok (.aload_n 1, 1) := by sorry
theorem d_Walk_nodes_7 : decode b_Walk_nodes 7 = .ok (.getfield 32, 3) := by sorry
theorem d_Walk_nodes_10 : decode b_Walk_nodes 10 = .ok (.ifCond .eq 10, 3) := by sorry
theorem d_Walk_nodes_13 : decode b_Walk_nodes 13 = .ok (.aload_n 0, 1) := by sorry
theorem d_Walk_nodes_14 : decode b_Walk_nodes 14 = .ok (.getfield 17, 3) := by sorry
theorem d_Walk_nodes_17 : decode b_Walk_nodes 17 = .ok (.goto 4, 3) := by sorry
theorem d_Walk_nodes_20 : decode b_Walk_nodes 20 = .ok (.aload_n 2, 1) := by sorry
theorem d_Walk_nodes_21 : decode b_Walk_nodes 21 = .ok (.invokevirtual 38, 3) := by sorry
theorem d_Walk_nodes_24 : decode b_Walk_nodes 24 = .ok (.aload_n 1, 1) := by sorry
theorem d_Walk_nodes_25 : decode b_Walk_nodes 25 = .ok (.getfield 42, 3) := by sorry
theorem d_Walk_nodes_28 : decode b_Walk_nodes 28 = .ok (.astore 4, 2) := by sorry
theorem d_Walk_nodes_30 : decode b_Walk_nodes 30 = .ok (.aload 4, 2) := by sorry
theorem d_Walk_nodes_32 : decode b_Walk_nodes 32 = .ok (.ifnull 51, 3) := by sorry
theorem d_Walk_nodes_35 : decode b_Walk_nodes 35 = .ok (.aload_n 0, 1) := by sorry
theorem d_Walk_nodes_36 : decode b_Walk_nodes 36 = .ok (.getfield 21, 3) := by sorry
theorem d_Walk_nodes_39 : decode b_Walk_nodes 39 = .ok (.istore 5, 2) := by sorry
theorem d_Walk_nodes_41 : decode b_Walk_nodes 41 = .ok (.iload_n 3, 1) := by sorry
theorem d_Walk_nodes_42 : decode b_Walk_nodes 42 = .ok (.istore 6, 2) := by sorry
theorem d_Walk_nodes_44 : decode b_Walk_nodes 44 = .ok (.iload 6, 2) := by sorry
theorem d_Walk_nodes_46 : decode b_Walk_nodes 46 = .ok (.iload 5, 2) := by sorry
theorem d_Walk_nodes_48 : decode b_Walk_nodes 48 = .ok (.if_icmp .ge 22, 3) := by sorry
theorem d_Walk_nodes_51 : decode b_Walk_nodes 51 = .ok (.aload_n 0, 1) := by sorry
theorem d_Walk_nodes_52 : decode b_Walk_nodes 52 = .ok (.aload 4, 2) := by sorry
theorem d_Walk_nodes_54 : decode b_Walk_nodes 54 = .ok (.aload_n 0, 1) := by sorry
theorem d_Walk_nodes_55 : decode b_Walk_nodes 55 = .ok (.getfield 11, 3) := by sorry
theorem d_Walk_nodes_58 : decode b_Walk_nodes 58 = .ok (.iload 6, 2) := by sorry
theorem d_Walk_nodes_60 : decode b_Walk_nodes 60 = .ok (.aaload, 1) := by sorry
theorem d_Walk_nodes_61 : decode b_Walk_nodes 61 = .ok (.invokevirtual 46, 3) := by sorry
theorem d_Walk_nodes_64 : decode b_Walk_nodes 64 = .ok (.iinc 6 1, 3) := by sorry
theorem d_Walk_nodes_67 : decode b_Walk_nodes 67 = .ok (.goto (-23), 3) := by sorry
theorem d_Walk_nodes_70 : decode b_Walk_nodes 70 = .ok (.iload 5, 2) := by sorry
theorem d_Walk_nodes_72 : decode b_Walk_nodes 72 = .ok (.istore_n 3, 1) := by sorry
theorem d_Walk_nodes_73 : decode b_Walk_nodes 73 = .ok (.aload 4, 2) := by sorry
theorem d_Walk_nodes_75 : decode b_Walk_nodes 75 = .ok (.getfield 50, 3) := by sorry
theorem d_Walk_nodes_78 : decode b_Walk_nodes 78 = .ok (.astore 4, 2) := by sorry
theorem d_Walk_nodes_80 : decode b_Walk_nodes 80 = .ok (.goto (-50), 3) := by sorry
theorem d_Walk_nodes_83 : decode b_Walk_nodes 83 = .ok (.iload_n 3, 1) := by sorry
theorem d_Walk_nodes_84 : decode b_Walk_nodes 84 = .ok (.ireturn, 1) := by sorry
abbrev b_Walk_holds : ByteArray := prog_12_method_14_code
def y_Walk_holds : MethodName := ⟨"QueryBench$Walk", "holds", "(LQueryBench$Condition;LQueryBench$Value;)Z"⟩
abbrev k_Walk_holds : Cond := .code y_Walk_holds b_Walk_holds 3 (some .boolean)
theorem i_Walk_holds : k_Walk_holds ∈ gtbl := by sorry
theorem d_Walk_holds_0 : decode b_Walk_holds 0 = .ok (.aload_n 1, 1) := by sorry
theorem d_Walk_holds_1 : decode b_Walk_holds 1 = .ok (.getfield 156, 3) := by sorry
theorem d_Walk_holds_4 : decode b_Walk_holds 4 = .ok (.tableswitch 88 0 3 #[32, 42, 52, 70], 32) := by sorry
theorem d_Walk_holds_36 : decode b_Walk_holds 36 = .ok (.aload_n 0, 1) := by sorry
theorem d_Walk_holds_37 : decode b_Walk_holds 37 = .ok (.aload_n 1, 1) := by sorry
theorem d_Walk_holds_38 : decode b_Walk_holds 38 = .ok (.getfield 159, 3) := by sorry
theorem d_Walk_holds_41 : decode b_Walk_holds 41 = .ok (.aload_n 2, 1) := by sorry
theorem d_Walk_holds_42 : decode b_Walk_holds 42 = .ok (.invokevirtual 161, 3) := by sorry
theorem d_Walk_holds_45 : decode b_Walk_holds 45 = .ok (.ireturn, 1) := by sorry
theorem d_Walk_holds_46 : decode b_Walk_holds 46 = .ok (.aload_n 0, 1) := by sorry
theorem d_Walk_holds_47 : decode b_Walk_holds 47 = .ok (.aload_n 1, 1) := by sorry
theorem d_Walk_holds_48 : decode b_Walk_holds 48 = .ok (.getfield 159, 3) := by sorry
theorem d_Walk_holds_51 : decode b_Walk_holds 51 = .ok (.aload_n 2, 1) := by sorry
theorem d_Walk_holds_52 : decode b_Walk_holds 52 = .ok (.invokevirtual 164, 3) := by sorry
theorem d_Walk_holds_55 : decode b_Walk_holds 55 = .ok (.ireturn, 1) := by sorry
theorem d_Walk_holds_56 : decode b_Walk_holds 56 = .ok (.aload_n 0, 1) := by sorry
theorem d_Walk_holds_57 : decode b_Walk_holds 57 = .ok (.aload_n 1, 1) := by sorry
theorem d_Walk_holds_58 : decode b_Walk_holds 58 = .ok (.getfield 159, 3) := by sorry
theorem d_Walk_holds_61 : decode b_Walk_holds 61 = .ok (.aload_n 2, 1) := by sorry
theorem d_Walk_holds_62 : decode b_Walk_holds 62 = .ok (.invokevirtual 152, 3) := by sorry
theorem d_Walk_holds_65 : decode b_Walk_holds 65 = .ok (.ifCond .ne 7, 3) := by sorry
theorem d_Walk_holds_68 : decode b_Walk_holds 68 = .ok (.iconst 1, 1) := by sorry
theorem d_Walk_holds_69 : decode b_Walk_holds 69 = .ok (.goto 4, 3) := by sorry
theorem d_Walk_holds_72 : decode b_Walk_holds 72 = .ok (.iconst 0, 1) := by sorry
theorem d_Walk_holds_73 : decode b_Walk_holds 73 = .ok (.ireturn, 1) := by sorry
theorem d_Walk_holds_74 : decode b_Walk_holds 74 = .ok (.aload_n 0, 1) := by sorry
theorem d_Walk_holds_75 : decode b_Walk_holds 75 = .ok (.aload_n 1, 1) := by sorry
theorem d_Walk_holds_76 : decode b_Walk_holds 76 = .ok (.getfield 167, 3) := by sorry
theorem d_Walk_holds_79 : decode b_Walk_holds 79 = .ok (.aload_n 2, 1) := by sorry
theorem d_Walk_holds_80 : decode b_Walk_holds 80 = .ok (.invokevirtual 171, 3) := by sorry
theorem d_Walk_holds_83 : decode b_Walk_holds 83 = .ok (.ifCond .le 7, 3) := by sorry
theorem d_Walk_holds_86 : decode b_Walk_holds 86 = .ok (.iconst 1, 1) := by sorry
theorem d_Walk_holds_87 : decode b_Walk_holds 87 = .ok (.goto 4, 3) := by sorry
theorem d_Walk_holds_90 : decode b_Walk_holds 90 = .ok (.iconst 0, 1) := by sorry
theorem d_Walk_holds_91 : decode b_Walk_holds 91 = .ok (.ireturn, 1) := by sorry
theorem d_Walk_holds_92 : decode b_Walk_holds 92 = .ok (.aload_n 0, 1) := by sorry
theorem d_Walk_holds_93 : decode b_Walk_holds 93 = .ok (.aload_n 1, 1) := by sorry
theorem d_Walk_holds_94 : decode b_Walk_holds 94 = .ok (.aload_n 2, 1) := by sorry
theorem d_Walk_holds_95 : decode b_Walk_holds 95 = .ok (.invokevirtual 174, 3) := by sorry
theorem d_Walk_holds_98 : decode b_Walk_holds 98 = .ok (.ireturn, 1) := by sorry
abbrev b_Walk_valueOf : ByteArray := prog_12_method_18_code
def y_Walk_valueOf : MethodName := ⟨"QueryBench$Walk", "valueOf", "(LQueryBench$Operand;LQueryBench$Value;)LQueryBench$Value;"⟩
abbrev k_Walk_valueOf : Cond := .code y_Walk_valueOf b_Walk_valueOf 4 (some (.object "QueryBench$Value"))
theorem i_Walk_valueOf : k_Walk_valueOf ∈ gtbl := by sorry
theorem d_Walk_valueOf_0 : decode b_Walk_valueOf 0 = .ok (.aload_n 1, 1) := by sorry
theorem d_Walk_valueOf_1 : decode b_Walk_valueOf 1 = .ok (.getfield 197, 3) := by sorry
theorem d_Walk_valueOf_4 : decode b_Walk_valueOf 4 = .ok (.tableswitch 113 1 3 #[28, 38, 60], 28) := by sorry
theorem d_Walk_valueOf_32 : decode b_Walk_valueOf 32 = .ok (.aload_n 0, 1) := by sorry
theorem d_Walk_valueOf_33 : decode b_Walk_valueOf 33 = .ok (.aload_n 1, 1) := by sorry
theorem d_Walk_valueOf_34 : decode b_Walk_valueOf 34 = .ok (.getfield 200, 3) := by sorry
theorem d_Walk_valueOf_37 : decode b_Walk_valueOf 37 = .ok (.aload_n 2, 1) := by sorry
theorem d_Walk_valueOf_38 : decode b_Walk_valueOf 38 = .ok (.invokevirtual 201, 3) := by sorry
theorem d_Walk_valueOf_41 : decode b_Walk_valueOf 41 = .ok (.areturn, 1) := by sorry
theorem d_Walk_valueOf_42 : decode b_Walk_valueOf 42 = .ok (.aload_n 1, 1) := by sorry
theorem d_Walk_valueOf_43 : decode b_Walk_valueOf 43 = .ok (.getfield 205, 3) := by sorry
theorem d_Walk_valueOf_46 : decode b_Walk_valueOf 46 = .ok (.aload_n 0, 1) := by sorry
theorem d_Walk_valueOf_47 : decode b_Walk_valueOf 47 = .ok (.aload_n 1, 1) := by sorry
theorem d_Walk_valueOf_48 : decode b_Walk_valueOf 48 = .ok (.getfield 200, 3) := by sorry
theorem d_Walk_valueOf_51 : decode b_Walk_valueOf 51 = .ok (.aload_n 2, 1) := by sorry
theorem d_Walk_valueOf_52 : decode b_Walk_valueOf 52 = .ok (.invokevirtual 171, 3) := by sorry
theorem d_Walk_valueOf_55 : decode b_Walk_valueOf 55 = .ok (.i2l, 1) := by sorry
theorem d_Walk_valueOf_56 : decode b_Walk_valueOf 56 = .ok (.putfield 208, 3) := by sorry
theorem d_Walk_valueOf_59 : decode b_Walk_valueOf 59 = .ok (.aload_n 1, 1) := by sorry
theorem d_Walk_valueOf_60 : decode b_Walk_valueOf 60 = .ok (.getfield 205, 3) := by sorry
theorem d_Walk_valueOf_63 : decode b_Walk_valueOf 63 = .ok (.areturn, 1) := by sorry
theorem d_Walk_valueOf_64 : decode b_Walk_valueOf 64 = .ok (.aload_n 0, 1) := by sorry
theorem d_Walk_valueOf_65 : decode b_Walk_valueOf 65 = .ok (.aload_n 1, 1) := by sorry
theorem d_Walk_valueOf_66 : decode b_Walk_valueOf 66 = .ok (.getfield 211, 3) := by sorry
theorem d_Walk_valueOf_69 : decode b_Walk_valueOf 69 = .ok (.aload_n 2, 1) := by sorry
theorem d_Walk_valueOf_70 : decode b_Walk_valueOf 70 = .ok (.invokevirtual 183, 3) := by sorry
theorem d_Walk_valueOf_73 : decode b_Walk_valueOf 73 = .ok (.astore_n 3, 1) := by sorry
theorem d_Walk_valueOf_74 : decode b_Walk_valueOf 74 = .ok (.aload_n 1, 1) := by sorry
theorem d_Walk_valueOf_75 : decode b_Walk_valueOf 75 = .ok (.getfield 205, 3) := by sorry
theorem d_Walk_valueOf_78 : decode b_Walk_valueOf 78 = .ok (.aload_n 3, 1) := by sorry
theorem d_Walk_valueOf_79 : decode b_Walk_valueOf 79 = .ok (.ifnonnull 9, 3) := by sorry
theorem d_Walk_valueOf_82 : decode b_Walk_valueOf 82 = .ok (.ldc2_w 141, 3) := by sorry
theorem d_Walk_valueOf_85 : decode b_Walk_valueOf 85 = .ok (.goto 8, 3) := by sorry
theorem d_Walk_valueOf_88 : decode b_Walk_valueOf 88 = .ok (.aload_n 3, 1) := by sorry
theorem d_Walk_valueOf_89 : decode b_Walk_valueOf 89 = .ok (.invokevirtual 214, 3) := by sorry
theorem d_Walk_valueOf_92 : decode b_Walk_valueOf 92 = .ok (.i2l, 1) := by sorry
theorem d_Walk_valueOf_93 : decode b_Walk_valueOf 93 = .ok (.putfield 208, 3) := by sorry
theorem d_Walk_valueOf_96 : decode b_Walk_valueOf 96 = .ok (.aload_n 1, 1) := by sorry
theorem d_Walk_valueOf_97 : decode b_Walk_valueOf 97 = .ok (.getfield 205, 3) := by sorry
theorem d_Walk_valueOf_100 : decode b_Walk_valueOf 100 = .ok (.getfield 208, 3) := by sorry
theorem d_Walk_valueOf_103 : decode b_Walk_valueOf 103 = .ok (.lconst 0, 1) := by sorry
theorem d_Walk_valueOf_104 : decode b_Walk_valueOf 104 = .ok (.lcmp, 1) := by sorry
theorem d_Walk_valueOf_105 : decode b_Walk_valueOf 105 = .ok (.ifCond .ge 7, 3) := by sorry
theorem d_Walk_valueOf_108 : decode b_Walk_valueOf 108 = .ok (.aconst_null, 1) := by sorry
theorem d_Walk_valueOf_109 : decode b_Walk_valueOf 109 = .ok (.goto 7, 3) := by sorry
theorem d_Walk_valueOf_112 : decode b_Walk_valueOf 112 = .ok (.aload_n 1, 1) := by sorry
theorem d_Walk_valueOf_113 : decode b_Walk_valueOf 113 = .ok (.getfield 205, 3) := by sorry
theorem d_Walk_valueOf_116 : decode b_Walk_valueOf 116 = .ok (.areturn, 1) := by sorry
theorem d_Walk_valueOf_117 : decode b_Walk_valueOf 117 = .ok (.aload_n 1, 1) := by sorry
theorem d_Walk_valueOf_118 : decode b_Walk_valueOf 118 = .ok (.getfield 205, 3) := by sorry
theorem d_Walk_valueOf_121 : decode b_Walk_valueOf 121 = .ok (.areturn, 1) := by sorry
abbrev b_Walk_pushFiltered : ByteArray := prog_12_method_13_code
def y_Walk_pushFiltered : MethodName := ⟨"QueryBench$Walk", "pushFiltered", "(LQueryBench$Value;LQueryBench$Condition;)V"⟩
abbrev k_Walk_pushFiltered : Cond := .code y_Walk_pushFiltered b_Walk_pushFiltered 4 none
theorem i_Walk_pushFiltered : k_Walk_pushFiltered ∈ gtbl := by sorry
theorem d_Walk_pushFiltered_0 : decode b_Walk_pushFiltered 0 = .ok (.iconst 0, 1) := by sorry
theorem d_Walk_pushFiltered_1 : decode b_Walk_pushFiltered 1 = .ok (.istore_n 3, 1) := by sorry
theorem d_Walk_pushFiltered_2 : decode b_Walk_pushFiltered 2 = .ok (.iload_n 3, 1) := by sorry
theorem d_Walk_pushFiltered_3 : decode b_Walk_pushFiltered 3 = .ok (.aload_n 1, 1) := by sorry
theorem d_Walk_pushFiltered_4 : decode b_Walk_pushFiltered 4 = .ok (.invokevirtual 118, 3) := by sorry
theorem d_Walk_pushFiltered_7 : decode b_Walk_pushFiltered 7 = .ok (.if_icmp .ge 37, 3) := by sorry
theorem d_Walk_pushFiltered_10 : decode b_Walk_pushFiltered 10 = .ok (.aload_n 0, 1) := by sorry
theorem d_Walk_pushFiltered_11 : decode b_Walk_pushFiltered 11 = .ok (.invokevirtual 58, 3) := by sorry
theorem d_Walk_pushFiltered_14 : decode b_Walk_pushFiltered 14 = .ok (.aload_n 0, 1) := by sorry
theorem d_Walk_pushFiltered_15 : decode b_Walk_pushFiltered 15 = .ok (.aload_n 2, 1) := by sorry
theorem d_Walk_pushFiltered_16 : decode b_Walk_pushFiltered 16 = .ok (.aload_n 1, 1) := by sorry
theorem d_Walk_pushFiltered_17 : decode b_Walk_pushFiltered 17 = .ok (.getfield 122, 3) := by sorry
theorem d_Walk_pushFiltered_20 : decode b_Walk_pushFiltered 20 = .ok (.iload_n 3, 1) := by sorry
theorem d_Walk_pushFiltered_21 : decode b_Walk_pushFiltered 21 = .ok (.aaload, 1) := by sorry
theorem d_Walk_pushFiltered_22 : decode b_Walk_pushFiltered 22 = .ok (.invokevirtual 152, 3) := by sorry
theorem d_Walk_pushFiltered_25 : decode b_Walk_pushFiltered 25 = .ok (.ifCond .eq 13, 3) := by sorry
theorem d_Walk_pushFiltered_28 : decode b_Walk_pushFiltered 28 = .ok (.aload_n 0, 1) := by sorry
theorem d_Walk_pushFiltered_29 : decode b_Walk_pushFiltered 29 = .ok (.aload_n 1, 1) := by sorry
theorem d_Walk_pushFiltered_30 : decode b_Walk_pushFiltered 30 = .ok (.getfield 122, 3) := by sorry
theorem d_Walk_pushFiltered_33 : decode b_Walk_pushFiltered 33 = .ok (.iload_n 3, 1) := by sorry
theorem d_Walk_pushFiltered_34 : decode b_Walk_pushFiltered 34 = .ok (.aaload, 1) := by sorry
theorem d_Walk_pushFiltered_35 : decode b_Walk_pushFiltered 35 = .ok (.invokevirtual 38, 3) := by sorry
theorem d_Walk_pushFiltered_38 : decode b_Walk_pushFiltered 38 = .ok (.iinc 3 1, 3) := by sorry
theorem d_Walk_pushFiltered_41 : decode b_Walk_pushFiltered 41 = .ok (.goto (-39), 3) := by sorry
theorem d_Walk_pushFiltered_44 : decode b_Walk_pushFiltered 44 = .ok (.return_, 1) := by sorry
abbrev b_Walk_choose : ByteArray := prog_12_method_7_code
def y_Walk_choose : MethodName := ⟨"QueryBench$Walk", "choose", "(LQueryBench$Segment;LQueryBench$Value;)V"⟩
abbrev k_Walk_choose : Cond := .code y_Walk_choose b_Walk_choose 4 none
theorem i_Walk_choose : k_Walk_choose ∈ gtbl := by sorry
theorem d_Walk_choose_0 : decode b_Walk_choose 0 = .ok (.aload_n 1, 1) := by sorry
theorem d_Walk_choose_1 : decode b_Walk_choose 1 = .ok (.getfield 73, 3) := by sorry
theorem d_Walk_choose_4 : decode b_Walk_choose 4 = .ok (.astore_n 3, 1) := by sorry
theorem d_Walk_choose_5 : decode b_Walk_choose 5 = .ok (.aload_n 3, 1) := by sorry
theorem d_Walk_choose_6 : decode b_Walk_choose 6 = .ok (.ifnull 96, 3) := by sorry
theorem d_Walk_choose_9 : decode b_Walk_choose 9 = .ok (.aload_n 3, 1) := by sorry
theorem d_Walk_choose_10 : decode b_Walk_choose 10 = .ok (.getfield 76, 3) := by sorry
theorem d_Walk_choose_13 : decode b_Walk_choose 13 = .ok (.tableswitch 72 0 3 #[31, 43, 51, 63], 31) := by sorry
theorem d_Walk_choose_44 : decode b_Walk_choose 44 = .ok (.aload_n 0, 1) := by sorry
theorem d_Walk_choose_45 : decode b_Walk_choose 45 = .ok (.aload_n 2, 1) := by sorry
theorem d_Walk_choose_46 : decode b_Walk_choose 46 = .ok (.aload_n 3, 1) := by sorry
theorem d_Walk_choose_47 : decode b_Walk_choose 47 = .ok (.getfield 81, 3) := by sorry
theorem d_Walk_choose_50 : decode b_Walk_choose 50 = .ok (.invokevirtual 85, 3) := by sorry
theorem d_Walk_choose_53 : decode b_Walk_choose 53 = .ok (.goto 41, 3) := by sorry
theorem d_Walk_choose_56 : decode b_Walk_choose 56 = .ok (.aload_n 0, 1) := by sorry
theorem d_Walk_choose_57 : decode b_Walk_choose 57 = .ok (.aload_n 2, 1) := by sorry
theorem d_Walk_choose_58 : decode b_Walk_choose 58 = .ok (.invokevirtual 89, 3) := by sorry
theorem d_Walk_choose_61 : decode b_Walk_choose 61 = .ok (.goto 33, 3) := by sorry
theorem d_Walk_choose_64 : decode b_Walk_choose 64 = .ok (.aload_n 0, 1) := by sorry
theorem d_Walk_choose_65 : decode b_Walk_choose 65 = .ok (.aload_n 2, 1) := by sorry
theorem d_Walk_choose_66 : decode b_Walk_choose 66 = .ok (.aload_n 3, 1) := by sorry
theorem d_Walk_choose_67 : decode b_Walk_choose 67 = .ok (.getfield 92, 3) := by sorry
theorem d_Walk_choose_70 : decode b_Walk_choose 70 = .ok (.invokevirtual 96, 3) := by sorry
theorem d_Walk_choose_73 : decode b_Walk_choose 73 = .ok (.goto 21, 3) := by sorry
theorem d_Walk_choose_76 : decode b_Walk_choose 76 = .ok (.aload_n 0, 1) := by sorry
theorem d_Walk_choose_77 : decode b_Walk_choose 77 = .ok (.aload_n 2, 1) := by sorry
theorem d_Walk_choose_78 : decode b_Walk_choose 78 = .ok (.aload_n 3, 1) := by sorry
theorem d_Walk_choose_79 : decode b_Walk_choose 79 = .ok (.invokevirtual 100, 3) := by sorry
theorem d_Walk_choose_82 : decode b_Walk_choose 82 = .ok (.goto 12, 3) := by sorry
theorem d_Walk_choose_85 : decode b_Walk_choose 85 = .ok (.aload_n 0, 1) := by sorry
theorem d_Walk_choose_86 : decode b_Walk_choose 86 = .ok (.aload_n 2, 1) := by sorry
theorem d_Walk_choose_87 : decode b_Walk_choose 87 = .ok (.aload_n 3, 1) := by sorry
theorem d_Walk_choose_88 : decode b_Walk_choose 88 = .ok (.getfield 104, 3) := by sorry
theorem d_Walk_choose_91 : decode b_Walk_choose 91 = .ok (.invokevirtual 108, 3) := by sorry
theorem d_Walk_choose_94 : decode b_Walk_choose 94 = .ok (.aload_n 3, 1) := by sorry
theorem d_Walk_choose_95 : decode b_Walk_choose 95 = .ok (.getfield 112, 3) := by sorry
theorem d_Walk_choose_98 : decode b_Walk_choose 98 = .ok (.astore_n 3, 1) := by sorry
theorem d_Walk_choose_99 : decode b_Walk_choose 99 = .ok (.goto (-94), 3) := by sorry
theorem d_Walk_choose_102 : decode b_Walk_choose 102 = .ok (.return_, 1) := by sorry
end
section
theorem z_121 : (.fieldLink "QueryBench$Walk" 17 "QueryBench$Walk" "root" "LQueryBench$Value;" : Cond) ∈ gtbl := by sorry
theorem z_338 : (.fieldLink "QueryBench$Walk" 70 "QueryBench$Value" "nextOfAll" "LQueryBench$Value;" : Cond) ∈ gtbl := by sorry
theorem z_340 : (.fieldLink "QueryBench$Walk" 67 "QueryBench$Value" "span" "I" : Cond) ∈ gtbl := by sorry
theorem z_547 : (.fieldLink "QueryBench$Walk" 32 "QueryBench$Query" "fromRoot" "Z" : Cond) ∈ gtbl := by sorry
theorem z_552 : (.fieldLink "QueryBench$Walk" 42 "QueryBench$Query" "first" "LQueryBench$Segment;" : Cond) ∈ gtbl := by sorry
theorem z_576 : (.fieldLink "QueryBench$Walk" 61 "QueryBench$Segment" "descends" "Z" : Cond) ∈ gtbl := by sorry
theorem z_581 : (.fieldLink "QueryBench$Walk" 50 "QueryBench$Segment" "next" "LQueryBench$Segment;" : Cond) ∈ gtbl := by sorry
theorem z_849 : (.methodLink "QueryBench$Walk" 46 ⟨"QueryBench$Walk", "step", "(LQueryBench$Segment;LQueryBench$Value;)V"⟩ : Cond) ∈ gtbl := by sorry
theorem z_851 : (.instanceMethod ⟨"QueryBench$Walk", "step", "(LQueryBench$Segment;LQueryBench$Value;)V"⟩ : Cond) ∈ gtbl := by sorry
theorem z_853 : (.methodLink "QueryBench$Walk" 64 ⟨"QueryBench$Walk", "choose", "(LQueryBench$Segment;LQueryBench$Value;)V"⟩ : Cond) ∈ gtbl := by sorry
theorem z_855 : (.instanceMethod ⟨"QueryBench$Walk", "choose", "(LQueryBench$Segment;LQueryBench$Value;)V"⟩ : Cond) ∈ gtbl := by sorry
abbrev b_Walk_step : ByteArray := prog_12_method_6_code
def y_Walk_step : MethodName := ⟨"QueryBench$Walk", "step", "(LQueryBench$Segment;LQueryBench$Value;)V"⟩
abbrev k_Walk_step : Cond := .code y_Walk_step b_Walk_step 5 none
theorem i_Walk_step : k_Walk_step ∈ gtbl := by sorry
theorem d_Walk_step_0 : decode b_Walk_step 0 = .ok (.aload_n 1, 1) := by sorry
theorem d_Walk_step_1 : decode b_Walk_step 1 = .ok (.getfield 61, 3) := by sorry
theorem d_Walk_step_4 : decode b_Walk_step 4 = .ok (.ifCond .ne 10, 3) := by sorry
theorem d_Walk_step_7 : decode b_Walk_step 7 = .ok (.aload_n 0, 1) := by sorry
theorem d_Walk_step_8 : decode b_Walk_step 8 = .ok (.aload_n 1, 1) := by sorry
theorem d_Walk_step_9 : decode b_Walk_step 9 = .ok (.aload_n 2, 1) := by sorry
theorem d_Walk_step_10 : decode b_Walk_step 10 = .ok (.invokevirtual 64, 3) := by sorry
theorem d_Walk_step_13 : decode b_Walk_step 13 = .ok (.return_, 1) := by sorry
theorem d_Walk_step_14 : decode b_Walk_step 14 = .ok (.aload_n 2, 1) := by sorry
theorem d_Walk_step_15 : decode b_Walk_step 15 = .ok (.astore_n 3, 1) := by sorry
theorem d_Walk_step_16 : decode b_Walk_step 16 = .ok (.iconst 0, 1) := by sorry
theorem d_Walk_step_17 : decode b_Walk_step 17 = .ok (.istore 4, 2) := by sorry
theorem d_Walk_step_19 : decode b_Walk_step 19 = .ok (.iload 4, 2) := by sorry
theorem d_Walk_step_21 : decode b_Walk_step 21 = .ok (.aload_n 2, 1) := by sorry
theorem d_Walk_step_22 : decode b_Walk_step 22 = .ok (.getfield 67, 3) := by sorry
theorem d_Walk_step_25 : decode b_Walk_step 25 = .ok (.if_icmp .ge 28, 3) := by sorry
theorem d_Walk_step_28 : decode b_Walk_step 28 = .ok (.aload_n 3, 1) := by sorry
theorem d_Walk_step_29 : decode b_Walk_step 29 = .ok (.ifnull 24, 3) := by sorry
theorem d_Walk_step_32 : decode b_Walk_step 32 = .ok (.aload_n 0, 1) := by sorry
theorem d_Walk_step_33 : decode b_Walk_step 33 = .ok (.invokevirtual 58, 3) := by sorry
theorem d_Walk_step_36 : decode b_Walk_step 36 = .ok (.aload_n 0, 1) := by sorry
theorem d_Walk_step_37 : decode b_Walk_step 37 = .ok (.aload_n 1, 1) := by sorry
theorem d_Walk_step_38 : decode b_Walk_step 38 = .ok (.aload_n 3, 1) := by sorry
theorem d_Walk_step_39 : decode b_Walk_step 39 = .ok (.invokevirtual 64, 3) := by sorry
theorem d_Walk_step_42 : decode b_Walk_step 42 = .ok (.aload_n 3, 1) := by sorry
theorem d_Walk_step_43 : decode b_Walk_step 43 = .ok (.getfield 70, 3) := by sorry
theorem d_Walk_step_46 : decode b_Walk_step 46 = .ok (.astore_n 3, 1) := by sorry
theorem d_Walk_step_47 : decode b_Walk_step 47 = .ok (.iinc 4 1, 3) := by sorry
theorem d_Walk_step_50 : decode b_Walk_step 50 = .ok (.goto (-31), 3) := by sorry
theorem d_Walk_step_53 : decode b_Walk_step 53 = .ok (.return_, 1) := by sorry
end
section
theorem z_677 : (.fieldLink "QueryBench$Walk" 156 "QueryBench$Condition" "kind" "I" : Cond) ∈ gtbl := by sorry
theorem z_681 : (.fieldLink "QueryBench$Walk" 177 "QueryBench$Condition" "next" "LQueryBench$Condition;" : Cond) ∈ gtbl := by sorry
theorem z_684 : (.fieldLink "QueryBench$Walk" 179 "QueryBench$Condition" "left" "LQueryBench$Operand;" : Cond) ∈ gtbl := by sorry
theorem z_686 : (.fieldLink "QueryBench$Walk" 187 "QueryBench$Condition" "right" "LQueryBench$Operand;" : Cond) ∈ gtbl := by sorry
theorem z_835 : (.methodLink "QueryBench$Walk" 28 ⟨"QueryBench$Walk", "nodes", "(LQueryBench$Query;LQueryBench$Value;)I"⟩ : Cond) ∈ gtbl := by sorry
theorem z_837 : (.instanceMethod ⟨"QueryBench$Walk", "nodes", "(LQueryBench$Query;LQueryBench$Value;)I"⟩ : Cond) ∈ gtbl := by sorry
theorem z_915 : (.methodLink "QueryBench$Walk" 183 ⟨"QueryBench$Walk", "valueOf", "(LQueryBench$Operand;LQueryBench$Value;)LQueryBench$Value;"⟩ : Cond) ∈ gtbl := by sorry
theorem z_917 : (.instanceMethod ⟨"QueryBench$Walk", "valueOf", "(LQueryBench$Operand;LQueryBench$Value;)LQueryBench$Value;"⟩ : Cond) ∈ gtbl := by sorry
theorem z_928 : (.methodLink "QueryBench$Walk" 190 ⟨"QueryBench$Value", "same", "(LQueryBench$Value;LQueryBench$Value;)Z"⟩ : Cond) ∈ gtbl := by sorry
theorem z_929 : (.static ⟨"QueryBench$Value", "same", "(LQueryBench$Value;LQueryBench$Value;)Z"⟩ : Cond) ∈ gtbl := by sorry
theorem z_935 : (.methodLink "QueryBench$Walk" 194 ⟨"QueryBench$Value", "less", "(LQueryBench$Value;LQueryBench$Value;)Z"⟩ : Cond) ∈ gtbl := by sorry
theorem z_936 : (.static ⟨"QueryBench$Value", "less", "(LQueryBench$Value;LQueryBench$Value;)Z"⟩ : Cond) ∈ gtbl := by sorry
abbrev b_Walk_anyHolds : ByteArray := prog_12_method_15_code
def y_Walk_anyHolds : MethodName := ⟨"QueryBench$Walk", "anyHolds", "(LQueryBench$Condition;LQueryBench$Value;)Z"⟩
abbrev k_Walk_anyHolds : Cond := .code y_Walk_anyHolds b_Walk_anyHolds 4 (some .boolean)
theorem i_Walk_anyHolds : k_Walk_anyHolds ∈ gtbl := by sorry
theorem d_Walk_anyHolds_0 : decode b_Walk_anyHolds 0 = .ok (.aload_n 1, 1) := by sorry
theorem d_Walk_anyHolds_1 : decode b_Walk_anyHolds 1 = .ok (.astore_n 3, 1) := by sorry
theorem d_Walk_anyHolds_2 : decode b_Walk_anyHolds 2 = .ok (.aload_n 3, 1) := by sorry
theorem d_Walk_anyHolds_3 : decode b_Walk_anyHolds 3 = .ok (.ifnull 22, 3) := by sorry
theorem d_Walk_anyHolds_6 : decode b_Walk_anyHolds 6 = .ok (.aload_n 0, 1) := by sorry
theorem d_Walk_anyHolds_7 : decode b_Walk_anyHolds 7 = .ok (.aload_n 3, 1) := by sorry
theorem d_Walk_anyHolds_8 : decode b_Walk_anyHolds 8 = .ok (.aload_n 2, 1) := by sorry
theorem d_Walk_anyHolds_9 : decode b_Walk_anyHolds 9 = .ok (.invokevirtual 152, 3) := by sorry
theorem d_Walk_anyHolds_12 : decode b_Walk_anyHolds 12 = .ok (.ifCond .eq 5, 3) := by sorry
theorem d_Walk_anyHolds_15 : decode b_Walk_anyHolds 15 = .ok (.iconst 1, 1) := by sorry
theorem d_Walk_anyHolds_16 : decode b_Walk_anyHolds 16 = .ok (.ireturn, 1) := by sorry
theorem d_Walk_anyHolds_17 : decode b_Walk_anyHolds 17 = .ok (.aload_n 3, 1) := by sorry
theorem d_Walk_anyHolds_18 : decode b_Walk_anyHolds 18 = .ok (.getfield 177, 3) := by sorry
theorem d_Walk_anyHolds_21 : decode b_Walk_anyHolds 21 = .ok (.astore_n 3, 1) := by sorry
theorem d_Walk_anyHolds_22 : decode b_Walk_anyHolds 22 = .ok (.goto (-20), 3) := by sorry
theorem d_Walk_anyHolds_25 : decode b_Walk_anyHolds 25 = .ok (.iconst 0, 1) := by sorry
theorem d_Walk_anyHolds_26 : decode b_Walk_anyHolds 26 = .ok (.ireturn, 1) := by sorry
abbrev b_Walk_allHold : ByteArray := prog_12_method_16_code
def y_Walk_allHold : MethodName := ⟨"QueryBench$Walk", "allHold", "(LQueryBench$Condition;LQueryBench$Value;)Z"⟩
abbrev k_Walk_allHold : Cond := .code y_Walk_allHold b_Walk_allHold 4 (some .boolean)
theorem i_Walk_allHold : k_Walk_allHold ∈ gtbl := by sorry
theorem d_Walk_allHold_0 : decode b_Walk_allHold 0 = .ok (.aload_n 1, 1) := by sorry
theorem d_Walk_allHold_1 : decode b_Walk_allHold 1 = .ok (.astore_n 3, 1) := by sorry
theorem d_Walk_allHold_2 : decode b_Walk_allHold 2 = .ok (.aload_n 3, 1) := by sorry
theorem d_Walk_allHold_3 : decode b_Walk_allHold 3 = .ok (.ifnull 22, 3) := by sorry
theorem d_Walk_allHold_6 : decode b_Walk_allHold 6 = .ok (.aload_n 0, 1) := by sorry
theorem d_Walk_allHold_7 : decode b_Walk_allHold 7 = .ok (.aload_n 3, 1) := by sorry
theorem d_Walk_allHold_8 : decode b_Walk_allHold 8 = .ok (.aload_n 2, 1) := by sorry
theorem d_Walk_allHold_9 : decode b_Walk_allHold 9 = .ok (.invokevirtual 152, 3) := by sorry
theorem d_Walk_allHold_12 : decode b_Walk_allHold 12 = .ok (.ifCond .ne 5, 3) := by sorry
theorem d_Walk_allHold_15 : decode b_Walk_allHold 15 = .ok (.iconst 0, 1) := by sorry
theorem d_Walk_allHold_16 : decode b_Walk_allHold 16 = .ok (.ireturn, 1) := by sorry
theorem d_Walk_allHold_17 : decode b_Walk_allHold 17 = .ok (.aload_n 3, 1) := by sorry
theorem d_Walk_allHold_18 : decode b_Walk_allHold 18 = .ok (.getfield 177, 3) := by sorry
theorem d_Walk_allHold_21 : decode b_Walk_allHold 21 = .ok (.astore_n 3, 1) := by sorry
theorem d_Walk_allHold_22 : decode b_Walk_allHold 22 = .ok (.goto (-20), 3) := by sorry
theorem d_Walk_allHold_25 : decode b_Walk_allHold 25 = .ok (.iconst 1, 1) := by sorry
theorem d_Walk_allHold_26 : decode b_Walk_allHold 26 = .ok (.ireturn, 1) := by sorry
abbrev b_Walk_nodeCount : ByteArray := prog_12_method_19_code
def y_Walk_nodeCount : MethodName := ⟨"QueryBench$Walk", "nodeCount", "(LQueryBench$Query;LQueryBench$Value;)I"⟩
abbrev k_Walk_nodeCount : Cond := .code y_Walk_nodeCount b_Walk_nodeCount 6 (some .int)
theorem i_Walk_nodeCount : k_Walk_nodeCount ∈ gtbl := by sorry
theorem d_Walk_nodeCount_0 : decode b_Walk_nodeCount 0 = .ok (.aload_n 0, 1) := by sorry
theorem d_Walk_nodeCount_1 : decode b_Walk_nodeCount 1 = .ok (.getfield 21, 3) := by sorry
theorem d_Walk_nodeCount_4 : decode b_Walk_nodeCount 4 = .ok (.istore_n 3, 1) := by sorry
theorem d_Walk_nodeCount_5 : decode b_Walk_nodeCount 5 = .ok (.aload_n 0, 1) := by sorry
theorem d_Walk_nodeCount_6 : decode b_Walk_nodeCount 6 = .ok (.aload_n 1, 1) := by sorry
theorem d_Walk_nodeCount_7 : decode b_Walk_nodeCount 7 = .ok (.aload_n 2, 1) := by sorry
theorem d_Walk_nodeCount_8 : decode b_Walk_nodeCount 8 = .ok (.invokevirtual 28, 3) := by sorry
theorem d_Walk_nodeCount_11 : decode b_Walk_nodeCount 11 = .ok (.istore 4, 2) := by sorry
theorem d_Walk_nodeCount_13 : decode b_Walk_nodeCount 13 = .ok (.aload_n 0, 1) := by sorry
theorem d_Walk_nodeCount_14 : decode b_Walk_nodeCount 14 = .ok (.getfield 21, 3) := by sorry
theorem d_Walk_nodeCount_17 : decode b_Walk_nodeCount 17 = .ok (.iload 4, 2) := by sorry
theorem d_Walk_nodeCount_19 : decode b_Walk_nodeCount 19 = .ok (.isub, 1) := by sorry
theorem d_Walk_nodeCount_20 : decode b_Walk_nodeCount 20 = .ok (.istore 5, 2) := by sorry
theorem d_Walk_nodeCount_22 : decode b_Walk_nodeCount 22 = .ok (.aload_n 0, 1) := by sorry
theorem d_Walk_nodeCount_23 : decode b_Walk_nodeCount 23 = .ok (.iload_n 3, 1) := by sorry
theorem d_Walk_nodeCount_24 : decode b_Walk_nodeCount 24 = .ok (.putfield 21, 3) := by sorry
theorem d_Walk_nodeCount_27 : decode b_Walk_nodeCount 27 = .ok (.iload 5, 2) := by sorry
theorem d_Walk_nodeCount_29 : decode b_Walk_nodeCount 29 = .ok (.ireturn, 1) := by sorry
abbrev b_Walk_onlyNode : ByteArray := prog_12_method_20_code
def y_Walk_onlyNode : MethodName := ⟨"QueryBench$Walk", "onlyNode", "(LQueryBench$Query;LQueryBench$Value;)LQueryBench$Value;"⟩
abbrev k_Walk_onlyNode : Cond := .code y_Walk_onlyNode b_Walk_onlyNode 6 (some (.object "QueryBench$Value"))
theorem i_Walk_onlyNode : k_Walk_onlyNode ∈ gtbl := by sorry
theorem d_Walk_onlyNode_0 : decode b_Walk_onlyNode 0 = .ok (.aload_n 0, 1) := by sorry
theorem d_Walk_onlyNode_1 : decode b_Walk_onlyNode 1 = .ok (.getfield 21, 3) := by sorry
theorem d_Walk_onlyNode_4 : decode b_Walk_onlyNode 4 = .ok (.istore_n 3, 1) := by sorry
theorem d_Walk_onlyNode_5 : decode b_Walk_onlyNode 5 = .ok (.aload_n 0, 1) := by sorry
theorem d_Walk_onlyNode_6 : decode b_Walk_onlyNode 6 = .ok (.aload_n 1, 1) := by sorry
theorem d_Walk_onlyNode_7 : decode b_Walk_onlyNode 7 = .ok (.aload_n 2, 1) := by sorry
theorem d_Walk_onlyNode_8 : decode b_Walk_onlyNode 8 = .ok (.invokevirtual 28, 3) := by sorry
theorem d_Walk_onlyNode_11 : decode b_Walk_onlyNode 11 = .ok (.istore 4, 2) := by sorry
theorem d_Walk_onlyNode_13 : decode b_Walk_onlyNode 13 = .ok (.aload_n 0, 1) := by sorry
theorem d_Walk_onlyNode_14 : decode b_Walk_onlyNode 14 = .ok (.getfield 21, 3) := by sorry
theorem d_Walk_onlyNode_17 : decode b_Walk_onlyNode 17 = .ok (.iload 4, 2) := by sorry
theorem d_Walk_onlyNode_19 : decode b_Walk_onlyNode 19 = .ok (.isub, 1) := by sorry
theorem d_Walk_onlyNode_20 : decode b_Walk_onlyNode 20 = .ok (.iconst 1, 1) := by sorry
theorem d_Walk_onlyNode_21 : decode b_Walk_onlyNode 21 = .ok (.if_icmp .ne 13, 3) := by sorry
theorem d_Walk_onlyNode_24 : decode b_Walk_onlyNode 24 = .ok (.aload_n 0, 1) := by sorry
theorem d_Walk_onlyNode_25 : decode b_Walk_onlyNode 25 = .ok (.getfield 11, 3) := by sorry
theorem d_Walk_onlyNode_28 : decode b_Walk_onlyNode 28 = .ok (.iload 4, 2) := by sorry
theorem d_Walk_onlyNode_30 : decode b_Walk_onlyNode 30 = .ok (.aaload, 1) := by sorry
theorem d_Walk_onlyNode_31 : decode b_Walk_onlyNode 31 = .ok (.goto 4, 3) := by sorry
theorem d_Walk_onlyNode_34 : decode b_Walk_onlyNode 34 = .ok (.aconst_null, 1) := by sorry
theorem d_Walk_onlyNode_35 : decode b_Walk_onlyNode 35 = .ok (.astore 5, 2) := by sorry
theorem d_Walk_onlyNode_37 : decode b_Walk_onlyNode 37 = .ok (.aload_n 0, 1) := by sorry
theorem d_Walk_onlyNode_38 : decode b_Walk_onlyNode 38 = .ok (.iload_n 3, 1) := by sorry
theorem d_Walk_onlyNode_39 : decode b_Walk_onlyNode 39 = .ok (.putfield 21, 3) := by sorry
theorem d_Walk_onlyNode_42 : decode b_Walk_onlyNode 42 = .ok (.aload 5, 2) := by sorry
theorem d_Walk_onlyNode_44 : decode b_Walk_onlyNode 44 = .ok (.areturn, 1) := by sorry
abbrev b_Walk_compares : ByteArray := prog_12_method_17_code
def y_Walk_compares : MethodName := ⟨"QueryBench$Walk", "compares", "(LQueryBench$Condition;LQueryBench$Value;)Z"⟩
abbrev k_Walk_compares : Cond := .code y_Walk_compares b_Walk_compares 5 (some .boolean)
theorem i_Walk_compares : k_Walk_compares ∈ gtbl := by sorry
theorem d_Walk_compares_0 : decode b_Walk_compares 0 = .ok (.aload_n 0, 1) := by sorry
theorem d_Walk_compares_1 : decode b_Walk_compares 1 = .ok (.aload_n 1, 1) := by sorry
theorem d_Walk_compares_2 : decode b_Walk_compares 2 = .ok (.getfield 179, 3) := by sorry
theorem d_Walk_compares_5 : decode b_Walk_compares 5 = .ok (.aload_n 2, 1) := by sorry
theorem d_Walk_compares_6 : decode b_Walk_compares 6 = .ok (.invokevirtual 183, 3) := by sorry
theorem d_Walk_compares_9 : decode b_Walk_compares 9 = .ok (.astore_n 3, 1) := by sorry
theorem d_Walk_compares_10 : decode b_Walk_compares 10 = .ok (.aload_n 0, 1) := by sorry
theorem d_Walk_compares_11 : decode b_Walk_compares 11 = .ok (.aload_n 1, 1) := by sorry
theorem d_Walk_compares_12 : decode b_Walk_compares 12 = .ok (.getfield 187, 3) := by sorry
theorem d_Walk_compares_15 : decode b_Walk_compares 15 = .ok (.aload_n 2, 1) := by sorry
theorem d_Walk_compares_16 : decode b_Walk_compares 16 = .ok (.invokevirtual 183, 3) := by sorry
theorem d_Walk_compares_19 : decode b_Walk_compares 19 = .ok (.astore 4, 2) := by sorry
theorem d_Walk_compares_21 : decode b_Walk_compares 21 = .ok (.aload_n 1, 1) := by sorry
theorem d_Walk_compares_22 : decode b_Walk_compares 22 = .ok (.getfield 156, 3) := by sorry
theorem d_Walk_compares_25 : decode b_Walk_compares 25 = .ok (.tableswitch 95 4 8 #[35, 42, 57, 64, 88], 35) := by sorry
theorem d_Walk_compares_60 : decode b_Walk_compares 60 = .ok (.aload_n 3, 1) := by sorry
theorem d_Walk_compares_61 : decode b_Walk_compares 61 = .ok (.aload 4, 2) := by sorry
theorem d_Walk_compares_63 : decode b_Walk_compares 63 = .ok (.invokestatic 190, 3) := by sorry
theorem d_Walk_compares_66 : decode b_Walk_compares 66 = .ok (.ireturn, 1) := by sorry
theorem d_Walk_compares_67 : decode b_Walk_compares 67 = .ok (.aload_n 3, 1) := by sorry
theorem d_Walk_compares_68 : decode b_Walk_compares 68 = .ok (.aload 4, 2) := by sorry
theorem d_Walk_compares_70 : decode b_Walk_compares 70 = .ok (.invokestatic 190, 3) := by sorry
theorem d_Walk_compares_73 : decode b_Walk_compares 73 = .ok (.ifCond .ne 7, 3) := by sorry
theorem d_Walk_compares_76 : decode b_Walk_compares 76 = .ok (.iconst 1, 1) := by sorry
theorem d_Walk_compares_77 : decode b_Walk_compares 77 = .ok (.goto 4, 3) := by sorry
theorem d_Walk_compares_80 : decode b_Walk_compares 80 = .ok (.iconst 0, 1) := by sorry
theorem d_Walk_compares_81 : decode b_Walk_compares 81 = .ok (.ireturn, 1) := by sorry
theorem d_Walk_compares_82 : decode b_Walk_compares 82 = .ok (.aload_n 3, 1) := by sorry
theorem d_Walk_compares_83 : decode b_Walk_compares 83 = .ok (.aload 4, 2) := by sorry
theorem d_Walk_compares_85 : decode b_Walk_compares 85 = .ok (.invokestatic 194, 3) := by sorry
theorem d_Walk_compares_88 : decode b_Walk_compares 88 = .ok (.ireturn, 1) := by sorry
theorem d_Walk_compares_89 : decode b_Walk_compares 89 = .ok (.aload_n 3, 1) := by sorry
theorem d_Walk_compares_90 : decode b_Walk_compares 90 = .ok (.aload 4, 2) := by sorry
theorem d_Walk_compares_92 : decode b_Walk_compares 92 = .ok (.invokestatic 194, 3) := by sorry
theorem d_Walk_compares_95 : decode b_Walk_compares 95 = .ok (.ifCond .ne 12, 3) := by sorry
theorem d_Walk_compares_98 : decode b_Walk_compares 98 = .ok (.aload_n 3, 1) := by sorry
theorem d_Walk_compares_99 : decode b_Walk_compares 99 = .ok (.aload 4, 2) := by sorry
theorem d_Walk_compares_101 : decode b_Walk_compares 101 = .ok (.invokestatic 190, 3) := by sorry
theorem d_Walk_compares_104 : decode b_Walk_compares 104 = .ok (.ifCond .eq 7, 3) := by sorry
theorem d_Walk_compares_107 : decode b_Walk_compares 107 = .ok (.iconst 1, 1) := by sorry
theorem d_Walk_compares_108 : decode b_Walk_compares 108 = .ok (.goto 4, 3) := by sorry
theorem d_Walk_compares_111 : decode b_Walk_compares 111 = .ok (.iconst 0, 1) := by sorry
theorem d_Walk_compares_112 : decode b_Walk_compares 112 = .ok (.ireturn, 1) := by sorry
theorem d_Walk_compares_113 : decode b_Walk_compares 113 = .ok (.aload 4, 2) := by sorry
theorem d_Walk_compares_115 : decode b_Walk_compares 115 = .ok (.aload_n 3, 1) := by sorry
theorem d_Walk_compares_116 : decode b_Walk_compares 116 = .ok (.invokestatic 194, 3) := by sorry
theorem d_Walk_compares_119 : decode b_Walk_compares 119 = .ok (.ireturn, 1) := by sorry
theorem d_Walk_compares_120 : decode b_Walk_compares 120 = .ok (.aload 4, 2) := by sorry
theorem d_Walk_compares_122 : decode b_Walk_compares 122 = .ok (.aload_n 3, 1) := by sorry
theorem d_Walk_compares_123 : decode b_Walk_compares 123 = .ok (.invokestatic 194, 3) := by sorry
theorem d_Walk_compares_126 : decode b_Walk_compares 126 = .ok (.ifCond .ne 12, 3) := by sorry
theorem d_Walk_compares_129 : decode b_Walk_compares 129 = .ok (.aload_n 3, 1) := by sorry
theorem d_Walk_compares_130 : decode b_Walk_compares 130 = .ok (.aload 4, 2) := by sorry
theorem d_Walk_compares_132 : decode b_Walk_compares 132 = .ok (.invokestatic 190, 3) := by sorry
theorem d_Walk_compares_135 : decode b_Walk_compares 135 = .ok (.ifCond .eq 7, 3) := by sorry
theorem d_Walk_compares_138 : decode b_Walk_compares 138 = .ok (.iconst 1, 1) := by sorry
theorem d_Walk_compares_139 : decode b_Walk_compares 139 = .ok (.goto 4, 3) := by sorry
theorem d_Walk_compares_142 : decode b_Walk_compares 142 = .ok (.iconst 0, 1) := by sorry
theorem d_Walk_compares_143 : decode b_Walk_compares 143 = .ok (.ireturn, 1) := by sorry
end
section
theorem z_319 : (.fieldLink "QueryBench$Walk" 208 "QueryBench$Value" "number" "J" : Cond) ∈ gtbl := by sorry
theorem z_679 : (.fieldLink "QueryBench$Walk" 159 "QueryBench$Condition" "first" "LQueryBench$Condition;" : Cond) ∈ gtbl := by sorry
theorem z_683 : (.fieldLink "QueryBench$Walk" 167 "QueryBench$Condition" "query" "LQueryBench$Query;" : Cond) ∈ gtbl := by sorry
theorem z_727 : (.fieldLink "QueryBench$Walk" 197 "QueryBench$Operand" "kind" "I" : Cond) ∈ gtbl := by sorry
theorem z_729 : (.fieldLink "QueryBench$Walk" 205 "QueryBench$Operand" "value" "LQueryBench$Value;" : Cond) ∈ gtbl := by sorry
theorem z_731 : (.fieldLink "QueryBench$Walk" 200 "QueryBench$Operand" "query" "LQueryBench$Query;" : Cond) ∈ gtbl := by sorry
theorem z_732 : (.fieldLink "QueryBench$Walk" 211 "QueryBench$Operand" "inner" "LQueryBench$Operand;" : Cond) ∈ gtbl := by sorry
theorem z_899 : (.methodLink "QueryBench$Walk" 161 ⟨"QueryBench$Walk", "anyHolds", "(LQueryBench$Condition;LQueryBench$Value;)Z"⟩ : Cond) ∈ gtbl := by sorry
theorem z_901 : (.instanceMethod ⟨"QueryBench$Walk", "anyHolds", "(LQueryBench$Condition;LQueryBench$Value;)Z"⟩ : Cond) ∈ gtbl := by sorry
theorem z_903 : (.methodLink "QueryBench$Walk" 164 ⟨"QueryBench$Walk", "allHold", "(LQueryBench$Condition;LQueryBench$Value;)Z"⟩ : Cond) ∈ gtbl := by sorry
theorem z_905 : (.instanceMethod ⟨"QueryBench$Walk", "allHold", "(LQueryBench$Condition;LQueryBench$Value;)Z"⟩ : Cond) ∈ gtbl := by sorry
theorem z_907 : (.methodLink "QueryBench$Walk" 171 ⟨"QueryBench$Walk", "nodeCount", "(LQueryBench$Query;LQueryBench$Value;)I"⟩ : Cond) ∈ gtbl := by sorry
theorem z_909 : (.instanceMethod ⟨"QueryBench$Walk", "nodeCount", "(LQueryBench$Query;LQueryBench$Value;)I"⟩ : Cond) ∈ gtbl := by sorry
theorem z_911 : (.methodLink "QueryBench$Walk" 174 ⟨"QueryBench$Walk", "compares", "(LQueryBench$Condition;LQueryBench$Value;)Z"⟩ : Cond) ∈ gtbl := by sorry
theorem z_913 : (.instanceMethod ⟨"QueryBench$Walk", "compares", "(LQueryBench$Condition;LQueryBench$Value;)Z"⟩ : Cond) ∈ gtbl := by sorry
theorem z_919 : (.methodLink "QueryBench$Walk" 201 ⟨"QueryBench$Walk", "onlyNode", "(LQueryBench$Query;LQueryBench$Value;)LQueryBench$Value;"⟩ : Cond) ∈ gtbl := by sorry
theorem z_921 : (.instanceMethod ⟨"QueryBench$Walk", "onlyNode", "(LQueryBench$Query;LQueryBench$Value;)LQueryBench$Value;"⟩ : Cond) ∈ gtbl := by sorry
theorem z_923 : (.methodLink "QueryBench$Walk" 214 ⟨"QueryBench$Value", "measure", "()I"⟩ : Cond) ∈ gtbl := by sorry
theorem z_924 : (.instanceMethod ⟨"QueryBench$Value", "measure", "()I"⟩ : Cond) ∈ gtbl := by sorry
theorem z_925 : (.selects "QueryBench$Value" ⟨"QueryBench$Value", "measure", "()I"⟩ ⟨"QueryBench$Value", "measure", "()I"⟩ : Cond) ∈ gtbl := by sorry
end
section
theorem z_28 : (.initialized "java/lang/IllegalStateException" : Cond) ∈ gtbl := by sorry
theorem z_156 : (.fieldLink "QueryBench" 86 "QueryBench" "query" "LQueryBench$Query;" : Cond) ∈ gtbl := by sorry
theorem z_816 : (.classLink "QueryBench" 124 "java/lang/IllegalStateException" : Cond) ∈ gtbl := by sorry
abbrev IAX : String := "java/lang/IllegalArgumentException"
abbrev ISX : String := "java/lang/IllegalStateException"
abbrev UOX : String := "java/lang/UnsupportedOperationException"
abbrev b_Walk_begin : ByteArray := prog_12_method_2_code
def y_Walk_begin : MethodName := ⟨"QueryBench$Walk", "begin", "(LQueryBench$Query;LQueryBench$Value;)I"⟩
abbrev k_Walk_begin : Cond := .code y_Walk_begin b_Walk_begin 3 (some .int)
theorem i_Walk_begin : k_Walk_begin ∈ gtbl := by sorry
theorem d_Walk_begin_0 : decode b_Walk_begin 0 = .ok (.aload_n 0, 1) := by sorry
theorem d_Walk_begin_1 : decode b_Walk_begin 1 = .ok (.aload_n 2, 1) := by sorry
theorem d_Walk_begin_2 : decode b_Walk_begin 2 = .ok (.putfield 17, 3) := by sorry
theorem d_Walk_begin_5 : decode b_Walk_begin 5 = .ok (.aload_n 0, 1) := by sorry
theorem d_Walk_begin_6 : decode b_Walk_begin 6 = .ok (.iconst 0, 1) := by sorry
theorem d_Walk_begin_7 : decode b_Walk_begin 7 = .ok (.putfield 21, 3) := by sorry
theorem d_Walk_begin_10 : decode b_Walk_begin 10 = .ok (.aload_n 0, 1) := by sorry
theorem d_Walk_begin_11 : decode b_Walk_begin 11 = .ok (.iconst 0, 1) := by sorry
theorem d_Walk_begin_12 : decode b_Walk_begin 12 = .ok (.putfield 25, 3) := by sorry
theorem d_Walk_begin_15 : decode b_Walk_begin 15 = .ok (.aload_n 0, 1) := by sorry
theorem d_Walk_begin_16 : decode b_Walk_begin 16 = .ok (.aload_n 1, 1) := by sorry
theorem d_Walk_begin_17 : decode b_Walk_begin 17 = .ok (.aload_n 2, 1) := by sorry
theorem d_Walk_begin_18 : decode b_Walk_begin 18 = .ok (.invokevirtual 28, 3) := by sorry
theorem d_Walk_begin_21 : decode b_Walk_begin 21 = .ok (.ireturn, 1) := by sorry
abbrev b_QB_checkReady : ByteArray := prog_1_method_11_code
def y_QB_checkReady : MethodName := ⟨"QueryBench", "checkReady", "(I)V"⟩
abbrev k_QB_checkReady : Cond := .code y_QB_checkReady b_QB_checkReady 2 none
theorem i_QB_checkReady : k_QB_checkReady ∈ gtbl := by sorry
theorem d_QB_checkReady_0 : decode b_QB_checkReady 0 = .ok (.aload_n 0, 1) := by sorry
theorem d_QB_checkReady_1 : decode b_QB_checkReady 1 = .ok (.getfield 41, 3) := by sorry
theorem d_QB_checkReady_4 : decode b_QB_checkReady 4 = .ok (.iload_n 1, 1) := by sorry
theorem d_QB_checkReady_5 : decode b_QB_checkReady 5 = .ok (.aaload, 1) := by sorry
theorem d_QB_checkReady_6 : decode b_QB_checkReady 6 = .ok (.ifnull 10, 3) := by sorry
theorem d_QB_checkReady_9 : decode b_QB_checkReady 9 = .ok (.aload_n 0, 1) := by sorry
theorem d_QB_checkReady_10 : decode b_QB_checkReady 10 = .ok (.getfield 86, 3) := by sorry
theorem d_QB_checkReady_13 : decode b_QB_checkReady 13 = .ok (.ifnonnull 11, 3) := by sorry
theorem d_QB_checkReady_16 : decode b_QB_checkReady 16 = .ok (.new 124, 3) := by sorry
theorem d_QB_checkReady_19 : decode b_QB_checkReady 19 = .ok (.dup, 1) := by sorry
theorem d_QB_checkReady_20 : decode b_QB_checkReady 20 = .ok (.invokespecial 126, 3) := by sorry
theorem d_QB_checkReady_23 : decode b_QB_checkReady 23 = .ok (.athrow, 1) := by sorry
theorem d_QB_checkReady_24 : decode b_QB_checkReady 24 = .ok (.return_, 1) := by sorry
theorem xa_QB_checkReady_16 : ∀ w ∈ vx_at0 R_QB 126 "java/lang/IllegalStateException" ["java/lang/RuntimeException", "java/lang/Exception"], (goodWord w = true ∧ w ∈ lw_tbl) ∨ w ∈ nwl := by sorry
theorem xa_QB_checkReady_16_g : ∀ w ∈ Cond.classLink R_QB 124 "java/lang/IllegalStateException" :: Cond.initialized "java/lang/IllegalStateException" :: vx_at0 R_QB 126 "java/lang/IllegalStateException" ["java/lang/RuntimeException", "java/lang/Exception"], vx_ot w = true := by sorry
end
section
theorem z_116 : (.fieldLink "QueryBench" 107 "QueryBench$Walk" "list" "[LQueryBench$Value;" : Cond) ∈ gtbl := by sorry
theorem z_118 : (.fieldLink "QueryBench" 104 "QueryBench$Walk" "top" "I" : Cond) ∈ gtbl := by sorry
theorem z_120 : (.fieldLink "QueryBench" 114 "QueryBench$Walk" "spent" "I" : Cond) ∈ gtbl := by sorry
theorem z_283 : (.methodLink "QueryBench" 69 ⟨"QueryBench", "checkNumber", "(I)V"⟩ : Cond) ∈ gtbl := by sorry
theorem z_284 : (.static ⟨"QueryBench", "checkNumber", "(I)V"⟩ : Cond) ∈ gtbl := by sorry
theorem z_812 : (.methodLink "QueryBench" 96 ⟨"QueryBench", "checkReady", "(I)V"⟩ : Cond) ∈ gtbl := by sorry
theorem z_814 : (.instanceMethod ⟨"QueryBench", "checkReady", "(I)V"⟩ : Cond) ∈ gtbl := by sorry
theorem z_831 : (.methodLink "QueryBench" 99 ⟨"QueryBench$Walk", "begin", "(LQueryBench$Query;LQueryBench$Value;)I"⟩ : Cond) ∈ gtbl := by sorry
theorem z_832 : (.instanceMethod ⟨"QueryBench$Walk", "begin", "(LQueryBench$Query;LQueryBench$Value;)I"⟩ : Cond) ∈ gtbl := by sorry
theorem z_833 : (.selects "QueryBench$Walk" ⟨"QueryBench$Walk", "begin", "(LQueryBench$Query;LQueryBench$Value;)I"⟩ ⟨"QueryBench$Walk", "begin", "(LQueryBench$Query;LQueryBench$Value;)I"⟩ : Cond) ∈ gtbl := by sorry
theorem z_949 : (.methodLink "QueryBench" 110 ⟨"QueryBench$Printer", "line", "(LQueryBench$Value;)V"⟩ : Cond) ∈ gtbl := by sorry
theorem z_950 : (.instanceMethod ⟨"QueryBench$Printer", "line", "(LQueryBench$Value;)V"⟩ : Cond) ∈ gtbl := by sorry
theorem z_951 : (.selects "QueryBench$Printer" ⟨"QueryBench$Printer", "line", "(LQueryBench$Value;)V"⟩ ⟨"QueryBench$Printer", "line", "(LQueryBench$Value;)V"⟩ : Cond) ∈ gtbl := by sorry
abbrev b_QB_work : ByteArray := prog_1_method_7_code
def y_QB_work : MethodName := ⟨"QueryBench", "work", "(I)I"⟩
abbrev k_QB_work : Cond := .code y_QB_work b_QB_work 2 (some .int)
theorem i_QB_work : k_QB_work ∈ gtbl := by sorry
theorem d_QB_work_0 : decode b_QB_work 0 = .ok (.iload_n 1, 1) := by sorry
theorem d_QB_work_1 : decode b_QB_work 1 = .ok (.invokestatic 69, 3) := by sorry
theorem d_QB_work_4 : decode b_QB_work 4 = .ok (.aload_n 0, 1) := by sorry
theorem d_QB_work_5 : decode b_QB_work 5 = .ok (.iload_n 1, 1) := by sorry
theorem d_QB_work_6 : decode b_QB_work 6 = .ok (.invokevirtual 96, 3) := by sorry
theorem d_QB_work_9 : decode b_QB_work 9 = .ok (.aload_n 0, 1) := by sorry
theorem d_QB_work_10 : decode b_QB_work 10 = .ok (.getfield 35, 3) := by sorry
theorem d_QB_work_13 : decode b_QB_work 13 = .ok (.aload_n 0, 1) := by sorry
theorem d_QB_work_14 : decode b_QB_work 14 = .ok (.getfield 86, 3) := by sorry
theorem d_QB_work_17 : decode b_QB_work 17 = .ok (.aload_n 0, 1) := by sorry
theorem d_QB_work_18 : decode b_QB_work 18 = .ok (.getfield 41, 3) := by sorry
theorem d_QB_work_21 : decode b_QB_work 21 = .ok (.iload_n 1, 1) := by sorry
theorem d_QB_work_22 : decode b_QB_work 22 = .ok (.aaload, 1) := by sorry
theorem d_QB_work_23 : decode b_QB_work 23 = .ok (.invokevirtual 99, 3) := by sorry
theorem d_QB_work_26 : decode b_QB_work 26 = .ok (.pop, 1) := by sorry
theorem d_QB_work_27 : decode b_QB_work 27 = .ok (.aload_n 0, 1) := by sorry
theorem d_QB_work_28 : decode b_QB_work 28 = .ok (.getfield 35, 3) := by sorry
theorem d_QB_work_31 : decode b_QB_work 31 = .ok (.getfield 114, 3) := by sorry
theorem d_QB_work_34 : decode b_QB_work 34 = .ok (.ireturn, 1) := by sorry
abbrev b_QB_run : ByteArray := prog_1_method_6_code
def y_QB_run : MethodName := ⟨"QueryBench", "run", "(I)I"⟩
abbrev k_QB_run : Cond := .code y_QB_run b_QB_run 4 (some .int)
theorem i_QB_run : k_QB_run ∈ gtbl := by sorry
theorem d_QB_run_0 : decode b_QB_run 0 = .ok (.iload_n 1, 1) := by sorry
theorem d_QB_run_1 : decode b_QB_run 1 = .ok (.invokestatic 69, 3) := by sorry
theorem d_QB_run_4 : decode b_QB_run 4 = .ok (.aload_n 0, 1) := by sorry
theorem d_QB_run_5 : decode b_QB_run 5 = .ok (.iload_n 1, 1) := by sorry
theorem d_QB_run_6 : decode b_QB_run 6 = .ok (.invokevirtual 96, 3) := by sorry
theorem d_QB_run_9 : decode b_QB_run 9 = .ok (.aload_n 0, 1) := by sorry
theorem d_QB_run_10 : decode b_QB_run 10 = .ok (.getfield 35, 3) := by sorry
theorem d_QB_run_13 : decode b_QB_run 13 = .ok (.aload_n 0, 1) := by sorry
theorem d_QB_run_14 : decode b_QB_run 14 = .ok (.getfield 86, 3) := by sorry
theorem d_QB_run_17 : decode b_QB_run 17 = .ok (.aload_n 0, 1) := by sorry
theorem d_QB_run_18 : decode b_QB_run 18 = .ok (.getfield 41, 3) := by sorry
theorem d_QB_run_21 : decode b_QB_run 21 = .ok (.iload_n 1, 1) := by sorry
theorem d_QB_run_22 : decode b_QB_run 22 = .ok (.aaload, 1) := by sorry
theorem d_QB_run_23 : decode b_QB_run 23 = .ok (.invokevirtual 99, 3) := by sorry
theorem d_QB_run_26 : decode b_QB_run 26 = .ok (.istore_n 2, 1) := by sorry
theorem d_QB_run_27 : decode b_QB_run 27 = .ok (.aload_n 0, 1) := by sorry
theorem d_QB_run_28 : decode b_QB_run 28 = .ok (.getfield 52, 3) := by sorry
theorem d_QB_run_31 : decode b_QB_run 31 = .ok (.iconst 0, 1) := by sorry
theorem d_QB_run_32 : decode b_QB_run 32 = .ok (.putfield 103, 3) := by sorry
theorem d_QB_run_35 : decode b_QB_run 35 = .ok (.iload_n 2, 1) := by sorry
theorem d_QB_run_36 : decode b_QB_run 36 = .ok (.istore_n 3, 1) := by sorry
theorem d_QB_run_37 : decode b_QB_run 37 = .ok (.iload_n 3, 1) := by sorry
theorem d_QB_run_38 : decode b_QB_run 38 = .ok (.aload_n 0, 1) := by sorry
theorem d_QB_run_39 : decode b_QB_run 39 = .ok (.getfield 35, 3) := by sorry
theorem d_QB_run_42 : decode b_QB_run 42 = .ok (.getfield 104, 3) := by sorry
theorem d_QB_run_45 : decode b_QB_run 45 = .ok (.if_icmp .ge 25, 3) := by sorry
theorem d_QB_run_48 : decode b_QB_run 48 = .ok (.aload_n 0, 1) := by sorry
theorem d_QB_run_49 : decode b_QB_run 49 = .ok (.getfield 52, 3) := by sorry
theorem d_QB_run_52 : decode b_QB_run 52 = .ok (.aload_n 0, 1) := by sorry
theorem d_QB_run_53 : decode b_QB_run 53 = .ok (.getfield 35, 3) := by sorry
theorem d_QB_run_56 : decode b_QB_run 56 = .ok (.getfield 107, 3) := by sorry
theorem d_QB_run_59 : decode b_QB_run 59 = .ok (.iload_n 3, 1) := by sorry
theorem d_QB_run_60 : decode b_QB_run 60 = .ok (.aaload, 1) := by sorry
theorem d_QB_run_61 : decode b_QB_run 61 = .ok (.invokevirtual 110, 3) := by sorry
theorem d_QB_run_64 : decode b_QB_run 64 = .ok (.iinc 3 1, 3) := by sorry
theorem d_QB_run_67 : decode b_QB_run 67 = .ok (.goto (-30), 3) := by sorry
theorem d_QB_run_70 : decode b_QB_run 70 = .ok (.aload_n 0, 1) := by sorry
theorem d_QB_run_71 : decode b_QB_run 71 = .ok (.getfield 48, 3) := by sorry
theorem d_QB_run_74 : decode b_QB_run 74 = .ok (.astore_n 3, 1) := by sorry
theorem d_QB_run_75 : decode b_QB_run 75 = .ok (.aload_n 0, 1) := by sorry
theorem d_QB_run_76 : decode b_QB_run 76 = .ok (.aload_n 0, 1) := by sorry
theorem d_QB_run_77 : decode b_QB_run 77 = .ok (.getfield 52, 3) := by sorry
theorem d_QB_run_80 : decode b_QB_run 80 = .ok (.putfield 48, 3) := by sorry
theorem d_QB_run_83 : decode b_QB_run 83 = .ok (.aload_n 0, 1) := by sorry
theorem d_QB_run_84 : decode b_QB_run 84 = .ok (.aload_n 3, 1) := by sorry
theorem d_QB_run_85 : decode b_QB_run 85 = .ok (.putfield 52, 3) := by sorry
theorem d_QB_run_88 : decode b_QB_run 88 = .ok (.aload_n 0, 1) := by sorry
theorem d_QB_run_89 : decode b_QB_run 89 = .ok (.getfield 35, 3) := by sorry
theorem d_QB_run_92 : decode b_QB_run 92 = .ok (.getfield 104, 3) := by sorry
theorem d_QB_run_95 : decode b_QB_run 95 = .ok (.iload_n 2, 1) := by sorry
theorem d_QB_run_96 : decode b_QB_run 96 = .ok (.isub, 1) := by sorry
theorem d_QB_run_97 : decode b_QB_run 97 = .ok (.ireturn, 1) := by sorry
end
section
/-- sorts may grow: what was not there comes, a value under way becomes a value, a value one with a name -/
def EL (E E' : Nat → Nat) : Prop := ∀ b, E b = 0 ∨ E' b = E b ∨ (E b = 1 ∧ isF E' b) ∨ (E b = 2 ∧ E' b = 3)
def EX (E E' : Nat → Nat) : Prop := ∀ b, E b ≠ 0 → E' b = E b
theorem EX.el {E E' : Nat → Nat} (h : EX E E') : EL E E' := by sorry
theorem EX.rf {E : Nat → Nat} : EX E E := by sorry
theorem EX.tr {E E' E2 : Nat → Nat} (h : EX E E') (g : EX E' E2) : EX E E2 := by sorry
theorem EX.new {E : Nat → Nat} {q s : Nat} (hq : E q = 0) : EX E (va_up E q s) := by sorry
section Grow
variable {E E' lv lv' : Nat → Nat} {b kk : Nat}
theorem EL.k (h : EL E E') (hk : E b = kk) (h3 : 3 ≤ kk) : E' b = kk := by sorry
theorem EL.v (h : EL E E') (hv : isV E b) : isV E' b := by sorry
theorem EL.f (h : EL E E') (hv : isF E b) : isF E' b := by sorry
theorem EL.a (h : EL E E') (hv : isA E b) : isA E' b := by sorry
end Grow
theorem oR.mono {P Q : Nat → Prop} {o : Option Nat} (h : oR P o) (g : ∀ b, P b → Q b) : oR Q o := by sorry
theorem VO.mono {E E' : Nat → Nat} {a : Nat} {kd : Int32} {tx me pa na nm no : Option Nat} (hE : EL E E') (ha : E' a = E a) (h : VO E a kd tx me pa na nm no) : VO E' a kd tx me pa na nm no := by sorry
/-- what a sort says of a cell -/
def CO (cI cV : ClassId) (E lv : Nat → Nat) (a : Nat) (e : va_E) : Prop :=
  (isV E a → ∃ kd nu tx me pa na ix nm no sp, e = vE kd nu tx me pa na ix nm no sp ∧ VO E a kd tx me pa na nm no) ∧
  (E a = 4 → ∃ n g, e = tE cI n g ∧ n ≤ 4096) ∧
  (isA E a → ∃ n g, e = aE cV n g ∧ n ≤ 4096 ∧ ∀ j, j < n → ∃ b, g j = some b ∧ isF E b ∧ (E a = 6 → E b = 3)) ∧
  (E a = 7 → ∃ fr sg fi la, e = qE fr sg fi la ∧ oR (fun b => E b = 8 ∧ lv b ≤ lv a) fi ∧ oR (fun b => E b = 8) la) ∧
  (E a = 8 → ∃ ds fi nx, e = gE ds fi nx ∧ GO E lv a fi nx) ∧
  (E a = 9 → ∃ kd nm hs ht st sp se fl nx, e = lE kd nm hs ht st sp se fl nx ∧ LO E lv a kd nm se fl nx) ∧
  (E a = 10 → ∃ kd fi nx qu le ri, e = kE kd fi nx qu le ri ∧ KO E lv a kd fi nx qu le ri) ∧
  (E a = 11 → ∃ kd va qu inn, e = oE kd va qu inn ∧ OO E lv a kd va qu inn)
theorem PO.co {cI cV : ClassId} {E lv : Nat → Nat} {L : List Nat} {f : Nat → va_E} (h : PO cI cV E lv L f) (a : Nat) : CO cI cV E lv a (f a) := by sorry
theorem PO.of {cI cV : ClassId} {E lv : Nat → Nat} {L : List Nat} {f : Nat → va_E} (h1 : ∀ a, E a ≠ 0 → a ∈ L) (h : ∀ a, CO cI cV E lv a (f a)) : PO cI cV E lv L f := by sorry
theorem CO.mono {cI cV : ClassId} {E E' lv lv' : Nat → Nat} {a : Nat} {e : va_E} (hE : EL E E') (ha : E' a = E a) (hl : ∀ b, 7 ≤ E b → lv' b = lv b) (h : CO cI cV E lv a e) : CO cI cV E' lv' a e := by sorry
/-- the pool goes on: what has stayed as it was, and the rest anew -/
theorem PO.go {cI cV : ClassId} {E E' lv lv' : Nat → Nat} {L L' : List Nat} {f f' : Nat → va_E} (h : PO cI cV E lv L f) (hE : EL E E') (hl : ∀ b, 7 ≤ E b → lv' b = lv b) (hL : ∀ a, E' a ≠ 0 → a ∈ L') (hc : ∀ a, E' a ≠ 0 → (E' a = E a ∧ f' a = f a) ∨ CO cI cV E' lv' a (f' a)) : PO cI cV E' lv' L' f' := by sorry
section Cells
variable {cI cV : ClassId} {E lv : Nat → Nat} {a : Nat} {e : va_E}
theorem CO.V (ha : isV E a) (h : ∃ kd nu tx me pa na ix nm no sp, e = vE kd nu tx me pa na ix nm no sp ∧ VO E a kd tx me pa na nm no) : CO cI cV E lv a e := by sorry
theorem CO.T (ha : E a = 4) (h : ∃ n g, e = tE cI n g ∧ n ≤ 4096) : CO cI cV E lv a e := by sorry
theorem CO.A (ha : isA E a) (h : ∃ n g, e = aE cV n g ∧ n ≤ 4096 ∧ ∀ j, j < n → ∃ b, g j = some b ∧ isF E b ∧ (E a = 6 → E b = 3)) : CO cI cV E lv a e := by sorry
end Cells
/-- a value but for its nextOfAll; its nextMember -/
def nx8 (e : va_E) : va_E := match e with
  | .inr (c, [a0, a1, a2, a3, a4, a5, a6, a7, _, a9]) => .inr (c, [a0, a1, a2, a3, a4, a5, a6, a7, .null, a9])
  | e => e
def nmF (f : Nat → va_E) (a : Nat) : Option Nat := match f a with
  | .inr (_, [_, _, _, _, _, _, _, .ref b, _, _]) => some b
  | _ => none
theorem rf_inj {x y : Option Nat} (h : va_rf x = va_rf y) : x = y := by sorry
theorem nmF_v {f : Nat → va_E} {a : Nat} {kd : Int32} {nu : Int64} {tx me pa na : Option Nat} {ix : Int32} {nm no : Option Nat} {sp : Int32} (h : f a = vE kd nu tx me pa na ix nm no sp) : nmF f a = nm := by sorry
theorem nx8_v {e : va_E} {kd : Int32} {nu : Int64} {tx me pa na : Option Nat} {ix : Int32} {nm no : Option Nat} {sp : Int32} (he : ∃ kd nu tx me pa na ix nm no sp, e = vE kd nu tx me pa na ix nm no sp) (h : nx8 e = nx8 (vE kd nu tx me pa na ix nm no sp)) : ∃ no', e = vE kd nu tx me pa na ix nm no' sp := by sorry
theorem nmF_8 {f f' : Nat → va_E} {a : Nat} (he : ∃ kd nu tx me pa na ix nm no sp, f a = vE kd nu tx me pa na ix nm no sp) (he' : ∃ kd nu tx me pa na ix nm no sp, f' a = vE kd nu tx me pa na ix nm no sp) (h : nx8 (f' a) = nx8 (f a)) : nmF f' a = nmF f a := by sorry
section Pools
variable {D : va_G} {cl : List vw_C} {A : Nat → Prop} {X : va_W} {L N : List Nat} {f : Nat → va_E} {H : Heap} {q : Nat} {e : va_E}
theorem plP_push (hP : va_P D cl ((X ++ [(q, e)]) ++ va_pl L f) H) (hq : q ∉ L) : va_P D cl (X ++ va_pl (L ++ [q]) (va_up f q e)) H := by sorry
theorem plD_push (hD : va_D A ((X ++ [(q, e)]) ++ va_pl L f)) (hq : q ∉ L) : va_D A (X ++ va_pl (L ++ [q]) (va_up f q e)) := by sorry
theorem plD_new (hD : va_D A ((X ++ [(q, e)]) ++ va_pl L f)) : q ∉ L := by sorry
theorem plP_pre (hP : va_P D cl (X ++ va_pl (L ++ N) f) H) : va_P D cl (X ++ va_pl L f) H := by sorry
theorem plD_pre (hD : va_D A (X ++ va_pl (L ++ N) f)) : va_D A (X ++ va_pl L f) := by sorry
end Pools
end
section
theorem here_lc {f : Nat → Int32} {n i : Nat} {c : Int32} (h : hereV f n i = c) (hc : c ≠ -1) : i < n := by sorry
theorem here_ge {f : Nat → Int32} {n i : Nat} (h : 0 ≤ hereV f n i) : i < n := by sorry
theorem chF_b {f : Nat → Int32} {n i j : Nat} {q : Int32} {L : List Int32} (h : chF f n i q = some (j, L)) : i + L.length ≤ j := by sorry
theorem qtF_b {f : Nat → Int32} {n : Nat} {q : Int32} : ∀ (t j : Nat) (L : List Int32) (j' : Nat) (L' : List Int32), qtF f n q t j L = some (j', L') → j + L'.length ≤ j' + L.length ∧ hereV f n j' = q ∧ j ≤ j' := by sorry
theorem qtR_b {f : Nat → Int32} {n i j : Nat} {L : List Int32} (hi : i < n) (h : qtR f n i = some (j, L)) : i + 1 + L.length ≤ j ∧ j < n := by sorry
theorem mtch_b {f : Nat → Int32} {n i len : Nat} {b : Nat → Int32} (h : mtch f n i b len) (hl : 0 < len) (hb : ∀ j, 0 ≤ b j &&& 255) : i + len ≤ n := by sorry
theorem and255 (x : Int32) : 0 ≤ x &&& 255 := by sorry
theorem digS_b {f : Nat → Int32} {n : Nat} : ∀ (k j : Nat) (a r : Int64) (u : Nat), (r, u) = digS f n k j a → j + k ≤ n → 0 ≤ a.toInt → a.toInt ≤ 9007199254740992 → j ≤ u ∧ u ≤ n ∧ 0 ≤ r.toInt := by sorry
theorem digR_b {f : Nat → Int32} {n i u : Nat} {r : Int64} (h : (r, u) = digR f n i) (hi : i ≤ n) : i ≤ u ∧ u ≤ n ∧ 0 ≤ r.toInt := by sorry
theorem skip_b {f : Nat → Int32} {n i : Nat} (h : i ≤ n) : i ≤ skipB f n i ∧ skipB f n i ≤ n := by sorry
abbrev byR (bf : Nat → Int32) : Prop := ∀ j, vp_nar .byte (bf j) = bf j
theorem dig_here {bf : Nat → Int32} {n p : Nat} {x : Int32} (hbf : byR bf) (e : x = hereV bf n p) (h : 48 ≤ x ∧ x ≤ 57) : p < n ∧ 48 ≤ bf p ∧ bf p ≤ 57 := by sorry
theorem digR_p {f : Nat → Int32} {n i u : Nat} {r : Int64} (h : (r, u) = digR f n i) (hd : i < n ∧ 48 ≤ f i ∧ f i ≤ 57) : i < u := by sorry
end
section
/-- the digits of a number, as the class reads them -/
def dgJ (f : Nat → Int32) (n i : Nat) : Int64 × Nat := if hereV f n i = 48 then (0, i + 1) else digR f n i
def jNb (f : Nat → Int32) (n i : Nat) (mi : Bool) : Option (Int64 × Nat) :=
  if ¬ digH (hereV f n i) then none
  else if ¬ (dgJ f n i).1 ≤ 9007199254740991 ∨ hereV f n (dgJ f n i).2 = 46 ∨ hereV f n (dgJ f n i).2 = 101 ∨ hereV f n (dgJ f n i).2 = 69 then none
  else some (if mi = true then -(dgJ f n i).1 else (dgJ f n i).1, (dgJ f n i).2)
/-- a number of a document, as the class reads it -/
def jN (f : Nat → Int32) (n i : Nat) : Option (Int64 × Nat) := if hereV f n i = 45 then jNb f n (i + 1) true else jNb f n i false
section JNum
variable {f : Nat → Int32} {n i u : Nat} {mi : Bool} {r : Int64}
theorem jN_m (h : hereV f n i = 45) : jN f n i = jNb f n (i + 1) true := by sorry
theorem jN_p (h : ¬ hereV f n i = 45) : jN f n i = jNb f n i false := by sorry
theorem dgJ_0 (h : hereV f n i = 48) : (0, i + 1) = dgJ f n i := by sorry
theorem dgJ_d (h : ¬ hereV f n i = 48) (hd : (r, u) = digR f n i) : (r, u) = dgJ f n i := by sorry
theorem jNb_no (h : ¬ digH (hereV f n i)) : jNb f n i mi = none := by sorry
theorem jNb_big (hg : (r, u) = dgJ f n i) (h : ¬ r ≤ 9007199254740991) : jNb f n i mi = none := by sorry
theorem jNb_beh (hg : (r, u) = dgJ f n i) (h : hereV f n u = 46 ∨ hereV f n u = 101 ∨ hereV f n u = 69) : jNb f n i mi = none := by sorry
theorem jNb_ok (hd : digH (hereV f n i)) (hg : (r, u) = dgJ f n i) (hm : r ≤ 9007199254740991) (h1 : ¬ hereV f n u = 46) (h2 : ¬ hereV f n u = 101) (h3 : ¬ hereV f n u = 69) : jNb f n i mi = some (if mi = true then -r else r, u) := by sorry
end JNum
/-- a value that is no container, as the class reads it -/
def jLeaf (f : Nat → Int32) (n i : Nat) : Option (LF × Nat) :=
  if hereV f n i = 110 then (if mtB f n i (ctx 5) 4 = true then some ((0, 0, []), i + 4) else none)
  else if hereV f n i = 116 then (if mtB f n i (ctx 7) 4 = true then some ((1, 0, []), i + 4) else none)
  else if hereV f n i = 102 then (if mtB f n i (ctx 6) 5 = true then some ((2, 0, []), i + 5) else none)
  else if hereV f n i = 34 then (match qtR f n i with | some p => some ((4, 0, p.2), p.1 + 1) | none => none)
  else (match jN f n i with | some p => some ((3, p.1, []), p.2) | none => none)
def jclo (ob : Bool) : Int32 := if ob = true then 125 else 93
/-- a member's name, and what stands behind its colon -/
def jNam (f : Nat → Int32) (n : Nat) (nms : List (List Int32)) (i : Nat) : Option (List Int32 × Nat) :=
  if ¬ hereV f n (skipB f n i) = 34 then none
  else match qtR f n (skipB f n i) with
    | none => none
    | some p => if p.2 ∈ nms then none else if ¬ hereV f n (skipB f n (p.1 + 1)) = 58 then none else some (p.2, skipB f n (p.1 + 1) + 1)
/-- the members from i on: where no comma stands behind one it ends -/
def jMem {β : Type} (f : Nat → Int32) (n : Nat) (pv : Nat → Option (β × Nat)) (ob : Bool) : Nat → Nat → List (List Int32 × β) → Option (List (List Int32 × β) × Nat)
  | 0, _, _ => none
  | m + 1, i, acc => match (if ob = true then jNam f n (acc.map (·.1)) i else some ([], i)) with
    | none => none
    | some nj => match pv nj.2 with
      | none => none
      | some xj => if hereV f n xj.2 = 44 then jMem f n pv ob m (xj.2 + 1) (acc ++ [(nj.1, xj.1)]) else some (acc ++ [(nj.1, xj.1)], xj.2)
/-- what stands in brackets, of which the first is at i -/
def jIns {β : Type} (f : Nat → Int32) (n : Nat) (pv : Nat → Option (β × Nat)) (ob : Bool) (i : Nat) : Option (List (List Int32 × β) × Nat) :=
  if hereV f n (skipB f n (i + 1)) = jclo ob then some ([], skipB f n (i + 1) + 1)
  else match jMem f n pv ob 4097 (skipB f n (i + 1)) [] with
    | none => none
    | some z => if hereV f n z.2 = jclo ob then some (z.1, z.2 + 1) else none
/-- a value, at most r deep, as the class reads it -/
def jV (f : Nat → Int32) (n : Nat) : (r : Nat) → Nat → Option (JVt r × Nat)
  | 0, i => if hereV f n (skipB f n i) = 91 ∨ hereV f n (skipB f n i) = 123 then none else (jLeaf f n (skipB f n i)).map (fun p => (jleaf 0 p.1, skipB f n p.2))
  | r + 1, i => if hereV f n (skipB f n i) = 91 ∨ hereV f n (skipB f n i) = 123 then (jIns f n (jV f n r) (decide (hereV f n (skipB f n i) = 123)) (skipB f n i)).map (fun p => (((if hereV f n (skipB f n i) = 91 then 5 else 6, 0, []), p.1), skipB f n p.2))
    else (jLeaf f n (skipB f n i)).map (fun p => (jleaf (r + 1) p.1, skipB f n p.2))
theorem dpJ_leaf (r : Nat) {x : LF} (h : x.1 < 5) : dpJ r (jleaf r x) = 0 := by sorry
/-- what a value that has been read says -/
def JF (f : Nat → Int32) (n k d i p D : Nat) (dp : Int32) : Prop := ∃ x, jV f n k i = some (x, p) ∧ dp = nI (max D (d + dpJ k x))
section JVal
variable {f : Nat → Int32} {n i p k : Nat}
theorem jV_leaf (h : ¬ (hereV f n (skipB f n i) = 91 ∨ hereV f n (skipB f n i) = 123)) : jV f n k i = (jLeaf f n (skipB f n i)).map (fun p => (jleaf k p.1, skipB f n p.2)) := by sorry
theorem jV_lf0 (h : ¬ (hereV f n (skipB f n i) = 91 ∨ hereV f n (skipB f n i) = 123)) (hl : jLeaf f n (skipB f n i) = none) : jV f n k i = none := by sorry
theorem JF.leaf {d D : Nat} {x : LF} {p1 : Nat} {dp : Int32} (h : ¬ (hereV f n (skipB f n i) = 91 ∨ hereV f n (skipB f n i) = 123)) (hl : jLeaf f n (skipB f n i) = some (x, p1)) (hx : x.1 < 5) (hp : p = skipB f n p1) (hD : d ≤ D) (hdp : dp = nI D) : JF f n k d i p D dp := by sorry
theorem jV_deep (h : hereV f n (skipB f n i) = 91 ∨ hereV f n (skipB f n i) = 123) : jV f n 0 i = none := by sorry
theorem jV_con0 {ob : Bool} (hk : 0 < k) (h : hereV f n (skipB f n i) = if ob = true then 123 else 91) (hl : jIns f n (jV f n (k - 1)) ob (skipB f n i) = none) : jV f n k i = none := by sorry
theorem JF.con {d D D2 : Nat} {ob : Bool} {ks : List (List Int32 × JVt (k - 1))} {p1 : Nat} {dp : Int32} (hk : 0 < k) (h : hereV f n (skipB f n i) = if ob = true then 123 else 91) (hl : jIns f n (jV f n (k - 1)) ob (skipB f n i) = some (ks, p1)) (hp : p = skipB f n p1) (hD2 : D2 = max D (d + 1 + dpK (dpJ (k - 1)) ks)) (hdp : dp = nI D2) : JF f n k d i p D dp := by sorry
theorem mt_1 {b : Nat → Int32} {k : Nat} (h : mtch f n i b k) : mtB f n i b k = true := by sorry
theorem mt_0 {b : Nat → Int32} {k : Nat} (h : ¬ mtch f n i b k) : ¬ mtB f n i b k = true := by sorry
theorem jL_null (h : hereV f n i = 110) (hm : mtch f n i (ctx 5) 4) : jLeaf f n i = some ((0, 0, []), i + 4) := by sorry
theorem jL_null0 (h : hereV f n i = 110) (hm : ¬ mtch f n i (ctx 5) 4) : jLeaf f n i = none := by sorry
theorem jL_true (h : hereV f n i = 116) (hm : mtch f n i (ctx 7) 4) : jLeaf f n i = some ((1, 0, []), i + 4) := by sorry
theorem jL_true0 (h : hereV f n i = 116) (hm : ¬ mtch f n i (ctx 7) 4) : jLeaf f n i = none := by sorry
theorem jL_false (h : hereV f n i = 102) (hm : mtch f n i (ctx 6) 5) : jLeaf f n i = some ((2, 0, []), i + 5) := by sorry
theorem jL_false0 (h : hereV f n i = 102) (hm : ¬ mtch f n i (ctx 6) 5) : jLeaf f n i = none := by sorry
theorem jL_text {j : Nat} {L : List Int32} (h : hereV f n i = 34) (hm : qtR f n i = some (j, L)) : jLeaf f n i = some ((4, 0, L), j + 1) := by sorry
theorem jL_text0 (h : hereV f n i = 34) (hm : qtR f n i = none) : jLeaf f n i = none := by sorry
theorem jL_num {r : Int64} {u : Nat} (h1 : ¬ hereV f n i = 110) (h2 : ¬ hereV f n i = 116) (h3 : ¬ hereV f n i = 102) (h4 : ¬ hereV f n i = 34) (hm : jN f n i = some (r, u)) : jLeaf f n i = some ((3, r, []), u) := by sorry
theorem jL_num0 (h1 : ¬ hereV f n i = 110) (h2 : ¬ hereV f n i = 116) (h3 : ¬ hereV f n i = 102) (h4 : ¬ hereV f n i = 34) (hm : jN f n i = none) : jLeaf f n i = none := by sorry
/-- which sign stands there, and no other -/
theorem nb_of {c : Int32} (h : hereV f n i = c) (h1 : ¬ c = 91) (h2 : ¬ c = 123) : ¬ (hereV f n i = 91 ∨ hereV f n i = 123) := by sorry
theorem jNam_1 {nms : List (List Int32)} (h : ¬ hereV f n (skipB f n i) = 34) : jNam f n nms i = none := by sorry
theorem jNam_2 {nms : List (List Int32)} (h : hereV f n (skipB f n i) = 34) (hq : qtR f n (skipB f n i) = none) : jNam f n nms i = none := by sorry
theorem jNam_3 {nms : List (List Int32)} {j : Nat} {L : List Int32} (h : hereV f n (skipB f n i) = 34) (hq : qtR f n (skipB f n i) = some (j, L)) (hm : L ∈ nms) : jNam f n nms i = none := by sorry
theorem jNam_4 {nms : List (List Int32)} {j : Nat} {L : List Int32} (h : hereV f n (skipB f n i) = 34) (hq : qtR f n (skipB f n i) = some (j, L)) (hc : ¬ hereV f n (skipB f n (j + 1)) = 58) : jNam f n nms i = none := by sorry
theorem jNam_ok {nms : List (List Int32)} {j : Nat} {L : List Int32} (h : hereV f n (skipB f n i) = 34) (hq : qtR f n (skipB f n i) = some (j, L)) (hm : ¬ L ∈ nms) (hc : hereV f n (skipB f n (j + 1)) = 58) : jNam f n nms i = some (L, skipB f n (j + 1) + 1) := by sorry
end JVal
section JMem
variable {β : Type} {f : Nat → Int32} {n i m : Nat} {pv : Nat → Option (β × Nat)} {ob : Bool} {acc : List (List Int32 × β)} {nm : List Int32} {j j2 : Nat} {x : β}
/-- a member's name, where there are names -/
def jNm (f : Nat → Int32) (n : Nat) (ob : Bool) (nms : List (List Int32)) (i : Nat) : Option (List Int32 × Nat) := if ob = true then jNam f n nms i else some ([], i)
theorem jMem_n (h1 : jNm f n ob (acc.map (·.1)) i = none) : jMem f n pv ob (m + 1) i acc = none := by sorry
theorem jMem_v (h1 : jNm f n ob (acc.map (·.1)) i = some (nm, j)) (h2 : pv j = none) : jMem f n pv ob (m + 1) i acc = none := by sorry
theorem jMem_s (h1 : jNm f n ob (acc.map (·.1)) i = some (nm, j)) (h2 : pv j = some (x, j2)) (h3 : hereV f n j2 = 44) : jMem f n pv ob (m + 1) i acc = jMem f n pv ob m (j2 + 1) (acc ++ [(nm, x)]) := by sorry
theorem jMem_e (h1 : jNm f n ob (acc.map (·.1)) i = some (nm, j)) (h2 : pv j = some (x, j2)) (h3 : ¬ hereV f n j2 = 44) : jMem f n pv ob (m + 1) i acc = some (acc ++ [(nm, x)], j2) := by sorry
theorem jIns_e (h : hereV f n (skipB f n (i + 1)) = jclo ob) : jIns f n pv ob i = some ([], skipB f n (i + 1) + 1) := by sorry
theorem jIns_0 (h : ¬ hereV f n (skipB f n (i + 1)) = jclo ob) (hm : jMem f n pv ob 4097 (skipB f n (i + 1)) [] = none) : jIns f n pv ob i = none := by sorry
theorem jIns_1 (h : ¬ hereV f n (skipB f n (i + 1)) = jclo ob) (hm : jMem f n pv ob 4097 (skipB f n (i + 1)) [] = some (acc, j)) (hc : ¬ hereV f n j = jclo ob) : jIns f n pv ob i = none := by sorry
theorem jIns_ok (h : ¬ hereV f n (skipB f n (i + 1)) = jclo ob) (hm : jMem f n pv ob 4097 (skipB f n (i + 1)) [] = some (acc, j)) (hc : hereV f n j = jclo ob) : jIns f n pv ob i = some (acc, j + 1) := by sorry
end JMem
end
section
theorem vE_inj {kd kd' : Int32} {nu nu' : Int64} {tx me pa na tx' me' pa' na' : Option Nat} {ix ix' : Int32} {nm no nm' no' : Option Nat} {sp sp' : Int32} (h : vE kd nu tx me pa na ix nm no sp = vE kd' nu' tx' me' pa' na' ix' nm' no' sp') : kd = kd' ∧ nu = nu' ∧ tx = tx' ∧ me = me' ∧ pa = pa' ∧ na = na' ∧ ix = ix' ∧ nm = nm' ∧ no = no' ∧ sp = sp' := by sorry
/-- the units that a row in the pool holds -/
def txL (f : Nat → va_E) (a : Nat) : List Int32 := match f a with
  | .inl (_, n, .inl g) => (List.range n).map g
  | _ => []
theorem txL_t {f : Nat → va_E} {a n : Nat} {cI : ClassId} {g : Nat → Int32} (h : f a = tE cI n g) : txL f a = (List.range n).map g := by sorry
theorem wrL_lt : ∀ (L : List Int32) (g : Nat → Int32) (k j : Nat), j < k → wrL g k L j = g j := by sorry
theorem wrL_get : ∀ (L : List Int32) (g : Nat → Int32) (k j : Nat) (h : j < L.length), wrL g k L (k + j) = L[j] := by sorry
theorem tx_list {g : Nat → Int32} {L : List Int32} : (List.range L.length).map (va_cpy (wrL g 0 L) (fun _ => 0) 0 0 L.length) = L := by sorry
/-- a member's name -/
def nmL (f : Nat → va_E) (a : Nat) : Option (List Int32) := match f a with
  | .inr (_, [_, _, _, _, _, .ref b, _, _, _, _]) => some (txL f b)
  | _ => none
theorem nmL_v {f : Nat → va_E} {a : Nat} {kd : Int32} {nu : Int64} {tx me pa na : Option Nat} {ix : Int32} {nm no : Option Nat} {sp : Int32} (h : f a = vE kd nu tx me pa na ix nm no sp) : nmL f a = na.map (txL f) := by sorry
theorem txL_eq {f f' : Nat → va_E} {b : Nat} (h : f' b = f b) : txL f' b = txL f b := by sorry
theorem nmL_same {cI cV : ClassId} {E lv : Nat → Nat} {L : List Nat} {f f' : Nat → va_E} {a : Nat} (hO : PO cI cV E lv L f) (ha : isV E a) {kd kd' : Int32} {nu nu' : Int64} {tx me pa na tx' me' pa' : Option Nat} {ix ix' : Int32} {nm no nm' no' : Option Nat} {sp sp' : Int32} (e1 : f a = vE kd nu tx me pa na ix nm no sp) (e2 : f' a = vE kd' nu' tx' me' pa' na ix' nm' no' sp') (ht : ∀ b, E b = 4 → f' b = f b) : nmL f' a = nmL f a := by sorry
/-- the members' names -/
def NMs (f : Nat → va_E) (ms : List Nat) (nms : List (List Int32)) : Prop := nms.length = ms.length ∧ ∀ (j a : Nat), ms[j]? = some a → nmL f a = nms[j]?
theorem NMs.keep {cI cV : ClassId} {E lv : Nat → Nat} {L : List Nat} {f f' : Nat → va_E} {ms : List Nat} {nms : List (List Int32)} (h : NMs f ms nms) (hO : PO cI cV E lv L f) (hm : ∀ (j a : Nat), ms[j]? = some a → isV E a) (hf : ∀ a, E a ≠ 0 → f' a = f a) : NMs f' ms nms := by sorry
theorem NMs.nn {f : Nat → va_E} {ms : List Nat} {nms : List (List Int32)} {X : List Int32} (h : NMs f ms nms) (hx : ∀ (j a : Nat), ms[j]? = some a → nmL f a ≠ some X) : ¬ X ∈ nms := by sorry
theorem NMs.sm {f : Nat → va_E} {ms : List Nat} {nms : List (List Int32)} {X : List Int32} {j a : Nat} (h : NMs f ms nms) (hj : ms[j]? = some a) (hx : nmL f a = some X) : X ∈ nms := by sorry
theorem nx8_5 {e e' : va_E} {kd : Int32} {nu : Int64} {tx me pa na : Option Nat} {ix : Int32} {nm no : Option Nat} {sp : Int32} (he : e = vE kd nu tx me pa na ix nm no sp) (he' : ∃ kd nu tx me pa na ix nm no sp, e' = vE kd nu tx me pa na ix nm no sp) (h : nx8 e' = nx8 e) : ∃ no', e' = vE kd nu tx me pa na ix nm no' sp := by sorry
/-- the loop over members, as it reads -/
def MI (bf : Nat → Int32) (n k d i D : Nat) (kd : Int32) (ms : List Nat) (f1 : Nat → va_E) (acc : List (List Int32 × JVt (k - 1))) (p : Nat) (mo dp : Int32) : Prop :=
  acc.length = ms.length ∧ ((mo = 1 ∧ jMem bf n (jV bf n (k - 1)) (decide (kd = 6)) (4097 - ms.length) p acc = jMem bf n (jV bf n (k - 1)) (decide (kd = 6)) 4097 i []) ∨ (mo = 0 ∧ jMem bf n (jV bf n (k - 1)) (decide (kd = 6)) 4097 i [] = some (acc, p))) ∧ dp = nI (max D (d + dpK (dpJ (k - 1)) acc)) ∧ (kd = 6 → NMs f1 ms (acc.map (·.1)))
/-- what the members say -/
def MFn (bf : Nat → Int32) (n k d i p D : Nat) (kd dp : Int32) : Prop := ∃ acc, jMem bf n (jV bf n (k - 1)) (decide (kd = 6)) 4097 i [] = some (acc, p) ∧ dp = nI (max D (d + dpK (dpJ (k - 1)) acc))
/-- what a container says -/
def CFn (bf : Nat → Int32) (n k d i p D : Nat) (kd dp : Int32) : Prop := 0 < k ∧ ∃ acc, jIns bf n (jV bf n (k - 1)) (decide (kd = 6)) i = some (acc, p) ∧ dp = nI (max D (d + 1 + dpK (dpJ (k - 1)) acc))
def CNn (bf : Nat → Int32) (n k i : Nat) (kd : Int32) : Prop := k = 0 ∨ jIns bf n (jV bf n (k - 1)) (decide (kd = 6)) i = none
section Mi
variable {bf : Nat → Int32} {n k d i D : Nat} {kd : Int32} {ms : List Nat} {f1 : Nat → va_E} {acc : List (List Int32 × JVt (k - 1))} {p : Nat} {mo dp : Int32} {nm : List Int32} {p2 p3 : Nat}
theorem MI.start (hD : d ≤ D) (hdp : dp = nI D) : MI bf n k d i D kd [] f1 [] i 1 dp := by sorry
theorem MI.go (h : MI bf n k d i D kd ms f1 acc p mo dp) (hm : ¬ mo = 0) : jMem bf n (jV bf n (k - 1)) (decide (kd = 6)) (4097 - ms.length) p acc = jMem bf n (jV bf n (k - 1)) (decide (kd = 6)) 4097 i [] := by sorry
theorem MI.bad1 (h : MI bf n k d i D kd ms f1 acc p mo dp) (hm : ¬ mo = 0) (hl : ms.length < 4096) (hn : jNm bf n (decide (kd = 6)) (acc.map (·.1)) p = none) : jMem bf n (jV bf n (k - 1)) (decide (kd = 6)) 4097 i [] = none := by sorry
theorem MI.bad2 (h : MI bf n k d i D kd ms f1 acc p mo dp) (hm : ¬ mo = 0) (hl : ms.length < 4096) (hn : jNm bf n (decide (kd = 6)) (acc.map (·.1)) p = some (nm, p2)) (hv : jV bf n (k - 1) p2 = none) : jMem bf n (jV bf n (k - 1)) (decide (kd = 6)) 4097 i [] = none := by sorry
theorem MI.fin (h : MI bf n k d i D kd ms f1 acc p mo dp) (hm : mo = 0) : MFn bf n k d i p D kd dp := by sorry
theorem MI.next (h : MI bf n k d i D kd ms f1 acc p mo dp) (hm : ¬ mo = 0) (hl : ms.length < 4096) (hn : jNm bf n (decide (kd = 6)) (acc.map (·.1)) p = some (nm, p2)) {x : JVt (k - 1)} (hv : jV bf n (k - 1) p2 = some (x, p3)) {dp3 : Int32} (hdp : dp3 = nI (max (max D (d + dpK (dpJ (k - 1)) acc)) (d + dpJ (k - 1) x))) {v : Nat} {f4 : Nat → va_E} (hN : kd = 6 → NMs f4 (ms ++ [v]) (acc.map (·.1) ++ [nm])) {p4 : Nat} {mo4 : Int32} (hc : (mo4 = 1 ∧ hereV bf n p3 = 44 ∧ p4 = p3 + 1) ∨ (mo4 = 0 ∧ ¬ hereV bf n p3 = 44 ∧ p4 = p3)) : MI bf n k d i D kd (ms ++ [v]) f4 (acc ++ [(nm, x)]) p4 mo4 dp3 := by sorry
theorem jNm_1 (h : kd = 6) {nms : List (List Int32)} {o : Option (List Int32 × Nat)} (hn : jNam bf n nms p = o) : jNm bf n (decide (kd = 6)) nms p = o := by sorry
theorem jNm_0 (h : ¬ kd = 6) {nms : List (List Int32)} : jNm bf n (decide (kd = 6)) nms p = some ([], p) := by sorry
theorem jclo5 (h : kd = 5) : jclo (decide (kd = 6)) = 93 := by sorry
theorem jclo6 (h : kd = 5 ∨ kd = 6) (h5 : ¬ kd = 5) : jclo (decide (kd = 6)) = 125 := by sorry
theorem CFn.empty {b : Int32} {D1 : Nat} (hk : 0 < k) (hb : jclo (decide (kd = 6)) = b) (h : hereV bf n (skipB bf n (i + 1)) = b) (hD : D1 = max D (d + 1)) (hdp : dp = nI D1) : CFn bf n k d i (skipB bf n (i + 1) + 1) D kd dp := by sorry
theorem CFn.full {b : Int32} {D1 : Nat} (hk : 0 < k) (hb : jclo (decide (kd = 6)) = b) (h : ¬ hereV bf n (skipB bf n (i + 1)) = b) (hM : MFn bf n k (d + 1) (skipB bf n (i + 1)) p D1 kd dp) (hc : hereV bf n p = b) (hD : D1 = max D (d + 1)) : CFn bf n k d i (p + 1) D kd dp := by sorry
theorem CNn.mem {b : Int32} (hb : jclo (decide (kd = 6)) = b) (h : ¬ hereV bf n (skipB bf n (i + 1)) = b) (hM : jMem bf n (jV bf n (k - 1)) (decide (kd = 6)) 4097 (skipB bf n (i + 1)) [] = none) : CNn bf n k i kd := by sorry
theorem CNn.clo {b : Int32} {D1 d1 : Nat} (hb : jclo (decide (kd = 6)) = b) (h : ¬ hereV bf n (skipB bf n (i + 1)) = b) (hM : MFn bf n k d1 (skipB bf n (i + 1)) p D1 kd dp) (hc : ¬ hereV bf n p = b) : CNn bf n k i kd := by sorry
/-- a container at the depth of k, as a value -/
theorem CFn.jf {s : Nat} (h : CFn bf n k d (skipB bf n i) p D kd dp) (hkd : (kd = 5 ∧ hereV bf n (skipB bf n i) = 91) ∨ (kd = 6 ∧ hereV bf n (skipB bf n i) = 123)) (hs : s = skipB bf n p) : JF bf n k d i s D dp := by sorry
theorem CNn.jv (h : CNn bf n k (skipB bf n i) kd) (hkd : (kd = 5 ∧ hereV bf n (skipB bf n i) = 91) ∨ (kd = 6 ∧ hereV bf n (skipB bf n i) = 123)) : jV bf n k i = none := by sorry
end Mi
/-- a whole document, as the class reads it -/
def jR (f : Nat → Int32) (n : Nat) : Option (JVt 32) := match jV f n 32 0 with
  | none => none
  | some p => if p.2 < n then none else some p.1
theorem jR_0 {f : Nat → Int32} {n : Nat} (h : jV f n 32 0 = none) : jR f n = none := by sorry
theorem jR_1 {f : Nat → Int32} {n p : Nat} {x : JVt 32} (h : jV f n 32 0 = some (x, p)) (hp : p < n) : jR f n = none := by sorry
theorem jR_ok {f : Nat → Int32} {n p : Nat} {x : JVt 32} (h : jV f n 32 0 = some (x, p)) (hp : ¬ p < n) : jR f n = some x := by sorry
end
section
set_option maxHeartbeats 4000000 in
set_option maxRecDepth 100000 in
/-- QueryBench.sameText: whether the texts are the same -/
theorem f_QB_sameText (l : Launch) (dC : Nat → ClassId) (dI : Nat → Nat → Nat) (sz : Heap) (cI cV : ClassId) (E lv : Nat → Nat) (L : List Nat) (f : Nat → va_E) (hO : PO cI cV E lv L f) (a b : Nat) (ha : E a = 4) (hb9 : E b = 4) : Met l y_QB_sameText (k_QB_sameText :: gtbl) ({ frames := 0, cells := 0, slots := 0, locals := 0 }) (va_Pc [.ref a, .ref b] (mq dC dI ([] ++ va_pl L f) [(cI, .int), (cV, .object "QueryBench$Value")] sz)) (vp_Si (fun (r : Int32) => Bo r ∧ ((r = 1 ∧ txL f a = txL f b) ∨ (r = 0 ∧ ¬ txL f a = txL f b)))) 0 0 (fun _ => False) := by sorry
end
section
section Bytes
variable {f : Nat → Int32} {n : Nat}
/-- a byte below 128 as it is read -/
theorem by_here {p m : Nat} (hbf : byR f) (hp : p < n) (hm : m < 128) : hereV f n p = nI m ↔ f p = nI m := by sorry
theorem here_dom (f : Nat → Int32) (n i : Nat) : hereV f n i = -1 ∨ ∃ m, m < 256 ∧ hereV f n i = nI m := by sorry
theorem blk_here {p : Nat} (hbf : byR f) (hp : p < n) : blk (f p) = true ↔ blkH (hereV f n p) := by sorry
theorem skip_eq (hbf : byR f) : ∀ (k i : Nat), n - i = k → skipB f n i = skipH f n i := by sorry
theorem skipBH (hbf : byR f) (i : Nat) : skipB f n i = skipH f n i := by sorry
theorem hex_all : ∀ m, m < 256 → hexV ((nI m).toInt8.toInt32) = hexV (nI m) := by sorry
theorem hex_here (hbf : byR f) (p : Nat) : hexV (byteV f n p) = hexV (hereV f n p) := by sorry
theorem hex4_M (hbf : byR f) : ∀ (k j : Nat) (a : Int32), hex4 f n k j a = hexM f n k j a := by sorry
theorem bf_all : ∀ m, m < 256 → (¬ bfI (nI m) < 0 → ixV (bfI (nI m)) = escC (nI m) ∧ ¬ nI m = 117) ∧ (bfI (nI m) < 0 → ¬ nI m = 117 → escC (nI m) = -1) := by sorry
theorem bf_here (i : Nat) : (¬ bfI (hereV f n i) < 0 → ixV (bfI (hereV f n i)) = escC (hereV f n i) ∧ ¬ hereV f n i = 117) ∧ (bfI (hereV f n i) < 0 → ¬ hereV f n i = 117 → escC (hereV f n i) = -1) := by sorry
theorem esc_eq (hbf : byR f) (q : Int32) (i : Nat) : escM f n q i = escV f n i q := by sorry
theorem chF_ne {i j : Nat} {q : Int32} {L : List Int32} (h : chF f n i q = some (j, L)) : 0 < L.length := by sorry
theorem escC_small (x : Int32) : escC x ≤ 13 := by sorry
/-- the second of a pair comes of \u alone -/
theorem esc_low {q : Int32} {i : Nat} (h : lowU (escV f n i q).1) : hereV f n (i + 1) = 117 := by sorry
theorem qtM_ch (hbf : byR f) {q : Int32} {k j : Nat} {L : List Int32} (hq : ¬ hereV f n j = q) : qtM f n q (k + 1) j L = match chF f n j q with
    | none => none
    | some z => qtM f n q k z.1 (L ++ z.2) := by sorry
theorem qt_eq (hbf : byR f) {q : Int32} (hq1 : ¬ q = -1) : ∀ (s t k j : Nat) (L : List Int32), n - j ≤ s → s ≤ t → s < k → (qtF f n q t j L).map (fun z => (z.2, z.1 + 1)) = qtM f n q k j L := by sorry
theorem qtR_Q (hbf : byR f) (hn : n ≤ 4096) {i : Nat} (h : hereV f n i = 34) : (qtR f n i).map (fun z => (z.2, z.1 + 1)) = qtQ f n 34 i := by sorry
end Bytes
section Nums
variable {f : Nat → Int32} {n : Nat}
theorem dg_all : ∀ d, d < 10 → (nI (48 + d) - 48 : Int32).toInt64 = Int64.ofNat d ∧ (nI (48 + d)).toInt64 = Int64.ofNat (48 + d) := by sorry
theorem minL_nat {X : Nat} (h : X < 2 ^ 62) : minL (Int64.ofNat X) = Int64.ofNat (min X 9007199254740992) := by sorry
/-- a digit as it is read -/
theorem dig_dom (hbf : byR f) {j : Nat} (h : digH (hereV f n j)) : ∃ d, d < 10 ∧ hereV f n j = nI (48 + d) ∧ f j = nI (48 + d) ∧ j < n := by sorry
theorem dig_back (hbf : byR f) {j : Nat} (h : j < n ∧ 48 ≤ f j ∧ f j ≤ 57) : digH (hereV f n j) := by sorry
theorem dg_eq (hbf : byR f) : ∀ (s k j A : Nat) (b : Int64), n - j = s → s < k → A < 10 ^ 17 → ((b = Int64.ofNat A ∧ A ≤ 9007199254740991) ∨ (9007199254740991 < A ∧ b = Int64.ofNat 9007199254740992)) →
    ∃ B, dgM f n k j (Int64.ofNat A) = (Int64.ofNat B, (digS f n (n - j) j b).2) ∧ B < 10 ^ 17 ∧ (((digS f n (n - j) j b).1 = Int64.ofNat B ∧ B ≤ 9007199254740991) ∨ (9007199254740991 < B ∧ (digS f n (n - j) j b).1 = Int64.ofNat 9007199254740992)) := by sorry
theorem dgN_J (hbf : byR f) (i : Nat) : ∃ B, dgN f n i = (Int64.ofNat B, (dgJ f n i).2) ∧ B < 10 ^ 17 ∧ (((dgJ f n i).1 = Int64.ofNat B ∧ B ≤ 9007199254740991) ∨ (9007199254740991 < B ∧ (dgJ f n i).1 = Int64.ofNat 9007199254740992)) := by sorry
theorem big_J (hbf : byR f) (i : Nat) : 0 < lg_cmp (dgN f n i).1 9007199254740991 ↔ ¬ (dgJ f n i).1 ≤ 9007199254740991 := by sorry
theorem nb_eq (hbf : byR f) (i : Nat) (mi : Bool) : jNb f n i mi = nuB f n i mi := by sorry
theorem num_eq (hbf : byR f) (i : Nat) : jN f n i = numM f n i := by sorry
end Nums
section Docs
variable {f : Nat → Int32} {n : Nat}
theorem mt_eq {i k : Nat} {b b' : Nat → Int32} (h : ∀ j, j < k → b j = b' j) : mtB f n i b k = mtB f n i b' k := by sorry
theorem leaf_eq (hbf : byR f) (hn : n ≤ 4096) (i : Nat) (hnb : ¬ (hereV f n i = 91 ∨ hereV f n i = 123)) : jLeaf f n i = pLeaf f n i := by sorry
theorem nam_eq (hbf : byR f) (hn : n ≤ 4096) (nms : List (List Int32)) (i : Nat) : jNam f n nms i = pNam f n 123 nms i := by sorry
theorem nm_eq (hbf : byR f) (hn : n ≤ 4096) {op : Int32} (hop : op = 91 ∨ op = 123) (nms : List (List Int32)) (i : Nat) : jNm f n (decide (op = 123)) nms i = pNam f n op nms i := by sorry
theorem pNam_ge {op : Int32} {nms : List (List Int32)} {i j : Nat} {nm : List Int32} (h : pNam f n op nms i = some (nm, j)) : i ≤ j := by sorry
theorem mem_eq (hbf : byR f) (hn : n ≤ 4096) {β : Type} {pv : Nat → Option (β × Nat)} (hpv : ∀ i x j, pv i = some (x, j) → i ≤ j) {op : Int32} (hop : op = 91 ∨ op = 123) : ∀ (s m m2 i : Nat) (acc : List (List Int32 × β)), n - i ≤ s → s < m → s < m2 →
    (match jMem f n pv (decide (op = 123)) m i acc with
      | none => none
      | some z => if hereV f n z.2 = clo op then some (z.1, z.2 + 1) else none) = pIn f n pv op m2 i acc := by sorry
theorem clo_eq {op : Int32} (hop : op = 91 ∨ op = 123) : jclo (decide (op = 123)) = clo op := by sorry
theorem ins_eq (hbf : byR f) (hn : n ≤ 4096) {β : Type} {pv : Nat → Option (β × Nat)} (hpv : ∀ i x j, pv i = some (x, j) → i ≤ j) {op : Int32} (hop : op = 91 ∨ op = 123) (i : Nat) : jIns f n pv (decide (op = 123)) i = pInside f n pv op i := by sorry
theorem pIn_ge {β : Type} {pv : Nat → Option (β × Nat)} (hpv : ∀ i x j, pv i = some (x, j) → i ≤ j) {op : Int32} : ∀ (m i : Nat) (acc ks : List (List Int32 × β)) (j : Nat), pIn f n pv op m i acc = some (ks, j) → i ≤ j := by sorry
theorem pLeaf_ge {i j : Nat} {x : LF} (h : pLeaf f n i = some (x, j)) : i ≤ j := by sorry
theorem pV_ge : ∀ (r i : Nat) (x : JVt r) (j : Nat), pV f n r i = some (x, j) → i ≤ j := by sorry
theorem v_eq (hbf : byR f) (hn : n ≤ 4096) : ∀ r : Nat, jV f n r = pV f n r := by sorry
/-- class and reference read the same documents -/
theorem jR_pR (hbf : byR f) (hn : n ≤ 4096) : jR f n = pR f n := by sorry
end Docs
end
