/-! the class's objects: a pool, by sorts: 1 a value under way, 2 a value, 3 a value with a name, 4 int[], 5 Value[], 6 Value[] of values with names, 7 Query, 8 Segment, 9 Selector, 10 Condition, 11 Operand -/
abbrev oR (P : Nat → Prop) (o : Option Nat) : Prop := ∀ b, o = some b → P b
abbrev isV (E : Nat → Nat) (b : Nat) : Prop := E b = 1 ∨ E b = 2 ∨ E b = 3
abbrev isF (E : Nat → Nat) (b : Nat) : Prop := E b = 2 ∨ E b = 3
abbrev isA (E : Nat → Nat) (b : Nat) : Prop := E b = 5 ∨ E b = 6
theorem isF.v {E : Nat → Nat} {b : Nat} (h : isF E b) : isV E b := Or.inr h
abbrev vE (kd : Int32) (nu : Int64) (tx me pa na : Option Nat) (ix : Int32) (nm no : Option Nat) (sp : Int32) : va_E := .inr (9, [.int kd, .long nu, va_rf tx, va_rf me, va_rf pa, va_rf na, .int ix, va_rf nm, va_rf no, .int sp])
abbrev tE (cI : ClassId) (n : Nat) (g : Nat → Int32) : va_E := .inl (cI, n, .inl g)
abbrev aE (cV : ClassId) (n : Nat) (g : Nat → Option Nat) : va_E := .inl (cV, n, .inr (.inr (.inr (.inr g))))
abbrev qE (fr sg : Int32) (fi la : Option Nat) : va_E := .inr (4, [.int fr, .int sg, va_rf fi, va_rf la])
abbrev gE (ds : Int32) (fi nx : Option Nat) : va_E := .inr (6, [.int ds, va_rf fi, va_rf nx])
abbrev lE (kd : Int32) (nm : Option Nat) (hs ht : Int32) (st sp se : Int64) (fl nx : Option Nat) : va_E := .inr (7, [.int kd, va_rf nm, .int hs, .int ht, .long st, .long sp, .long se, va_rf fl, va_rf nx])
abbrev kE (kd : Int32) (fi nx qu le ri : Option Nat) : va_E := .inr (0, [.int kd, va_rf fi, va_rf nx, va_rf qu, va_rf le, va_rf ri])
abbrev oE (kd : Int32) (va qu inn : Option Nat) : va_E := .inr (2, [.int kd, va_rf va, va_rf qu, va_rf inn])
def VO (E : Nat → Nat) (a : Nat) (kd : Int32) (tx me pa na nm no : Option Nat) : Prop := oR (fun b => E b = 4) tx ∧ oR (isA E) me ∧ oR (isV E) pa ∧ oR (fun b => E b = 4) na ∧ oR (isV E) nm ∧ oR (isV E) no ∧ (E a ≠ 1 → (kd = 4 → tx ≠ none) ∧ (kd = 6 → oR (fun b => E b = 6) me)) ∧ (E a = 3 → na ≠ none ∧ oR (fun b => E b = 3) nm)
/-- a segment, a selector, a condition, an operand: what it holds is of lower or the same level -/
def GO (E lv : Nat → Nat) (a : Nat) (fi nx : Option Nat) : Prop := (∃ b, fi = some b ∧ E b = 9 ∧ lv b ≤ lv a) ∧ oR (fun b => E b = 8 ∧ lv b ≤ lv a ∧ a < b) nx
def LO (E lv : Nat → Nat) (a : Nat) (kd : Int32) (nm : Option Nat) (se : Int64) (fl nx : Option Nat) : Prop := oR (fun b => E b = 4) nm ∧ oR (fun b => E b = 10 ∧ lv b < lv a) fl ∧ oR (fun b => E b = 9 ∧ lv b ≤ lv a ∧ a < b) nx ∧ (kd = 0 → nm ≠ none) ∧ (kd ≠ 0 → kd ≠ 1 → kd ≠ 2 → kd ≠ 3 → fl ≠ none) ∧ -9007199254740992 ≤ se.toInt ∧ se.toInt ≤ 9007199254740992
def KO (E lv : Nat → Nat) (a : Nat) (kd : Int32) (fi nx qu le ri : Option Nat) : Prop := oR (fun b => E b = 10 ∧ lv b < lv a) fi ∧ oR (fun b => E b = 10 ∧ lv b ≤ lv a ∧ a < b) nx ∧ oR (fun b => E b = 7 ∧ lv b < lv a) qu ∧ oR (fun b => E b = 11 ∧ lv b < lv a) le ∧ oR (fun b => E b = 11 ∧ lv b < lv a) ri ∧ (kd = 2 → fi ≠ none) ∧ (kd = 3 → qu ≠ none) ∧ (kd ≠ 0 → kd ≠ 1 → kd ≠ 2 → kd ≠ 3 → le ≠ none ∧ ri ≠ none)
def OO (E lv : Nat → Nat) (a : Nat) (kd : Int32) (va qu inn : Option Nat) : Prop := oR (isF E) va ∧ oR (fun b => E b = 7 ∧ lv b < lv a) qu ∧ oR (fun b => E b = 11 ∧ lv b < lv a) inn ∧ (kd = 1 → qu ≠ none) ∧ (kd = 2 → qu ≠ none ∧ va ≠ none) ∧ (kd = 3 → inn ≠ none ∧ va ≠ none)
def PO (cI cV : ClassId) (E lv : Nat → Nat) (L : List Nat) (f : Nat → va_E) : Prop :=
  (∀ a, E a ≠ 0 → a ∈ L) ∧
  (∀ a, isV E a → ∃ kd nu tx me pa na ix nm no sp, f a = vE kd nu tx me pa na ix nm no sp ∧ VO E a kd tx me pa na nm no) ∧
  (∀ a, E a = 4 → ∃ n g, f a = tE cI n g ∧ n ≤ 4096) ∧
  (∀ a, isA E a → ∃ n g, f a = aE cV n g ∧ n ≤ 4096 ∧ ∀ j, j < n → ∃ b, g j = some b ∧ isF E b ∧ (E a = 6 → E b = 3)) ∧
  (∀ a, E a = 7 → ∃ fr sg fi la, f a = qE fr sg fi la ∧ oR (fun b => E b = 8 ∧ lv b ≤ lv a) fi ∧ oR (fun b => E b = 8) la) ∧
  (∀ a, E a = 8 → ∃ ds fi nx, f a = gE ds fi nx ∧ GO E lv a fi nx) ∧
  (∀ a, E a = 9 → ∃ kd nm hs ht st sp se fl nx, f a = lE kd nm hs ht st sp se fl nx ∧ LO E lv a kd nm se fl nx) ∧
  (∀ a, E a = 10 → ∃ kd fi nx qu le ri, f a = kE kd fi nx qu le ri ∧ KO E lv a kd fi nx qu le ri) ∧
  (∀ a, E a = 11 → ∃ kd va qu inn, f a = oE kd va qu inn ∧ OO E lv a kd va qu inn)
section PoolOK
variable {cI cV : ClassId} {E lv : Nat → Nat} {L : List Nat} {f : Nat → va_E} {a : Nat}
theorem PO.inL (h : PO cI cV E lv L f) (ha : E a ≠ 0) : a ∈ L := h.1 a ha
theorem PO.inV (h : PO cI cV E lv L f) (ha : isV E a) : a ∈ L := h.1 a (by rcases ha with h | h | h <;> omega)
theorem PO.inA (h : PO cI cV E lv L f) (ha : isA E a) : a ∈ L := h.1 a (by rcases ha with h | h <;> omega)
theorem PO.val (h : PO cI cV E lv L f) (ha : isV E a) : ∃ kd nu tx me pa na ix nm no sp, f a = vE kd nu tx me pa na ix nm no sp ∧ VO E a kd tx me pa na nm no := h.2.1 a ha
theorem PO.txt (h : PO cI cV E lv L f) (ha : E a = 4) : ∃ n g, f a = tE cI n g ∧ n ≤ 4096 := h.2.2.1 a ha
theorem PO.arr (h : PO cI cV E lv L f) (ha : isA E a) : ∃ n g, f a = aE cV n g ∧ n ≤ 4096 ∧ ∀ j, j < n → ∃ b, g j = some b ∧ isF E b ∧ (E a = 6 → E b = 3) := h.2.2.2.1 a ha
theorem PO.qry (h : PO cI cV E lv L f) (ha : E a = 7) : ∃ fr sg fi la, f a = qE fr sg fi la ∧ oR (fun b => E b = 8 ∧ lv b ≤ lv a) fi ∧ oR (fun b => E b = 8) la := h.2.2.2.2.1 a ha
theorem PO.seg (h : PO cI cV E lv L f) (ha : E a = 8) : ∃ ds fi nx, f a = gE ds fi nx ∧ GO E lv a fi nx := h.2.2.2.2.2.1 a ha
theorem PO.sel (h : PO cI cV E lv L f) (ha : E a = 9) : ∃ kd nm hs ht st sp se fl nx, f a = lE kd nm hs ht st sp se fl nx ∧ LO E lv a kd nm se fl nx := h.2.2.2.2.2.2.1 a ha
theorem PO.con (h : PO cI cV E lv L f) (ha : E a = 10) : ∃ kd fi nx qu le ri, f a = kE kd fi nx qu le ri ∧ KO E lv a kd fi nx qu le ri := h.2.2.2.2.2.2.2.1 a ha
theorem PO.opd (h : PO cI cV E lv L f) (ha : E a = 11) : ∃ kd va qu inn, f a = oE kd va qu inn ∧ OO E lv a kd va qu inn := h.2.2.2.2.2.2.2.2 a ha
end PoolOK
/-- how many members a value has -/
def szF (f : Nat → va_E) (a : Nat) : Nat := match f a with
  | .inr (_, [_, _, _, .ref b, _, _, _, _, _, _]) => match f b with
    | .inl (_, n, _) => n
    | _ => 0
  | _ => 0
theorem PO.mem {cI cV : ClassId} {E lv : Nat → Nat} {L : List Nat} {f : Nat → va_E} {a : Nat} (h : PO cI cV E lv L f) {kd : Int32} {nu : Int64} {tx me pa na : Option Nat} {ix : Int32} {nm no : Option Nat} {sp : Int32} (hf : f a = vE kd nu tx me pa na ix nm no sp) (hV : VO E a kd tx me pa na nm no) (ha : E a ≠ 1) :
    szF f a ≤ 4096 ∧ ((me = none ∧ szF f a = 0) ∨ ∃ b g, me = some b ∧ b ∈ L ∧ f b = aE cV (szF f a) g ∧ ∀ j, j < szF f a → ∃ c, g j = some c ∧ isF E c ∧ (kd = 6 → E c = 3)) := by
  cases me with
  | none =>
    have e : szF f a = 0 := by unfold szF; rw [hf]; rfl
    exact ⟨by omega, Or.inl ⟨rfl, e⟩⟩
  | some b =>
    have hb := hV.2.1 b rfl
    obtain ⟨n, g, e1, e2, e3⟩ := h.arr hb
    have e : szF f a = n := by
      unfold szF
      rw [hf]
      show (match f b with | .inl (_, n, _) => n | _ => 0) = n
      rw [e1]
    rw [e]
    exact ⟨e2, Or.inr ⟨b, g, rfl, h.inA hb, e1, fun j hj => by
      obtain ⟨c, c1, c2, c3⟩ := e3 j hj
      exact ⟨c, c1, c2, fun hk => c3 ((hV.2.2.2.2.2.2.1 ha).2 hk b rfl)⟩⟩⟩
/-- the heap stays as it is -/
abbrev mq (dC : Nat → ClassId) (dI : Nat → Nat → Nat) (ws : va_W) (tys : List (ClassId × FieldType)) (sz : Heap) (U : State) : Prop := U.heap = sz ∧ va_P (dC, dI) classes ws U.heap ∧ va_K (dC, dI) classes tys U ∧ NW U
theorem mq_blind {dC : Nat → ClassId} {dI : Nat → Nat → Nat} {ws : va_W} {tys : List (ClassId × FieldType)} {sz : Heap} {av : List Value} : FrameBlind (va_Pc av (mq dC dI ws tys sz)) := fun a U g mk q => by
  obtain ⟨q0, q1, qP, qK, qN⟩ := q
  exact ⟨q0, q1, qP, va_K.moved (u := U) (U := U.calling g mk a) (Vm.Alike.refl U.vm) qK, NW.same (s := U) (U := U.calling g mk a) rfl qN⟩
section PoolRows
variable {p : Program} {l : Launch} {e : Env} {R : Room} {s : State} {m : MethodId} {args : Array Value} {below : List Frame} {meth : Method} {c : Code} {H : Heap} {locs : List Loc} {cells slots : Nat} {Q : State → Prop}
variable {cc : ByteArray} {pc : Nat} {ls : Array Slot} {rest : List Value} {D : va_G} {cl : List vw_C} {A : Nat → Prop} {a : Nat} {tys : List (ClassId × FieldType)} {X : va_W} {L : List Nat} {f : Nat → va_E} {H0 : Heap}
theorem vq_get (hexec : p.tables.exec = Jvm.exec) (hb : c.code = cc) {own ref C : String} {T : u_T} {N ci index : Nat} {Ts : List Cond} (hts : ∀ w ∈ Ts, w.before args s = true) (hin : ∀ w ∈ u_ws C T N, w ∈ Ts) (hown : s.vm.findClass own = some m.cls) (hK : va_K D cl tys s) (hP : va_P D cl (X ++ va_pl L f) H) (ha : a ∈ L) {fs : List Value} (he : f a = .inr (ci, fs)) (hc : cl[ci]? = some (C, T, N)) (k : Nat) (hk : k < N) (hlink : (Cond.fieldLink own index ref (T k).2.1 (T k).2.2.1).before args s = true) (hsame : ∀ x, s.fieldFound? (T k).1 (T k).2.1 (T k).2.2.1 = some x → s.fieldFound? ref (T k).2.1 (T k).2.2.1 = some x) {v : Value} (hv : fs[k]? = some v) (hdg : decode cc pc = .ok (.getfield index, 3))
    (kk : W p l e R s m args below meth c H locs cells slots Q (F0 m (pc + 3) ls (v :: rest))) : W p l e R s m args below meth c H locs cells slots Q (F0 m pc ls (.ref a :: rest)) := by
  obtain ⟨q0, h0⟩ := va_pl_get (X := X) (f := f) ha
  rw [he] at h0
  exact va_get hexec hb hts hin hown hK hP q0 h0 hc k hk hlink hsame hv hdg kk
theorem vq_put (hexec : p.tables.exec = Jvm.exec) (hb : c.code = cc) {own ref C : String} {T : u_T} {N ci index : Nat} {Ts : List Cond} (hts : ∀ w ∈ Ts, w.before args s = true) (hin : ∀ w ∈ u_ws C T N, w ∈ Ts) (ty0 : Nat → FieldType) (hty : ∀ k, k < N → parseFieldDescriptor (T k).2.2.1 = some (ty0 k)) (hnm : ∀ a, a < N → ∀ b, b < N → a ≠ b → (T a).2.1 ≠ (T b).2.1) (hown : s.vm.findClass own = some m.cls) (hK : va_K D cl tys s) (hP : va_P D cl (X ++ va_pl L f) H) (hD : va_D A (X ++ va_pl L f)) (hS0 : va_S A H0 H locs) (ha : a ∈ L) {fs : List Value} (he : f a = .inr (ci, fs)) (hc : cl[ci]? = some (C, T, N)) (k : Nat) (hk : k < N) (hlink : (Cond.fieldLink own index ref (T k).2.1 (T k).2.2.1).before args s = true) (hsame : ∀ x, s.fieldFound? (T k).1 (T k).2.1 (T k).2.2.1 = some x → s.fieldFound? ref (T k).2.1 (T k).2.2.1 = some x) (hfin : (T k).2.2.2 = false) {ty : FieldType} {v : Value} (hd : parseFieldDescriptor (T k).2.2.1 = some ty) (hn : narrow ty v = v) (hfit : fits ty v = true) (hl : k < fs.length)
    (hdg : decode cc pc = .ok (.putfield index, 3)) (kk : ∀ (H1 : Heap) (locs1 : List Loc), va_P D cl (X ++ va_pl L (va_up f a (.inr (ci, fs.set k v)))) H1 → va_D A (X ++ va_pl L (va_up f a (.inr (ci, fs.set k v)))) → va_S A H0 H1 locs1 → W p l e R s m args below meth c H1 locs1 cells slots Q (F0 m (pc + 3) ls rest)) : W p l e R s m args below meth c H locs cells slots Q (F0 m pc ls (v :: .ref a :: rest)) := by
  obtain ⟨q0, h0⟩ := va_pl_get (X := X) (f := f) ha
  have e1 := va_pl_set (e := .inr (ci, fs.set k v)) hD ha h0
  rw [he] at h0
  refine va_put hexec hb hts hin ty0 hty hnm hown hK hP hD hS0 q0 h0 hc k hk hlink hsame hfin hd hn hfit hl hdg (fun H1 locs1 hP1 hD1 hS1 => ?_)
  rw [e1] at hP1 hD1
  exact kk H1 locs1 hP1 hD1 hS1
theorem vq_iald (hexec : p.tables.exec = Jvm.exec) (hb : c.code = cc) (hK : va_K D cl tys s) (hP : va_P D cl (X ++ va_pl L f) H) (t0 : Nat) {cA : ClassId} {n : Nat} {g : Nat → Int32} (ha : a ∈ L) (he : f a = .inl (cA, n, .inl g)) (ht : tys[t0]? = some (cA, .int)) {j : Nat} (hj : j < n) (hn : n ≤ 4096) (hdg : decode cc pc = .ok (.iaload, 1))
    (kk : W p l e R s m args below meth c H locs cells slots Q (F0 m (pc + 1) ls (.int (g j) :: rest))) : W p l e R s m args below meth c H locs cells slots Q (F0 m pc ls (.int (nI j) :: .ref a :: rest)) := by
  obtain ⟨q0, h0⟩ := va_pl_get (X := X) (f := f) ha
  rw [he] at h0
  refine va_iald hexec hb hK hP q0 t0 h0 ht (vp_in_nI hj (by omega)) hdg ?_
  rw [nI_clamp (by omega)]
  exact kk
theorem vq_aald (hexec : p.tables.exec = Jvm.exec) (hb : c.code = cc) (hK : va_K D cl tys s) (hP : va_P D cl (X ++ va_pl L f) H) (t0 : Nat) {cA : ClassId} {C : String} {n : Nat} {g : Nat → Option Nat} (ha : a ∈ L) (he : f a = .inl (cA, n, .inr (.inr (.inr (.inr g))))) (ht : tys[t0]? = some (cA, .object C)) {j b : Nat} (hj : j < n) (hn : n ≤ 4096) (hg : g j = some b) (hdg : decode cc pc = .ok (.aaload, 1))
    (kk : W p l e R s m args below meth c H locs cells slots Q (F0 m (pc + 1) ls (.ref b :: rest))) : W p l e R s m args below meth c H locs cells slots Q (F0 m pc ls (.int (nI j) :: .ref a :: rest)) := by
  obtain ⟨q0, h0⟩ := va_pl_get (X := X) (f := f) ha
  rw [he] at h0
  refine va_aldq hexec hb hK hP q0 t0 h0 ht (vp_in_nI hj (by omega)) hdg ?_
  rw [nI_clamp (by omega), hg]
  exact kk
theorem vq_alen (hexec : p.tables.exec = Jvm.exec) (hb : c.code = cc) (hK : va_K D cl tys s) (hP : va_P D cl (X ++ va_pl L f) H) (t0 : Nat) {cA : ClassId} {x : vp_A} (ha : a ∈ L) (he : f a = .inl (cA, x)) {ty : FieldType} (ht : tys[t0]? = some (cA, ty)) (hdg : decode cc pc = .ok (.arraylength, 1))
    (kk : W p l e R s m args below meth c H locs cells slots Q (F0 m (pc + 1) ls (.int (nI x.1) :: rest))) : W p l e R s m args below meth c H locs cells slots Q (F0 m pc ls (.ref a :: rest)) := by
  obtain ⟨q0, h0⟩ := va_pl_get (X := X) (f := f) ha
  rw [he] at h0
  exact va_alen hexec hb hK hP q0 t0 h0 ht rfl hdg kk
theorem vq_recv {C : String} {T : u_T} {N ci : Nat} {fs : List Value} (hK : va_K D cl tys s) (hP : va_P D cl (X ++ va_pl L f) H) (hc : cl[ci]? = some (C, T, N)) (ha : a ∈ L) (he : f a = .inr (ci, fs)) : ∃ cell : Cell, H[a]? = some cell ∧ cell.vm.isStatics = false ∧ s.vm.findClass C = some cell.cls := by
  obtain ⟨q0, h0⟩ := va_pl_get (X := X) (f := f) ha
  rw [he] at h0
  exact va_recv hK hP hc h0
/-- a loop of a method that leaves the heap -/
theorem w_loopR {nL : Nat} (pc : Nat) {σ : Type} (Inv : σ → Prop) (ms : σ → Nat) (lv : σ → List (Nat × Value))
    (step : ∀ (x : σ) (ls : Array Slot), Inv x → (∀ (y : σ) (ls : Array Slot), Inv y → ms y < ms x → lv_has ls nL (lv y) → W p l e R s m args below meth c H locs cells slots Q (F0 m pc ls [])) → lv_has ls nL (lv x) → W p l e R s m args below meth c H locs cells slots Q (F0 m pc ls []))
    (x : σ) {ls : Array Slot} (h : Inv x) (hl : lv_has ls nL (lv x)) : W p l e R s m args below meth c H locs cells slots Q (F0 m pc ls []) := by
  have key : ∀ (k : Nat) (x : σ), ms x < k → ∀ (ls : Array Slot), Inv x → lv_has ls nL (lv x) → W p l e R s m args below meth c H locs cells slots Q (F0 m pc ls []) := by
    intro k
    induction k with
    | zero => intro x hx; exact absurd hx (Nat.not_lt_zero _)
    | succ k ih =>
      intro x hx ls hI hl
      exact step x ls hI (fun y ls hy hm => ih y (by omega) ls hy) hl
  exact key (ms x + 1) x (Nat.lt_succ_self _) ls h hl
end PoolRows
theorem PO.mem0 {f : Nat → va_E} {a : Nat} {kd : Int32} {nu : Int64} {tx pa na : Option Nat} {ix : Int32} {nm no : Option Nat} {sp : Int32} (hf : f a = vE kd nu tx none pa na ix nm no sp) : szF f a = 0 := by unfold szF; rw [hf]; rfl
theorem PO.mem1 {cI cV : ClassId} {E lv : Nat → Nat} {L : List Nat} {f : Nat → va_E} {a : Nat} (h : PO cI cV E lv L f) {kd : Int32} {nu : Int64} {tx pa na : Option Nat} {b : Nat} {ix : Int32} {nm no : Option Nat} {sp : Int32} (hf : f a = vE kd nu tx (some b) pa na ix nm no sp) (hV : VO E a kd tx (some b) pa na nm no) (ha : E a ≠ 1) :
    ∃ g, b ∈ L ∧ f b = aE cV (szF f a) g ∧ ∀ j, j < szF f a → ∃ c, g j = some c ∧ isF E c ∧ (kd = 6 → E c = 3) := by
  rcases (h.mem hf hV ha).2 with ⟨h1, -⟩ | ⟨b', g, h1, h2, h3, h4⟩
  · cases h1
  · cases h1
    exact ⟨g, h2, h3, h4⟩
theorem PO.szle {cI cV : ClassId} {E lv : Nat → Nat} {L : List Nat} {f : Nat → va_E} {a : Nat} (h : PO cI cV E lv L f) {kd : Int32} {nu : Int64} {tx me pa na : Option Nat} {ix : Int32} {nm no : Option Nat} {sp : Int32} (hf : f a = vE kd nu tx me pa na ix nm no sp) (hV : VO E a kd tx me pa na nm no) : szF f a ≤ 4096 := by
  cases me with
  | none => rw [PO.mem0 hf]; omega
  | some b =>
    obtain ⟨n, g, e1, e2, e3⟩ := h.arr (hV.2.1 b rfl)
    have e : szF f a = n := by
      unfold szF
      rw [hf]
      show (match f b with | .inl (_, n, _) => n | _ => 0) = n
      rw [e1]
    omega
theorem isF.n1 {E : Nat → Nat} {b : Nat} (h : isF E b) : E b ≠ 1 := by rcases h with h | h <;> omega
/-- nothing is asked of the heap -/
abbrev mT (U : State) : Prop := NW U
theorem mT_blind {av : List Value} : FrameBlind (va_Pc av mT) := fun a U g mk q => ⟨q.1, NW.same (s := U) (U := U.calling g mk a) rfl q.2⟩
abbrev Bo (r : Int32) : Prop := r = 0 ∨ r = 1
theorem Bo.nar {r : Int32} (h : Bo r) : narrow .boolean (.int r) = .int r := by rcases h with rfl | rfl <;> rfl
