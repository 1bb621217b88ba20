/-! 'new byte[4][4096]': one instruction makes five arrays -/
/-- a row of bytes, and the row of the rows when i of them are there -/
def mnI (ci : ClassId) : Cell := { cls := ci, slots := Array.replicate 4096 (.int 0), vm := .none }
def mnO (cA : ClassId) (h : Nat) : Nat → Cell
  | 0 => { cls := cA, slots := Array.replicate 4 .null, vm := .none }
  | i + 1 => (mnO cA h i).setSlot i (.ref (h + 1 + i))
def mnS (S : State) (cA ci : ClassId) : Nat → State
  | 0 => S.pushCell (mnO cA S.heap.size 0)
  | i + 1 => ((mnS S cA ci i).pushCell (mnI ci)).setCell S.heap.size (mnO cA S.heap.size (i + 1))
theorem mnO_f (cA : ClassId) (h : Nat) (i : Nat) : (mnO cA h i).cls = cA ∧ (mnO cA h i).vm = .none ∧ (mnO cA h i).slots.size = 4 := by
  induction i with
  | zero => exact ⟨rfl, rfl, by simp [mnO]⟩
  | succ i ih =>
    refine ⟨?_, ?_, ?_⟩
    · simpa [mnO, Cell.setSlot] using ih.1
    · simpa [mnO, Cell.setSlot] using ih.2.1
    · simpa [mnO, Cell.setSlot] using ih.2.2
theorem mnS_f (S : State) (cA ci : ClassId) (i : Nat) : (mnS S cA ci i).heap.size = S.heap.size + 1 + i ∧ (mnS S cA ci i).heap[S.heap.size]? = some (mnO cA S.heap.size i) ∧ (mnS S cA ci i).vm = S.vm ∧ (∀ q : Nat, q < S.heap.size → (mnS S cA ci i).heap[q]? = S.heap[q]?) ∧ ∀ j : Nat, j < i → (mnS S cA ci i).heap[S.heap.size + 1 + j]? = some (mnI ci) := by
  induction i with
  | zero => exact ⟨by simp [mnS], by simp [mnS], rfl, fun q hq => State.heap_pushCell_of_lt _ _ hq, fun j hj => absurd hj (Nat.not_lt_zero _)⟩
  | succ i ih =>
    obtain ⟨a1, a2, a3, a4, a5⟩ := ih
    have hl : S.heap.size < (mnS S cA ci i).heap.size := by omega
    have b2 : ((mnS S cA ci i).pushCell (mnI ci)).heap[S.heap.size]? = some (mnO cA S.heap.size i) := (State.heap_pushCell_of_lt _ _ hl).trans a2
    refine ⟨?_, State.heap_setCell_self b2, by simpa [mnS] using a3, fun q hq => ?_, fun j hj => ?_⟩
    · simp [mnS, State.setCell, a1]; omega
    · show (((mnS S cA ci i).pushCell (mnI ci)).setCell S.heap.size _).heap[q]? = _
      rw [State.heap_setCell_other (Nat.ne_of_gt hq), State.heap_pushCell_of_lt _ _ (by omega : q < (mnS S cA ci i).heap.size)]
      exact a4 q hq
    · show (((mnS S cA ci i).pushCell (mnI ci)).setCell S.heap.size _).heap[S.heap.size + 1 + j]? = _
      rw [State.heap_setCell_other (by omega : S.heap.size ≠ S.heap.size + 1 + j)]
      by_cases e : j = i
      · subst e
        rw [← a1]
        exact State.heap_pushCell_size _ _
      · rw [State.heap_pushCell_of_lt _ _ (by omega : S.heap.size + 1 + j < (mnS S cA ci i).heap.size)]
        exact a5 j (by omega)
theorem mnS_top (S : State) (f : JFrame) (cA ci : ClassId) (i : Nat) : mnS (S.setTop f) cA ci i = (mnS S cA ci i).setTop f := by
  induction i with
  | zero => rfl
  | succ i ih => simp only [mnS, ih, State.heap_setTop, State.pushCell_setTop, State.setCell_setTop]
theorem mnO_4 (cA : ClassId) (h : Nat) : mnO cA h 4 = arrV cA 4 (fun j => va_rf (some (h + 1 + j))) := by
  rfl
theorem mnI_a (ci : ClassId) : mnI ci = arrV ci 4096 (fun _ => .int 0) := by
  first | exact arrV_new | exact arrV_new.symm | exact arrV_new _ _ _ | exact (arrV_new _ _ _).symm
section Multi
variable {p : Program} {l : Launch} {e : Env} {R : Room} {s : State} {m : MethodId} {args : Array Value} {below : List Frame} {meth : Method} {c : Code} {locs : List Loc} {cells slots : Nat} {T : State}
theorem mnS_st (X : Stand p l e R s m args below meth c T locs cells slots) (cA ci : ClassId) (i : Nat) : ∃ J : List Loc, (∀ x ∈ J, x.base = T.heap.size) ∧ Stand p l e R s m args below meth c (mnS T cA ci i) (locs ++ J) (cells + (1 + i)) (slots + (4 + 4096 * i)) := by
  induction i with
  | zero =>
    refine ⟨[], (fun x hx => nomatch hx), ?_⟩
    have h := X.pushed (mnO cA T.heap.size 0)
    rw [(mnO_f cA T.heap.size 0).2.2] at h
    rw [List.append_nil]
    exact h
  | succ i ih =>
    obtain ⟨J, hJ, Xi⟩ := ih
    obtain ⟨a1, a2, a3, -⟩ := mnS_f T cA ci i
    have hl : T.heap.size < (mnS T cA ci i).heap.size := by omega
    have h := (Xi.pushed (mnI ci)).stored ((State.heap_pushCell_of_lt _ _ hl).trans a2) i (.ref (T.heap.size + 1 + i))
    rw [show (mnI ci).slots.size = 4096 by simp [mnI]] at h
    refine ⟨J ++ [⟨T.heap.size, i⟩], fun x hx => ?_, ?_⟩
    · rcases List.mem_append.mp hx with q | q
      · exact hJ x q
      · rw [List.mem_singleton.mp q]
    · rw [← List.append_assoc, show cells + (1 + (i + 1)) = cells + (1 + i) + 1 by omega, show slots + (4 + 4096 * (i + 1)) = slots + (4 + 4096 * i) + 4096 by omega]
      exact h
end Multi
section MultiWp
variable {E : CtlPost} {e : Env} {d : Bool} {acts : List Action} {S : State}
/-- one row of bytes -/
theorem mn_one {ci cc : ClassId} {kc : Class} (hk : S.vm.classes[ci]? = some kc) (hkd : kc.kind = .array cc .byte) (hl : ¬ 4096 > e.platform.arrayLengthLimit) (hh : ¬ 4096 * componentBytes .byte > e.platform.maxHeapBytes) (h1 : S.heap.size < e.platform.maxCells) (h2 : S.slotsUsed + 4096 ≤ e.platform.maxSlots) {Q : Addr → Pre} (hq : ∀ acts', Q S.heap.size d acts' (S.pushCell (mnI ci))) : wp (multianewarray.make ci [4096]) Q E e d acts S := by
  rw [multianewarray.make]
  have hn : ¬ (4096 : Int32) < 0 := by decide
  simp only [wp_bind', _root_.Jvm.W.ite, hn, if_false, wp_pure', _root_.Jvm.W.theClass, hk, hkd, Option.some.injEq, exists_eq_left']
  exact _root_.Jvm.W.newArray_of hk hkd hl hh h1 h2 rfl hq
/-- the row of rows, and its four -/
theorem mn_all {cA ci cc : ClassId} {kA kc : Class} (hA : S.vm.classes[cA]? = some kA) (hAd : kA.kind = .array ci (.array .byte)) (hk : S.vm.classes[ci]? = some kc) (hkd : kc.kind = .array cc .byte) (hl : ¬ 4096 > e.platform.arrayLengthLimit) (hh : ¬ 4096 * componentBytes .byte > e.platform.maxHeapBytes) (hl4 : ¬ 4 > e.platform.arrayLengthLimit) (hh4 : ¬ 4 * componentBytes (.array .byte) > e.platform.maxHeapBytes) (h1 : S.heap.size + 5 ≤ e.platform.maxCells) (h2 : S.slotsUsed + 16388 ≤ e.platform.maxSlots) {Q : Addr → Pre} (hq : ∀ d' acts', Q S.heap.size d' acts' (mnS S cA ci 4)) : wp (multianewarray.make cA [4, 4096]) Q E e d acts S := by
  have hus : ∀ i, (mnS S cA ci i).slotsUsed = S.slotsUsed + 4 + 4096 * i := fun i => by
    induction i with
    | zero => simp [mnS, mnO]
    | succ i ih => simp [mnS, ih, mnI]; omega
  rw [multianewarray.make]
  have hn : ¬ (4 : Int32) < 0 := by decide
  have hf : ([4096].find? (fun x : Int32 => decide (x < 0))) = none := by decide
  simp only [wp_bind', _root_.Jvm.W.ite, hn, if_false, wp_pure', _root_.Jvm.W.theClass, hA, hAd, Option.some.injEq, exists_eq_left']
  refine _root_.Jvm.W.newArray_of hA hAd hl4 hh4 (by omega) (by show S.slotsUsed + 4 ≤ _; omega) rfl (fun a1 => ?_)
  simp only [hf]
  rw [ite_self, wp_bind', Std.Legacy.Range.forIn_eq_forIn_range']
  show wp (forIn (List.range' 0 4 1) PUnit.unit _) _ E e d a1 _
  refine wp_forIn_inv (fun rest S' => ∃ i, i ≤ 4 ∧ rest = List.range' i (4 - i) 1 ∧ S' = mnS S cA ci i) _ _ ⟨0, by decide, rfl, rfl⟩ ?_ ?_
  · rintro x rest S' d' acts' Q' ⟨i, hi, hr, rfl⟩ nx
    have hi4 : i < 4 := by
      rcases Nat.lt_or_ge i 4 with h | h
      · exact h
      · rw [show 4 - i = 0 by omega] at hr
        cases hr
    rw [show 4 - i = (4 - (i + 1)) + 1 by omega, List.range'_succ] at hr
    obtain ⟨rfl, hr2⟩ := List.cons.inj hr
    obtain ⟨a2, a3, a4, -⟩ := mnS_f S cA ci x
    obtain ⟨o1, o2, o3⟩ := mnO_f cA S.heap.size x
    simp only [wp_bind']
    refine mn_one (by rw [a4]; exact hk) hkd hl hh (by omega) (by rw [hus]; omega) (fun a5 => ?_)
    simp only [wp_bind', _root_.Jvm.W.writeLoc, wp_pure']
    refine ⟨mnO cA S.heap.size x, (State.heap_pushCell_of_lt _ _ (show S.heap.size < (mnS S cA ci x).heap.size by omega)).trans a3, by rw [o2]; simp, by rw [o3]; exact hi4, ?_, nx _ _ _ ⟨x + 1, hi4, hr2, ?_⟩⟩
    · rw [o1, o2]
      simp [State.fitsSlot, State.slotType?, a4, hA, hAd]
      rfl
    · rw [a2]; rfl
  · rintro S' d' acts' ⟨i, hi, hr, rfl⟩
    have h4 : i = 4 := by
      rcases Nat.lt_or_ge i 4 with h | h
      · rw [show 4 - i = (4 - (i + 1)) + 1 by omega, List.range'_succ] at hr
        cases hr
      · omega
    subst h4
    simp only [wp_pure']
    exact hq _ _
end MultiWp
section MultiRow
variable {p : Program} {l : Launch} {e : Env} {R : Room} {s : State} {m : MethodId} {args : Array Value} {below : List Frame} {meth : Method} {c : Code} {H H0 : Heap} {locs : List Loc} {cells slots : Nat} {Q : State → Prop} {cc : ByteArray} {pc : Nat} {ls : Array Slot} {rest : List Value} {D : va_G} {cl : List vw_C} {tys : List (ClassId × FieldType)} {ws : va_W} {A : Nat → Prop}
theorem mn_W (hexec : p.tables.exec = Jvm.exec) (hb : c.code = cc) {own : String} {index : Nat} (hown : s.vm.findClass own = some m.cls) (hclink : (Cond.classLink own index "[[B").before args s = true) (hover : (Cond.arrayOver (.array .byte)).before args s = true) (harr : (Cond.arrayClass .byte).before args s = true) (hdg : decode cc pc = .ok (.multianewarray index 2, 4)) (hcells : cells + 5 ≤ R.cells) (hslots : slots + 16388 ≤ R.slots)
    (kk : ∀ (cA ci : ClassId) (H1 : Heap), s.vm.findClass "[[B" = some cA → s.vm.findClass "[B" = some ci → ArrOfT s cA (.array .byte) → ArrOfT s ci .byte → H1.size = H.size + 5 → (∀ q : Nat, q < H.size → H1[q]? = H[q]?) → H1[H.size]? = some (arrV cA 4 (fun j => va_rf (some (H.size + 1 + j)))) → (∀ j : Nat, j < 4 → H1[H.size + 1 + j]? = some (arrV ci 4096 (fun _ => .int 0))) →
      W p l e R s m args below meth c H1 locs (cells + 5) (slots + 16388) Q (F0 m (pc + 4) ls (.ref H.size :: rest))) : W p l e R s m args below meth c H locs cells slots Q (F0 m pc ls (.int 4096 :: .int 4 :: rest)) := by
  intro T hT X
  subst hT; subst hb
  have hpl : e.platform.magicAccessors = ({} : Platform).magicAccessors := by rw [X.admits.platform]
  obtain ⟨ci, cA, kA, hci, -, hkA, hkAd, hcA⟩ := arrayOverA_spec hover
  obtain ⟨ci2, kc, cc2, hci2, hkc, hkcd⟩ := Cond.arrayClass_spec harr
  obtain rfl : ci = ci2 := Option.some.inj (hci.symm.trans hci2)
  obtain ⟨c0, hc0, hlk⟩ := Cond.classLink_spec hown hclink e.platform hpl
  obtain rfl : cA = c0 := Option.some.inj (hcA.symm.trans hc0)
  obtain ⟨hg1, hw1, hr1⟩ := State.classEntry (e := e) X.warmed hlk
  generalize T.vm.noted m.cls index (.cls cA) = vm1 at hg1 hw1 hr1
  obtain ⟨kA1, hkA1, eA⟩ := hw1.alike.2.2 _ _ hkA
  obtain ⟨kc1, hkc1, ec⟩ := hw1.alike.2.2 _ _ hkc
  have X1 := X.noted hw1
  obtain ⟨hm1, hm2⟩ := X.roomAbove hcells hslots
  obtain ⟨f1, f2, f3, f4, f5⟩ := mnS_f (T.setVm vm1) cA ci 4
  obtain ⟨J, hJ, X4⟩ := mnS_st X1 cA ci 4
  have X5 := X4.dropFresh (fun x hx => by rw [hJ x hx]; exact X.heapGrown)
  obtain ⟨t, a1, b1⟩ := kk cA ci (mnS (T.setVm vm1) cA ci 4).heap hcA hci (fun N z => ⟨(fun k h => by cases h), kA, hkA, ci, hkAd⟩) (fun N z => ⟨(fun k h => by cases h), kc, hkc, cc2, hkcd⟩) f1 f4 (f2.trans (congrArg some (mnO_4 cA _))) (fun j hj => (f5 j hj).trans (congrArg some (mnI_a ci))) _ rfl X5
  refine ⟨t, ?_, b1⟩
  jvm_step X.here [hexec, hdg]
  simp only [multianewarray.sem, wp_bind', _root_.Jvm.W.resolveClassAt_links (State.method?_setTop (F0 m pc ls (.int 4096 :: .int 4 :: rest)) X.here.top) hg1]
  rw [_root_.Jvm.W.popN, if_neg (by decide)]
  refine ⟨F0 m pc ls (.int 4096 :: .int 4 :: rest), State.topJava?_setTop' (s := T.setVm vm1) _ X.here.top, [.int 4, .int 4096], rest, rfl, rfl, ?_⟩
  simp only [List.mapM_cons, List.mapM_nil, wp_bind', wp_pure']
  refine mn_all (S := ((T.setTop (F0 m pc ls (.int 4096 :: .int 4 :: rest))).setVm vm1).setTop { method := m, pc := pc, locals := ls, stack := rest, locked := none }) (kA := kA1) (kc := kc1) (cc := cc2) hkA1 (by rw [eA]; exact hkAd) hkc1 (by rw [ec]; exact hkcd) (by rw [Launch.admits_arrayLengthLimit X.admits]; omega) (by rw [Launch.admits_maxHeapBytes X.admits]; decide) (by rw [Launch.admits_arrayLengthLimit X.admits]; omega) (by rw [Launch.admits_maxHeapBytes X.admits]; decide) hm1 hm2 (fun d9 acts9 => ?_)
  rw [show ((T.setTop (F0 m pc ls (.int 4096 :: .int 4 :: rest))).setVm vm1).setTop { F0 m pc ls (.int 4096 :: .int 4 :: rest) with stack := rest } = (T.setVm vm1).setTop { F0 m pc ls (.int 4096 :: .int 4 :: rest) with stack := rest } from State.setTop_setTop (T.setVm vm1) _ _, mnS_top]
  simp only [wp_bind', _root_.Jvm.W.mark, _root_.Jvm.W.pushRef, State.topJava?_setTop' _ X4.here.top, Option.some.injEq, exists_eq_left', State.setTop_setTop, State.heap_setTop]
  intro acts
  simp [jvm, X4.here.top]
  exact a1
theorem va_mnew (hexec : p.tables.exec = Jvm.exec) (hb : c.code = cc) {own : String} {index : Nat} (hown : s.vm.findClass own = some m.cls) (hclink : (Cond.classLink own index "[[B").before args s = true) (hover : (Cond.arrayOver (.array .byte)).before args s = true) (harr : (Cond.arrayClass .byte).before args s = true) (hK : va_K D cl tys s) (hP : va_P D cl ws H) (hD : va_D A ws) (hS : va_S A H0 H locs) (hA : ∀ q, H0.size ≤ q → A q) (hcells : cells + 5 ≤ R.cells) (hslots : slots + 16388 ≤ R.slots) (hdg : decode cc pc = .ok (.multianewarray index 2, 4))
    (kk : ∀ (q : Nat) (cA cB : ClassId) (H1 : Heap), va_K D cl (tys ++ [(cA, .array .byte), (cB, .byte)]) s → va_P D cl (ws ++ [(q, .inl (cA, 4, .inr (.inr (.inr (.inr (fun j => some (q + 1 + j))))))), (q + 1 + 0, .inl (cB, 4096, .inl (fun _ => 0))), (q + 1 + 1, .inl (cB, 4096, .inl (fun _ => 0))), (q + 1 + 2, .inl (cB, 4096, .inl (fun _ => 0))), (q + 1 + 3, .inl (cB, 4096, .inl (fun _ => 0)))]) H1 → va_D A (ws ++ [(q, .inl (cA, 4, .inr (.inr (.inr (.inr (fun j => some (q + 1 + j))))))), (q + 1 + 0, .inl (cB, 4096, .inl (fun _ => 0))), (q + 1 + 1, .inl (cB, 4096, .inl (fun _ => 0))), (q + 1 + 2, .inl (cB, 4096, .inl (fun _ => 0))), (q + 1 + 3, .inl (cB, 4096, .inl (fun _ => 0)))]) → va_S A H0 H1 locs →
      W p l e R s m args below meth c H1 locs (cells + 5) (slots + 16388) Q (F0 m (pc + 4) ls (.ref q :: rest))) : W p l e R s m args below meth c H locs cells slots Q (F0 m pc ls (.int 4096 :: .int 4 :: rest)) := by
  refine mn_W hexec hb hown hclink hover harr hdg hcells hslots (fun cA ci H1 n1 n2 t1 t2 z1 o1 e1 e2 => ?_)
  have hk : ∀ (k : Nat) (x : Nat × va_E), ws[k]? = some x → H1[x.1]? = H[x.1]? := fun k x hx => o1 x.1 ((hP k x hx).lt)
  refine kk H.size cA ci H1 ⟨hK.1, fun k x hx => ?_⟩ ((hP.kept hk).app (fun k x hx => ?_)) ⟨fun i j a b hi hj hab => ?_, fun k x hx => ?_⟩ ⟨Nat.le_trans hS.1 (by omega), fun x h1 h2 => (o1 x (Nat.lt_of_lt_of_le h1 hS.1)).trans (hS.2.1 x h1 h2), hS.2.2⟩
  · by_cases hl : k < tys.length
    · rw [List.getElem?_append_left hl] at hx
      exact hK.2 k x hx
    · rw [List.getElem?_append_right (by omega)] at hx
      rcases hz : k - tys.length with _ | _ | z
      · rw [hz] at hx; cases hx; exact ⟨t1, n1⟩
      · rw [hz] at hx; cases hx; exact ⟨t2, n2⟩
      · rw [hz] at hx; cases hx
  · rcases k with _ | _ | _ | _ | _ | k
    · cases hx; exact e1
    · cases hx; exact e2 0 (by decide)
    · cases hx; exact e2 1 (by decide)
    · cases hx; exact e2 2 (by decide)
    · cases hx; exact e2 3 (by decide)
    · cases hx
  · have key : ∀ (k : Nat) (x : Nat × va_E), (ws ++ [(H.size, (.inl (cA, 4, .inr (.inr (.inr (.inr (fun j => some (H.size + 1 + j)))))) : va_E)), (H.size + 1 + 0, .inl (ci, 4096, .inl (fun _ => 0))), (H.size + 1 + 1, .inl (ci, 4096, .inl (fun _ => 0))), (H.size + 1 + 2, .inl (ci, 4096, .inl (fun _ => 0))), (H.size + 1 + 3, .inl (ci, 4096, .inl (fun _ => 0)))])[k]? = some x → (k < ws.length ∧ ws[k]? = some x ∧ x.1 < H.size) ∨ (ws.length ≤ k ∧ x.1 = H.size + (k - ws.length)) := by
      intro k x hk
      by_cases hl : k < ws.length
      · rw [List.getElem?_append_left hl] at hk
        exact Or.inl ⟨hl, hk, (hP k x hk).lt⟩
      · rw [List.getElem?_append_right (by omega)] at hk
        refine Or.inr ⟨by omega, ?_⟩
        rcases hz : k - ws.length with _ | _ | _ | _ | _ | z
        · rw [hz] at hk; cases hk; rfl
        · rw [hz] at hk; cases hk; rfl
        · rw [hz] at hk; cases hk; rfl
        · rw [hz] at hk; cases hk; rfl
        · rw [hz] at hk; cases hk; rfl
        · rw [hz] at hk; cases hk
    rcases key i a hi with ⟨g1, g2, g3⟩ | ⟨g1, g2⟩
    · rcases key j b hj with ⟨k1, k2, k3⟩ | ⟨k1, k2⟩
      · exact hD.1 i j a b g2 k2 hab
      · omega
    · rcases key j b hj with ⟨k1, k2, k3⟩ | ⟨k1, k2⟩
      · omega
      · omega
  · by_cases hl : k < ws.length
    · rw [List.getElem?_append_left hl] at hx
      exact hD.2 k x hx
    · rw [List.getElem?_append_right (by omega)] at hx
      have hz := hS.1
      apply hA
      rcases hq : k - ws.length with _ | _ | _ | _ | _ | z
      · rw [hq] at hx; cases hx; exact hz
      · rw [hq] at hx; cases hx; show H0.size ≤ H.size + 1 + 0; omega
      · rw [hq] at hx; cases hx; show H0.size ≤ H.size + 1 + 1; omega
      · rw [hq] at hx; cases hx; show H0.size ≤ H.size + 1 + 2; omega
      · rw [hq] at hx; cases hx; show H0.size ≤ H.size + 1 + 3; omega
      · rw [hq] at hx; cases hx
end MultiRow
/-- there are rows of rows of bytes -/
def va_AB (U : State) : Prop := (Cond.arrayOver (.array .byte)).before #[] U = true
theorem va_AB.use {a : Array Value} {U : State} (h : va_AB U) : (Cond.arrayOver (.array .byte)).before a U = true := h
theorem va_AB.moved {u U : State} (hvm : u.vm.Alike U.vm) (h : va_AB u) : va_AB U := by
  obtain ⟨ci, cA, k, n1, n2, n3, n4, n5⟩ := arrayOverA_spec h
  obtain ⟨k2, m1, m2⟩ := hvm.2.2 _ _ n3
  have j1 : U.vm.findClass (FieldType.array .byte).toString = some ci := by rw [hvm.findClass]; exact n1
  have j2 : U.vm.findClass ("[" ++ (FieldType.array .byte).toString) = some cA := by rw [hvm.findClass]; exact n5
  have j3 : (U.vm.classes.findIdx? fun (x : Class) => match x.kind with | .array component _ => component == ci | _ => false) = some cA := by
    refine (va_idx_bare U.vm ci).symm.trans ?_
    first | rw [hvm.bare_eq] | rw [← hvm.bare_eq]
    exact (va_idx_bare u.vm ci).trans n2
  have j4 : k2.kind = .array ci (.array .byte) := by rw [m2]; exact n4
  unfold va_AB Cond.before Cond.holds
  simp only [Cond.value]
  rw [j1, Option.bind_some]
  refine (congrArg (fun o : Option Nat => (o.bind (fun c => (U.vm.classes[c]?).map fun (k : Class) => match k.kind with | .array _ ty => decide (ty = FieldType.array .byte) && decide (U.vm.findClass ("[" ++ (FieldType.array .byte).toString) = some c) | _ => false) == some true)) j3).trans ?_
  simp [m1, j4, j2]
abbrev mb (dC : Nat → ClassId) (dI : Nat → Nat → Nat) (ws : va_W) (tys : List (ClassId × FieldType)) (sz : Heap) (U : State) : Prop := mp dC dI ws tys sz U ∧ NW U ∧ va_AB U
theorem mb_blind {dC : Nat → ClassId} {dI : Nat → Nat → Nat} {ws : va_W} {tys : List (ClassId × FieldType)} {sz : Heap} {vs : List Value} : FrameBlind (va_Pc vs (mb dC dI ws tys sz)) := fun a U g mk q => by
  obtain ⟨q0, ⟨q1, qP, qK, qD⟩, qN, qE⟩ := q
  exact ⟨q0, ⟨q1, qP, va_K.moved (u := U) (U := U.calling g mk a) (Vm.Alike.refl U.vm) qK, qD⟩, NW.same (s := U) (U := U.calling g mk a) rfl qN, va_AB.moved (u := U) (U := U.calling g mk a) (Vm.Alike.refl U.vm) qE⟩
