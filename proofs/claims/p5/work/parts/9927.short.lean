theorem z_25 : (.initialized "QueryBench$Selector" : Cond) ∈ gtbl := gt_in 25 (by decide +kernel) (by decide +kernel)
theorem z_44 : (.fieldLink "QueryBench$QueryReader" 91 "QueryBench$Tape" "bytes" "[B" : Cond) ∈ gtbl := gt_in 44 (by decide +kernel) (by decide +kernel)
theorem z_50 : (.fieldLink "QueryBench$QueryReader" 36 "QueryBench$Tape" "end" "I" : Cond) ∈ gtbl := gt_in 50 (by decide +kernel) (by decide +kernel)
theorem z_603 : (.classLink "QueryBench$QueryReader" 77 "QueryBench$Selector" : Cond) ∈ gtbl := gt_in 603 (by decide +kernel) (by decide +kernel)
theorem z_604 : (.instantiable "QueryBench$Selector" 9 : Cond) ∈ gtbl := gt_in 604 (by decide +kernel) (by decide +kernel)
theorem z_605 : (.methodLink "QueryBench$QueryReader" 79 ⟨"QueryBench$Selector", "<init>", "(I)V"⟩ : Cond) ∈ gtbl := gt_in 605 (by decide +kernel) (by decide +kernel)
theorem z_606 : (.instanceMethod ⟨"QueryBench$Selector", "<init>", "(I)V"⟩ : Cond) ∈ gtbl := gt_in 606 (by decide +kernel) (by decide +kernel)
theorem z_613 : (.fieldLink "QueryBench$QueryReader" 87 "QueryBench$Selector" "name" "[I" : Cond) ∈ gtbl := gt_in 613 (by decide +kernel) (by decide +kernel)
theorem z_793 : (.methodLink "QueryBench$QueryReader" 81 ⟨"QueryBench$QueryReader", "isNameByte", "(I)Z"⟩ : Cond) ∈ gtbl := gt_in 793 (by decide +kernel) (by decide +kernel)
theorem z_794 : (.static ⟨"QueryBench$QueryReader", "isNameByte", "(I)Z"⟩ : Cond) ∈ gtbl := gt_in 794 (by decide +kernel) (by decide +kernel)
/-- new objects for every choice of levels: from bd on the newest may have the level that is asked for -/
def QX (cI cV : ClassId) (E : Nat → Nat) (L : List Nat) (f : Nat → va_E) (i n p z : Nat) (N : List Nat) (E' : Nat → Nat) (f' : Nat → va_E) (bd : Nat) (R : Nat → (Nat → Nat) → Prop) : Prop := ∀ lv : Nat → Nat, PO cI cV E lv L f → ∀ b : Nat, bd ≤ b → ∃ lv' : Nat → Nat, QG cI cV E lv L f i n p z N E' lv' f' ∧ R b lv'
/-- r is new, of sort s -/
def QPn (cI cV : ClassId) (E : Nat → Nat) (L : List Nat) (f : Nat → va_E) (i n z s bd dm r p : Nat) (N : List Nat) (E' : Nat → Nat) (f' : Nat → va_E) : Prop := E r = 0 ∧ E' r = s ∧ i + dm ≤ p ∧ p ≤ n ∧ QX cI cV E L f i n p z N E' f' bd (fun b lv' => lv' r = b)
/-- a chain from x to y, all of sort s and of one level -/
def CI (cI cV : ClassId) (E : Nat → Nat) (L : List Nat) (f : Nat → va_E) (i n z s bd x y p : Nat) (N : List Nat) (E' : Nat → Nat) (f' : Nat → va_E) : Prop := E x = 0 ∧ E y = 0 ∧ E' x = s ∧ E' y = s ∧ p ≤ n ∧ QX cI cV E L f i n p z N E' f' bd (fun b lv' => lv' x = b ∧ lv' y = b)
/-- a query's segments -/
def QQ (cI cV : ClassId) (E : Nat → Nat) (L : List Nat) (f : Nat → va_E) (i n z bd : Nat) (x y : Option Nat) (p : Nat) (N : List Nat) (E' : Nat → Nat) (f' : Nat → va_E) : Prop := oR (fun a => E a = 0 ∧ E' a = 8) x ∧ oR (fun a => E a = 0 ∧ E' a = 8) y ∧ p ≤ n ∧ QX cI cV E L f i n p z N E' f' bd (fun b lv' => oR (fun a => lv' a = b) x ∧ oR (fun a => lv' a = b) y)
section QPs
variable {cI cV : ClassId} {E lv E1 lv1 E2 E3 lv2 : Nat → Nat} {L N N2 N3 : List Nat} {f f1 f2 f3 : Nat → va_E} {i n p p1 p2 z9 z2 s bd bd2 dm r x9 y9 v : Nat} {R : Nat → (Nat → Nat) → Prop}
theorem QG.lve (h : QG cI cV E lv L f i n p z9 N E1 lv1 f1) : ∀ a, E a ≠ 0 → lv1 a = lv a := h.2.2.2.2.1
theorem QG.ge (h : QG cI cV E lv L f i n p z9 N E1 lv1 f1) (ha : E r = 0) (hb : E1 r ≠ 0) : z9 ≤ r := h.2.2.2.2.2.2.2 r ha hb
theorem QX.g (h : QX cI cV E L f i n p z9 N E1 f1 bd R) (hO : PO cI cV E lv L f) : ∃ lv', QG cI cV E lv L f i n p z9 N E1 lv' f1 := by
  obtain ⟨lv', g, -⟩ := h lv hO bd (Nat.le_refl _)
  exact ⟨lv', g⟩
theorem QPn.x (h : QPn cI cV E L f i n z9 s bd dm r p N E1 f1) : QX cI cV E L f i n p z9 N E1 f1 bd (fun b lv' => lv' r = b) := h.2.2.2.2
theorem QPn.num (h : QPn cI cV E L f i n z9 s bd dm r p N E1 f1) : i + dm ≤ p ∧ p ≤ n := ⟨h.2.2.1, h.2.2.2.1⟩
theorem QPn.new (h : QPn cI cV E L f i n z9 s bd dm r p N E1 f1) : E r = 0 := h.1
theorem QPn.so (h : QPn cI cV E L f i n z9 s bd dm r p N E1 f1) : E1 r = s := h.2.1
theorem CI.x (h : CI cI cV E L f i n z9 s bd x9 y9 p N E1 f1) : QX cI cV E L f i n p z9 N E1 f1 bd (fun b lv' => lv' x9 = b ∧ lv' y9 = b) := h.2.2.2.2.2
theorem CI.le (h : CI cI cV E L f i n z9 s bd x9 y9 p N E1 f1) : p ≤ n := h.2.2.2.2.1
theorem EX.z (h : EX E E1) (ha : E1 r = 0) : E r = 0 := Classical.byContradiction fun q => q (by rw [← h r q]; exact ha)
end QPs
theorem pl_on {L : List Nat} {f g : Nat → va_E} (h : ∀ a, a ∈ L → g a = f a) : va_pl L g = va_pl L f := by
  unfold va_pl
  apply List.map_congr_left
  intro b hb
  rw [h b hb]
theorem plP_cut {D : va_G} {cl : List vw_C} {X : va_W} {L N : List Nat} {f g : Nat → va_E} {H : Heap} (hP : va_P D cl (X ++ va_pl (L ++ N) g) H) (h : ∀ a, a ∈ L → g a = f a) : va_P D cl (X ++ va_pl L f) H := by
  have h1 := plP_pre hP
  rw [pl_on h] at h1
  exact h1
theorem plD_cut {A : Nat → Prop} {X : va_W} {L N : List Nat} {f g : Nat → va_E} (hD : va_D A (X ++ va_pl (L ++ N) g)) (h : ∀ a, a ∈ L → g a = f a) : va_D A (X ++ va_pl L f) := by
  have h1 := plD_pre hD
  rw [pl_on h] at h1
  exact h1
/-- a new cell lies behind all that was there at the start, the pool may have grown -/
theorem newB {A : Nat → Prop} {X0 X : va_W} {L N : List Nat} {f g : Nat → va_E} {z q : Nat} {e : va_E} (hA : va_A (X0 ++ va_pl L f) z = A) (hD : va_D A ((X ++ va_pl (L ++ N) g) ++ [(q, e)])) (hs : ∀ (k : Nat) (x : Nat × va_E), X0[k]? = some x → ∃ (j : Nat) (y : va_E), X[j]? = some (x.1, y)) : z ≤ q := by
  refine newA hA hD (fun k x hk => ?_)
  by_cases hl : k < X0.length
  · rw [List.getElem?_append_left hl] at hk
    obtain ⟨j, y, hj⟩ := hs k x hk
    exact ⟨j, y, by rw [List.getElem?_append_left (List.getElem?_eq_some_iff.mp hj).1]; exact hj⟩
  · rw [List.getElem?_append_right (by omega)] at hk
    have hm : x.1 ∈ L := by
      have h1 := List.mem_of_getElem? hk
      unfold va_pl at h1
      obtain ⟨a, ha, e⟩ := List.mem_map.mp h1
      rw [← e]; exact ha
    obtain ⟨j, hj⟩ := va_pl_get (X := X) (L := L ++ N) (f := g) (List.mem_append_left _ hm)
    exact ⟨j, _, hj⟩
theorem lE_inj {kd kd' : Int32} {nm nm' : Option Nat} {hs hs' ht ht' : Int32} {st st' sp sp' se se' : Int64} {fl fl' nx nx' : Option Nat} (h : lE kd nm hs ht st sp se fl nx = lE kd' nm' hs' ht' st' sp' se' fl' nx') : kd = kd' ∧ nm = nm' ∧ se = se' ∧ fl = fl' ∧ nx = nx' := by
  have h1 := congrArg Prod.snd (Sum.inr.inj h)
  simp only [List.cons.injEq, Value.int.injEq, Value.long.injEq, and_true] at h1
  obtain ⟨a1, a2, a3, a4, a5, a6, a7, a8, a9⟩ := h1
  exact ⟨a1, rf_inj a2, a7, rf_inj a8, rf_inj a9⟩
theorem kE_inj {kd kd' : Int32} {fi fi' nx nx' qu qu' le le' ri ri' : Option Nat} (h : kE kd fi nx qu le ri = kE kd' fi' nx' qu' le' ri') : kd = kd' ∧ fi = fi' ∧ nx = nx' ∧ qu = qu' ∧ le = le' ∧ ri = ri' := by
  have h1 := congrArg Prod.snd (Sum.inr.inj h)
  simp only [List.cons.injEq, Value.int.injEq, and_true] at h1
  obtain ⟨a1, a2, a3, a4, a5, a6⟩ := h1
  exact ⟨a1, rf_inj a2, rf_inj a3, rf_inj a4, rf_inj a5, rf_inj a6⟩
theorem gE_inj {ds ds' : Int32} {fi fi' nx nx' : Option Nat} (h : gE ds fi nx = gE ds' fi' nx') : ds = ds' ∧ fi = fi' ∧ nx = nx' := by
  have h1 := congrArg Prod.snd (Sum.inr.inj h)
  simp only [List.cons.injEq, Value.int.injEq, and_true] at h1
  obtain ⟨a1, a2, a3⟩ := h1
  exact ⟨a1, rf_inj a2, rf_inj a3⟩
section Cells3
variable {cI cV : ClassId} {E lv : Nat → Nat} {L : List Nat} {f : Nat → va_E} {a : Nat}
theorem PO.selE (h : PO cI cV E lv L f) (ha : E a = 9) {kd : Int32} {nm : Option Nat} {hs ht : Int32} {st sp se : Int64} {fl nx : Option Nat} (ef : f a = lE kd nm hs ht st sp se fl nx) : LO E lv a kd nm se fl nx := by
  obtain ⟨kd', nm', hs', ht', st', sp', se', fl', nx', e1, e2⟩ := h.sel ha
  obtain ⟨x1, x2, x3, x4, x5⟩ := lE_inj (ef.symm.trans e1)
  subst x1; subst x2; subst x3; subst x4; subst x5
  exact e2
theorem PO.conE (h : PO cI cV E lv L f) (ha : E a = 10) {kd : Int32} {fi nx qu le ri : Option Nat} (ef : f a = kE kd fi nx qu le ri) : KO E lv a kd fi nx qu le ri := by
  obtain ⟨kd', fi', nx', qu', le', ri', e1, e2⟩ := h.con ha
  obtain ⟨x1, x2, x3, x4, x5, x6⟩ := kE_inj (ef.symm.trans e1)
  subst x1; subst x2; subst x3; subst x4; subst x5; subst x6
  exact e2
theorem PO.segE (h : PO cI cV E lv L f) (ha : E a = 8) {ds : Int32} {fi nx : Option Nat} (ef : f a = gE ds fi nx) : GO E lv a fi nx := by
  obtain ⟨ds', fi', nx', e1, e2⟩ := h.seg ha
  obtain ⟨x1, x2, x3⟩ := gE_inj (ef.symm.trans e1)
  subst x2; subst x3
  exact e2
end Cells3
section Chains
variable {cI cV : ClassId} {E E1 E3 : Nat → Nat} {L N N3 : List Nat} {f f1 f3 : Nat → va_E} {i n p p1 p3 z9 z2 s bd bd2 dm r x9 y9 v : Nat}
theorem CI.start (h : QPn cI cV E L f i n z9 s bd dm r p N E1 f1) : CI cI cV E L f i n z9 s bd r r p N E1 f1 := ⟨h.1, h.1, h.2.1, h.2.1, h.2.2.2.1, fun lv hO b hb => by
  obtain ⟨lv', g, e⟩ := h.x lv hO b hb
  exact ⟨lv', g, e, e⟩⟩
theorem CI.lower (h : CI cI cV E L f i n z9 s bd x9 y9 p N E1 f1) (hb : bd ≤ bd2) : CI cI cV E L f i n z9 s bd2 x9 y9 p N E1 f1 := ⟨h.1, h.2.1, h.2.2.1, h.2.2.2.1, h.2.2.2.2.1, fun lv hO b h1 => h.x lv hO b (Nat.le_trans hb h1)⟩
theorem CI.mv (h : CI cI cV E L f i n z9 s bd x9 y9 p N E1 f1) (h1 : p ≤ p1) (h2 : p1 ≤ n) : CI cI cV E L f i n z9 s bd x9 y9 p1 N E1 f1 := ⟨h.1, h.2.1, h.2.2.1, h.2.2.2.1, h2, fun lv hO b h3 => by
  obtain ⟨lv', g, e⟩ := h.x lv hO b h3
  exact ⟨lv', g.mv h1 h2, e⟩⟩
theorem QPn.mv (h : QPn cI cV E L f i n z9 s bd dm r p N E1 f1) (h1 : p ≤ p1) (h2 : p1 ≤ n) : QPn cI cV E L f i n z9 s bd dm r p1 N E1 f1 := ⟨h.1, h.2.1, Nat.le_trans h.2.2.1 h1, h2, fun lv hO b h3 => by
  obtain ⟨lv', g, e⟩ := h.x lv hO b h3
  exact ⟨lv', g.mv h1 h2, e⟩⟩
/-- a method that answers what another has answered, from a later place on -/
theorem QPn.up {i1 dm2 : Nat} (h : QPn cI cV E (L ++ []) f i1 n z2 s bd dm r p N E1 f1) (hi : i ≤ i1) (hin : i1 ≤ n) (hz : z9 ≤ z2) (hb : bd ≤ bd2) (hd : i + dm2 ≤ i1 + dm) : QPn cI cV E L f i n z9 s bd2 dm2 r p ([] ++ N) E1 f1 := ⟨h.1, h.2.1, Nat.le_trans hd h.2.2.1, h.2.2.2.1, fun lv hO b h3 => by
  have g0 : QG cI cV E lv L f i n i1 z9 [] E lv f := (QG.rf hO (Nat.le_trans hi hin)).mv hi hin
  obtain ⟨lv', g, e⟩ := h.x lv g0.po b (Nat.le_trans hb h3)
  exact ⟨lv', g0.tr g hz, e⟩⟩
theorem CI.qp (h : CI cI cV E L f i n z9 s bd x9 y9 p N E1 f1) (hd : i + dm ≤ p) : QPn cI cV E L f i n z9 s bd dm x9 p N E1 f1 := ⟨h.1, h.2.2.1, hd, h.2.2.2.2.1, fun lv hO b h3 => by
  obtain ⟨lv', g, e⟩ := h.x lv hO b h3
  exact ⟨lv', g, e.1⟩⟩
/-- the chain goes on -/
theorem CI.next9 (h : CI cI cV E L f i n z9 9 bd x9 y9 p N E1 f1) (hE1 : EX E E1) (hq : QPn cI cV E1 (L ++ N) f1 p1 n z2 9 bd2 dm v p3 N3 E3 f3) (h1 : p ≤ p1) (h2 : p1 ≤ n) (hz : z9 ≤ z2) (hy : y9 < z2) (hb : bd2 ≤ bd) {kd : Int32} {nm : Option Nat} {hs ht : Int32} {st sp se : Int64} {fl nx : Option Nat} (hyL : y9 ∉ L) (ef : f3 y9 = lE kd nm hs ht st sp se fl nx) (hE3 : EX E1 E3) : CI cI cV E L f i n z9 9 bd x9 v p3 (N ++ N3) E3 (va_up f3 y9 (lE kd nm hs ht st sp se fl (some v))) := by
  have hx1 : E1 x9 = 9 := h.2.2.1
  have hy1 : E1 y9 = 9 := h.2.2.2.1
  refine ⟨h.1, hE1.z hq.1, (hE3 x9 (by rw [hx1]; decide)).trans hx1, hq.2.1, hq.2.2.2.1, fun lv hO b hb9 => ?_⟩
  obtain ⟨lv1, g1, a1, a2⟩ := h.x lv hO b hb9
  have g1 := g1.mv h1 h2
  obtain ⟨lv2, g2, c⟩ := hq.x lv1 g1.po b (Nat.le_trans hb hb9)
  have g := g1.tr g2 hz
  have hy3 : E3 y9 = 9 := (hE3 y9 (by rw [hy1]; decide)).trans hy1
  have e1 : lv2 x9 = b := (g2.lve x9 (by rw [hx1]; decide)).trans a1
  have e2 : lv2 y9 = b := (g2.lve y9 (by rw [hy1]; decide)).trans a2
  have hl := g.po.selE hy3 ef
  have hv : z2 ≤ v := g2.ge hq.1 (by rw [hq.2.1]; decide)
  have hn : oR (fun b9 => E3 b9 = 9 ∧ lv2 b9 ≤ lv2 y9 ∧ y9 < b9) (some v) := fun b9 h9 => by
    cases h9
    exact ⟨hq.2.1, by rw [show lv2 v = b from c, e2]; exact Nat.le_refl _, by omega⟩
  exact ⟨lv2, g.upd hyL (CO.L hy3 ⟨_, _, _, _, _, _, _, _, _, rfl, hl.1, hl.2.1, hn, hl.2.2.2⟩), e1, c⟩
theorem CI.next10 (h : CI cI cV E L f i n z9 10 bd x9 y9 p N E1 f1) (hE1 : EX E E1) (hq : QPn cI cV E1 (L ++ N) f1 p1 n z2 10 bd2 dm v p3 N3 E3 f3) (h1 : p ≤ p1) (h2 : p1 ≤ n) (hz : z9 ≤ z2) (hy : y9 < z2) (hb : bd2 ≤ bd) {kd : Int32} {fi nx qu le ri : Option Nat} (hyL : y9 ∉ L) (ef : f3 y9 = kE kd fi nx qu le ri) (hE3 : EX E1 E3) : CI cI cV E L f i n z9 10 bd x9 v p3 (N ++ N3) E3 (va_up f3 y9 (kE kd fi (some v) qu le ri)) := by
  have hx1 : E1 x9 = 10 := h.2.2.1
  have hy1 : E1 y9 = 10 := h.2.2.2.1
  refine ⟨h.1, hE1.z hq.1, (hE3 x9 (by rw [hx1]; decide)).trans hx1, hq.2.1, hq.2.2.2.1, fun lv hO b hb9 => ?_⟩
  obtain ⟨lv1, g1, a1, a2⟩ := h.x lv hO b hb9
  have g1 := g1.mv h1 h2
  obtain ⟨lv2, g2, c⟩ := hq.x lv1 g1.po b (Nat.le_trans hb hb9)
  have g := g1.tr g2 hz
  have hy3 : E3 y9 = 10 := (hE3 y9 (by rw [hy1]; decide)).trans hy1
  have e1 : lv2 x9 = b := (g2.lve x9 (by rw [hx1]; decide)).trans a1
  have e2 : lv2 y9 = b := (g2.lve y9 (by rw [hy1]; decide)).trans a2
  have hl := g.po.conE hy3 ef
  have hv : z2 ≤ v := g2.ge hq.1 (by rw [hq.2.1]; decide)
  have hn : oR (fun b9 => E3 b9 = 10 ∧ lv2 b9 ≤ lv2 y9 ∧ y9 < b9) (some v) := fun b9 h9 => by
    cases h9
    exact ⟨hq.2.1, by rw [show lv2 v = b from c, e2]; exact Nat.le_refl _, by omega⟩
  exact ⟨lv2, g.upd hyL (CO.K hy3 ⟨_, _, _, _, _, _, rfl, hl.1, hn, hl.2.2⟩), e1, c⟩
theorem QQ.x {x9 y9 : Option Nat} (h : QQ cI cV E L f i n z9 bd x9 y9 p N E1 f1) : QX cI cV E L f i n p z9 N E1 f1 bd (fun b lv' => oR (fun a => lv' a = b) x9 ∧ oR (fun a => lv' a = b) y9) := h.2.2.2
theorem QQ.start (hin : p ≤ n) (hip : i ≤ p) : QQ cI cV E L f i n z9 bd none none p [] E f := ⟨fun b h => (nomatch h), fun b h => (nomatch h), hin, fun lv hO b _ => ⟨lv, (QG.rf hO (Nat.le_trans hip hin)).mv hip hin, fun b h => (nomatch h), fun b h => (nomatch h)⟩⟩
theorem QQ.mv {x9 y9 : Option Nat} (h : QQ cI cV E L f i n z9 bd x9 y9 p N E1 f1) (h1 : p ≤ p1) (h2 : p1 ≤ n) : QQ cI cV E L f i n z9 bd x9 y9 p1 N E1 f1 := ⟨h.1, h.2.1, h2, fun lv hO b h3 => by
  obtain ⟨lv', g, e⟩ := h.x lv hO b h3
  exact ⟨lv', g.mv h1 h2, e⟩⟩
/-- a segment more -/
theorem QQ.next {x9 y9 x2 : Option Nat} {f4 : Nat → va_E} (h : QQ cI cV E L f i n z9 bd x9 y9 p N E1 f1) (hE1 : EX E E1) (hq : QPn cI cV E1 (L ++ N) f1 p1 n z2 8 bd2 dm v p3 N3 E3 f3) (h1 : p ≤ p1) (h2 : p1 ≤ n) (hz : z9 ≤ z2) (hy : ∀ a, y9 = some a → a < z2 ∧ a ∉ L) (hb : bd2 ≤ bd) (hE3 : EX E1 E3) (hf : (y9 = none → x2 = some v ∧ f4 = f3) ∧ (y9 ≠ none → x2 = x9)) (hf4 : ∀ a, y9 = some a → ∃ ds fi nx, f3 a = gE ds fi nx ∧ f4 = va_up f3 a (gE ds fi (some v))) : QQ cI cV E L f i n z9 bd x2 (some v) p3 (N ++ N3) E3 f4 := by
  have hv0 : E v = 0 := hE1.z hq.1
  have hx2 : oR (fun a => E a = 0 ∧ E3 a = 8) x2 := by
    cases hyo : y9 with
    | none =>
      rw [(hf.1 hyo).1]
      intro a ha
      cases ha
      exact ⟨hv0, hq.2.1⟩
    | some a0 =>
      rw [hf.2 (by rw [hyo]; exact fun h => by cases h)]
      exact h.1.mono (fun a ha => ⟨ha.1, (hE3 a (by rw [ha.2]; decide)).trans ha.2⟩)
  refine ⟨hx2, (fun a ha => by cases ha; exact ⟨hv0, hq.2.1⟩), hq.2.2.2.1, fun lv hO b hb9 => ?_⟩
  obtain ⟨lv1, g1, a1, a2⟩ := h.x lv hO b hb9
  have g1 := g1.mv h1 h2
  obtain ⟨lv2, g2, c⟩ := hq.x lv1 g1.po b (Nat.le_trans hb hb9)
  have g := g1.tr g2 hz
  have hc : oR (fun a => lv2 a = b) (some v) := fun a ha => by cases ha; exact c
  cases hyo : y9 with
  | none =>
    obtain ⟨e1, e2⟩ := hf.1 hyo
    subst e1; subst e2
    exact ⟨lv2, g, hc, hc⟩
  | some a0 =>
    obtain ⟨ds, fi, nx, ef, e4⟩ := hf4 a0 hyo
    rw [hf.2 (by rw [hyo]; exact fun h => by cases h), e4]
    have hy1 : E1 a0 = 8 := (h.2.1 a0 hyo).2
    have hy3 : E3 a0 = 8 := (hE3 a0 (by rw [hy1]; decide)).trans hy1
    have hl := g.po.segE hy3 ef
    have hv : z2 ≤ v := g2.ge hq.1 (by rw [hq.2.1]; decide)
    have e2 : lv2 a0 = b := (g2.lve a0 (by rw [hy1]; decide)).trans (a2 a0 hyo)
    refine ⟨lv2, g.upd (hy a0 hyo).2 (CO.G hy3 ⟨_, _, _, rfl, hl.1, fun b9 h9 => ?_⟩), (fun a ha => (g2.lve a (by rw [(h.1 a ha).2]; decide)).trans (a1 a ha)), hc⟩
    cases h9
    exact ⟨hq.2.1, by rw [show lv2 v = b from c, e2]; exact Nat.le_refl _, Nat.lt_of_lt_of_le (hy a0 hyo).1 hv⟩
end Chains

abbrev b_QueryReader_shortSelector : ByteArray := prog_7_method_5_code
def y_QueryReader_shortSelector : MethodName := ⟨"QueryBench$QueryReader", "shortSelector", "(Z)LQueryBench$Selector;"⟩
abbrev k_QueryReader_shortSelector : Cond := .code y_QueryReader_shortSelector b_QueryReader_shortSelector 5 (some (.object "QueryBench$Selector"))
theorem i_QueryReader_shortSelector : k_QueryReader_shortSelector ∈ gtbl := gt_in 792 (by decide +kernel) (by decide +kernel)
theorem d_QueryReader_shortSelector_0 : decode b_QueryReader_shortSelector 0 = .ok (.iload_n 1, 1) := by decide +kernel
theorem d_QueryReader_shortSelector_1 : decode b_QueryReader_shortSelector 1 = .ok (.ifCond .ne 24, 3) := by decide +kernel
theorem d_QueryReader_shortSelector_4 : decode b_QueryReader_shortSelector 4 = .ok (.aload_n 0, 1) := by decide +kernel
theorem d_QueryReader_shortSelector_5 : decode b_QueryReader_shortSelector 5 = .ok (.getfield 9, 3) := by decide +kernel
theorem d_QueryReader_shortSelector_8 : decode b_QueryReader_shortSelector 8 = .ok (.bipush 42, 2) := by decide +kernel
theorem d_QueryReader_shortSelector_10 : decode b_QueryReader_shortSelector 10 = .ok (.invokevirtual 58, 3) := by decide +kernel
theorem d_QueryReader_shortSelector_13 : decode b_QueryReader_shortSelector 13 = .ok (.ifCond .eq 12, 3) := by decide +kernel
theorem d_QueryReader_shortSelector_16 : decode b_QueryReader_shortSelector 16 = .ok (.new 77, 3) := by decide +kernel
theorem d_QueryReader_shortSelector_19 : decode b_QueryReader_shortSelector 19 = .ok (.dup, 1) := by decide +kernel
theorem d_QueryReader_shortSelector_20 : decode b_QueryReader_shortSelector 20 = .ok (.iconst 1, 1) := by decide +kernel
theorem d_QueryReader_shortSelector_21 : decode b_QueryReader_shortSelector 21 = .ok (.invokespecial 79, 3) := by decide +kernel
theorem d_QueryReader_shortSelector_24 : decode b_QueryReader_shortSelector 24 = .ok (.areturn, 1) := by decide +kernel
theorem d_QueryReader_shortSelector_25 : decode b_QueryReader_shortSelector 25 = .ok (.new 77, 3) := by decide +kernel
theorem d_QueryReader_shortSelector_28 : decode b_QueryReader_shortSelector 28 = .ok (.dup, 1) := by decide +kernel
theorem d_QueryReader_shortSelector_29 : decode b_QueryReader_shortSelector 29 = .ok (.iconst 0, 1) := by decide +kernel
theorem d_QueryReader_shortSelector_30 : decode b_QueryReader_shortSelector 30 = .ok (.invokespecial 79, 3) := by decide +kernel
theorem d_QueryReader_shortSelector_33 : decode b_QueryReader_shortSelector 33 = .ok (.astore_n 2, 1) := by decide +kernel
theorem d_QueryReader_shortSelector_34 : decode b_QueryReader_shortSelector 34 = .ok (.aload_n 0, 1) := by decide +kernel
theorem d_QueryReader_shortSelector_35 : decode b_QueryReader_shortSelector 35 = .ok (.getfield 9, 3) := by decide +kernel
theorem d_QueryReader_shortSelector_38 : decode b_QueryReader_shortSelector 38 = .ok (.getfield 25, 3) := by decide +kernel
theorem d_QueryReader_shortSelector_41 : decode b_QueryReader_shortSelector 41 = .ok (.istore_n 3, 1) := by decide +kernel
theorem d_QueryReader_shortSelector_42 : decode b_QueryReader_shortSelector 42 = .ok (.aload_n 0, 1) := by decide +kernel
theorem d_QueryReader_shortSelector_43 : decode b_QueryReader_shortSelector 43 = .ok (.getfield 9, 3) := by decide +kernel
theorem d_QueryReader_shortSelector_46 : decode b_QueryReader_shortSelector 46 = .ok (.invokevirtual 19, 3) := by decide +kernel
theorem d_QueryReader_shortSelector_49 : decode b_QueryReader_shortSelector 49 = .ok (.invokestatic 81, 3) := by decide +kernel
theorem d_QueryReader_shortSelector_52 : decode b_QueryReader_shortSelector 52 = .ok (.ifCond .eq 16, 3) := by decide +kernel
theorem d_QueryReader_shortSelector_55 : decode b_QueryReader_shortSelector 55 = .ok (.aload_n 0, 1) := by decide +kernel
theorem d_QueryReader_shortSelector_56 : decode b_QueryReader_shortSelector 56 = .ok (.getfield 9, 3) := by decide +kernel
theorem d_QueryReader_shortSelector_59 : decode b_QueryReader_shortSelector 59 = .ok (.invokevirtual 19, 3) := by decide +kernel
theorem d_QueryReader_shortSelector_62 : decode b_QueryReader_shortSelector 62 = .ok (.invokestatic 84, 3) := by decide +kernel
theorem d_QueryReader_shortSelector_65 : decode b_QueryReader_shortSelector 65 = .ok (.ifCond .eq 11, 3) := by decide +kernel
theorem d_QueryReader_shortSelector_68 : decode b_QueryReader_shortSelector 68 = .ok (.aload_n 0, 1) := by decide +kernel
theorem d_QueryReader_shortSelector_69 : decode b_QueryReader_shortSelector 69 = .ok (.getfield 9, 3) := by decide +kernel
theorem d_QueryReader_shortSelector_72 : decode b_QueryReader_shortSelector 72 = .ok (.iload_n 3, 1) := by decide +kernel
theorem d_QueryReader_shortSelector_73 : decode b_QueryReader_shortSelector 73 = .ok (.invokevirtual 28, 3) := by decide +kernel
theorem d_QueryReader_shortSelector_76 : decode b_QueryReader_shortSelector 76 = .ok (.aload_n 0, 1) := by decide +kernel
theorem d_QueryReader_shortSelector_77 : decode b_QueryReader_shortSelector 77 = .ok (.getfield 9, 3) := by decide +kernel
theorem d_QueryReader_shortSelector_80 : decode b_QueryReader_shortSelector 80 = .ok (.getfield 25, 3) := by decide +kernel
theorem d_QueryReader_shortSelector_83 : decode b_QueryReader_shortSelector 83 = .ok (.aload_n 0, 1) := by decide +kernel
theorem d_QueryReader_shortSelector_84 : decode b_QueryReader_shortSelector 84 = .ok (.getfield 9, 3) := by decide +kernel
theorem d_QueryReader_shortSelector_87 : decode b_QueryReader_shortSelector 87 = .ok (.getfield 36, 3) := by decide +kernel
theorem d_QueryReader_shortSelector_90 : decode b_QueryReader_shortSelector 90 = .ok (.if_icmp .ge 32, 3) := by decide +kernel
theorem d_QueryReader_shortSelector_93 : decode b_QueryReader_shortSelector 93 = .ok (.aload_n 0, 1) := by decide +kernel
theorem d_QueryReader_shortSelector_94 : decode b_QueryReader_shortSelector 94 = .ok (.getfield 9, 3) := by decide +kernel
theorem d_QueryReader_shortSelector_97 : decode b_QueryReader_shortSelector 97 = .ok (.invokevirtual 19, 3) := by decide +kernel
theorem d_QueryReader_shortSelector_100 : decode b_QueryReader_shortSelector 100 = .ok (.invokestatic 81, 3) := by decide +kernel
theorem d_QueryReader_shortSelector_103 : decode b_QueryReader_shortSelector 103 = .ok (.ifCond .eq 19, 3) := by decide +kernel
theorem d_QueryReader_shortSelector_106 : decode b_QueryReader_shortSelector 106 = .ok (.aload_n 0, 1) := by decide +kernel
theorem d_QueryReader_shortSelector_107 : decode b_QueryReader_shortSelector 107 = .ok (.getfield 9, 3) := by decide +kernel
theorem d_QueryReader_shortSelector_110 : decode b_QueryReader_shortSelector 110 = .ok (.dup, 1) := by decide +kernel
theorem d_QueryReader_shortSelector_111 : decode b_QueryReader_shortSelector 111 = .ok (.getfield 25, 3) := by decide +kernel
theorem d_QueryReader_shortSelector_114 : decode b_QueryReader_shortSelector 114 = .ok (.iconst 1, 1) := by decide +kernel
theorem d_QueryReader_shortSelector_115 : decode b_QueryReader_shortSelector 115 = .ok (.iadd, 1) := by decide +kernel
theorem d_QueryReader_shortSelector_116 : decode b_QueryReader_shortSelector 116 = .ok (.putfield 25, 3) := by decide +kernel
theorem d_QueryReader_shortSelector_119 : decode b_QueryReader_shortSelector 119 = .ok (.goto (-43), 3) := by decide +kernel
theorem d_QueryReader_shortSelector_122 : decode b_QueryReader_shortSelector 122 = .ok (.aload_n 2, 1) := by decide +kernel
theorem d_QueryReader_shortSelector_123 : decode b_QueryReader_shortSelector 123 = .ok (.aload_n 0, 1) := by decide +kernel
theorem d_QueryReader_shortSelector_124 : decode b_QueryReader_shortSelector 124 = .ok (.getfield 9, 3) := by decide +kernel
theorem d_QueryReader_shortSelector_127 : decode b_QueryReader_shortSelector 127 = .ok (.getfield 25, 3) := by decide +kernel
theorem d_QueryReader_shortSelector_130 : decode b_QueryReader_shortSelector 130 = .ok (.iload_n 3, 1) := by decide +kernel
theorem d_QueryReader_shortSelector_131 : decode b_QueryReader_shortSelector 131 = .ok (.isub, 1) := by decide +kernel
theorem d_QueryReader_shortSelector_132 : decode b_QueryReader_shortSelector 132 = .ok (.newarray .int, 2) := by decide +kernel
theorem d_QueryReader_shortSelector_134 : decode b_QueryReader_shortSelector 134 = .ok (.putfield 87, 3) := by decide +kernel
theorem d_QueryReader_shortSelector_137 : decode b_QueryReader_shortSelector 137 = .ok (.iconst 0, 1) := by decide +kernel
theorem d_QueryReader_shortSelector_138 : decode b_QueryReader_shortSelector 138 = .ok (.istore 4, 2) := by decide +kernel
theorem d_QueryReader_shortSelector_140 : decode b_QueryReader_shortSelector 140 = .ok (.iload 4, 2) := by decide +kernel
theorem d_QueryReader_shortSelector_142 : decode b_QueryReader_shortSelector 142 = .ok (.aload_n 2, 1) := by decide +kernel
theorem d_QueryReader_shortSelector_143 : decode b_QueryReader_shortSelector 143 = .ok (.getfield 87, 3) := by decide +kernel
theorem d_QueryReader_shortSelector_146 : decode b_QueryReader_shortSelector 146 = .ok (.arraylength, 1) := by decide +kernel
theorem d_QueryReader_shortSelector_147 : decode b_QueryReader_shortSelector 147 = .ok (.if_icmp .ge 28, 3) := by decide +kernel
theorem d_QueryReader_shortSelector_150 : decode b_QueryReader_shortSelector 150 = .ok (.aload_n 2, 1) := by decide +kernel
theorem d_QueryReader_shortSelector_151 : decode b_QueryReader_shortSelector 151 = .ok (.getfield 87, 3) := by decide +kernel
theorem d_QueryReader_shortSelector_154 : decode b_QueryReader_shortSelector 154 = .ok (.iload 4, 2) := by decide +kernel
theorem d_QueryReader_shortSelector_156 : decode b_QueryReader_shortSelector 156 = .ok (.aload_n 0, 1) := by decide +kernel
theorem d_QueryReader_shortSelector_157 : decode b_QueryReader_shortSelector 157 = .ok (.getfield 9, 3) := by decide +kernel
theorem d_QueryReader_shortSelector_160 : decode b_QueryReader_shortSelector 160 = .ok (.getfield 91, 3) := by decide +kernel
theorem d_QueryReader_shortSelector_163 : decode b_QueryReader_shortSelector 163 = .ok (.iload_n 3, 1) := by decide +kernel
theorem d_QueryReader_shortSelector_164 : decode b_QueryReader_shortSelector 164 = .ok (.iload 4, 2) := by decide +kernel
theorem d_QueryReader_shortSelector_166 : decode b_QueryReader_shortSelector 166 = .ok (.iadd, 1) := by decide +kernel
theorem d_QueryReader_shortSelector_167 : decode b_QueryReader_shortSelector 167 = .ok (.baload, 1) := by decide +kernel
theorem d_QueryReader_shortSelector_168 : decode b_QueryReader_shortSelector 168 = .ok (.iastore, 1) := by decide +kernel
theorem d_QueryReader_shortSelector_169 : decode b_QueryReader_shortSelector 169 = .ok (.iinc 4 1, 3) := by decide +kernel
theorem d_QueryReader_shortSelector_172 : decode b_QueryReader_shortSelector 172 = .ok (.goto (-32), 3) := by decide +kernel
theorem d_QueryReader_shortSelector_175 : decode b_QueryReader_shortSelector 175 = .ok (.aload_n 2, 1) := by decide +kernel
theorem d_QueryReader_shortSelector_176 : decode b_QueryReader_shortSelector 176 = .ok (.areturn, 1) := by decide +kernel
set_option maxHeartbeats 4000000 in
set_option maxRecDepth 100000 in
/-- QueryReader.shortSelector -/
theorem c_QueryReader_shortSelector (l : Launch) (hl9 : l.stackTraces = false) (dC : Nat → ClassId) (dI : Nat → Nat → Nat) (sz : Heap) (cI cV : ClassId) (E lv : Nat → Nat) (L : List Nat) (f : Nat → va_E) (hO : PO cI cV E lv L f) (cB : ClassId) (h0 qb qu : Nat) (uc ln pl : Int32) (bf ug : Nat → Int32) (n i : Nat) (hn0 : n ≤ 4096) (hin : i ≤ n) (qr o : Nat) (nw : Int32) : vx_Met l y_QueryReader_shortSelector (k_QueryReader_shortSelector :: gtbl) ({ frames := 10, cells := 3, slots := 15 + (n - i), locals := 170 }) (va_Pc [.ref qr, .int nw] (mx dC dI ([(qr, .inr (5, [.ref h0, .int (nI o)])), (h0, .inr (8, [.ref qb, .ref qu, .int uc, .int ln, .int (nI n), .int (nI i), .int pl])), (qb, .inl (cB, 4096, .inl bf)), (qu, .inl (cI, 4096, .inl ug))] ++ va_pl L f) [(cB, .byte), (cI, .int), (cV, .object "QueryBench$Value")] sz)) (va_Qr (fun (u : Nat × Nat × List Nat × (Nat → Nat) × (Nat → va_E)) => QPn cI cV E L f i n sz.size 9 0 0 u.1 u.2.1 u.2.2.1 u.2.2.2.1 u.2.2.2.2 ∧ shC bf n (nwB nw) i = some (u.2.1, sgL (u.2.2.2.2 u.1))) (fun u a9 t9 => mz dC dI ([(qr, .inr (5, [.ref h0, .int (nI o)])), (h0, .inr (8, [.ref qb, .ref qu, .int uc, .int ln, .int (nI n), .int (nI u.2.1), .int pl])), (qb, .inl (cB, 4096, .inl bf)), (qu, .inl (cI, 4096, .inl ug))] ++ va_pl ((L ++ u.2.2.1)) u.2.2.2.2) [(cB, .byte), (cI, .int), (cV, .object "QueryBench$Value")] (va_A ([(qr, .inr (5, [.ref h0, .int (nI o)])), (h0, .inr (8, [.ref qb, .ref qu, .int uc, .int ln, .int (nI n), .int (nI i), .int pl])), (qb, .inl (cB, 4096, .inl bf)), (qu, .inl (cI, 4096, .inl ug))] ++ va_pl L f) sz.size) t9 ∧ szk sz t9.heap (2) (9 + (u.2.1 - i)) ∧ a9 = u.1) (va_A ([(qr, .inr (5, [.ref h0, .int (nI o)])), (h0, .inr (8, [.ref qb, .ref qu, .int uc, .int ln, .int (nI n), .int (nI i), .int pl])), (qb, .inl (cB, 4096, .inl bf)), (qu, .inl (cI, 4096, .inl ug))] ++ va_pl L f) sz.size)) (vx_X (fun (u : Int32 × Int32 × Int32 × (Nat → Int32) × Int32) => shC bf n (nwB nw) i = none) (fun En u t9 => En = UOX ∧ mz dC dI ([(qr, .inr (5, [.ref h0, .int u.2.2.2.2])), (h0, .inr (8, [.ref qb, .ref qu, .int u.2.1, .int ln, .int (nI n), .int u.1, .int u.2.2.1])), (qb, .inl (cB, 4096, .inl bf)), (qu, .inl (cI, 4096, .inl u.2.2.2.1))] ++ va_pl L f) [(cB, .byte), (cI, .int), (cV, .object "QueryBench$Value")] (va_A ([(qr, .inr (5, [.ref h0, .int (nI o)])), (h0, .inr (8, [.ref qb, .ref qu, .int uc, .int ln, .int (nI n), .int (nI i), .int pl])), (qb, .inl (cB, 4096, .inl bf)), (qu, .inl (cI, 4096, .inl ug))] ++ va_pl L f) sz.size) t9) (va_A ([(qr, .inr (5, [.ref h0, .int (nI o)])), (h0, .inr (8, [.ref qb, .ref qu, .int uc, .int ln, .int (nI n), .int (nI i), .int pl])), (qb, .inl (cB, 4096, .inl bf)), (qu, .inl (cI, 4096, .inl ug))] ++ va_pl L f) sz.size)) (3) (15 + (n - i)) (va_A ([(qr, .inr (5, [.ref h0, .int (nI o)])), (h0, .inr (8, [.ref qb, .ref qu, .int uc, .int ln, .int (nI n), .int (nI i), .int pl])), (qb, .inl (cB, 4096, .inl bf)), (qu, .inl (cI, 4096, .inl ug))] ++ va_pl L f) sz.size) := by
  refine vx_ofW (cc := b_QueryReader_shortSelector) (maxL := 5) (ret := (some (.object "QueryBench$Selector"))) (by decide) rfl ?_
  intro p e s m args below meth c s₁ B hml hex hv
  obtain ⟨rfl, ⟨hsz, hP, hK, hD0⟩, hN, hZ⟩ := hv
  have hx := B.exec
  have hb := B.bytes
  have hr := B.returns
  have hts0 := atoms_spec (ws := k_QueryReader_shortSelector :: gtbl) B.pre
  have hts := fun w h => hts0 w (List.mem_cons_of_mem _ h)
  have hown : s.vm.findClass R_QueryReader = some m.cls := findClass_of_methodNamed B.named
  have hlocks := B.notSynchronized
  subst hsz
  have hD := hD0.self (sz := s.heap.size)
  generalize hAe : va_A ([(qr, .inr (5, [.ref h0, .int (nI o)])), (h0, .inr (8, [.ref qb, .ref qu, .int uc, .int ln, .int (nI n), .int (nI i), .int pl])), (qb, .inl (cB, 4096, .inl bf)), (qu, .inl (cI, 4096, .inl ug))] ++ va_pl L f) s.heap.size = A at hD hZ ⊢
  have hA : ∀ q : Nat, s.heap.size ≤ q → A q := fun q h => by rw [← hAe]; exact Or.inr h
  have hS : va_S A s.heap s.heap [] := va_S.rf
  have hP : va_P (dC, dI) classes ([(qr, .inr (5, [.ref h0, .int (nI o)])), (h0, .inr (8, [.ref qb, .ref qu, .int uc, .int ln, .int (nI n), .int (nI i), .int pl])), (qb, .inl (cB, 4096, .inl bf)), (qu, .inl (cI, 4096, .inl ug))] ++ va_pl L f) s.heap := hP
  have hl := lv_entry ([.ref qr, .int nw]) (n := 5) (Nat.le_of_ble_eq_true rfl)
  rw [lg_entry_eq]
  generalize (lg_sl ([.ref qr, .int nw]) ++ List.replicate (5 - (lg_sl ([.ref qr, .int nw])).length) Slot.unset).toArray = ls at hl ⊢
  have hl : lv_has ls 5 [(0, .ref qr), (1, .int nw)] := hl
  refine lv_iload_n hx hb d_QueryReader_shortSelector_0 rfl (lv_at hl 1 rfl) ?_
  refine lv_if_ne (tgt := 25) hx hb d_QueryReader_shortSelector_1 (by decide) (fun c1 => ?_) (fun c1 => ?_)
  · have hns : ¬ (nwB nw = false ∧ hereV bf n i = 42) := fun q => by rw [nwB_1 c1] at q; exact absurd q.1 (by decide)
    refine va_new (ci := 7) (fs := [.int 0, .null, .int 0, .int 0, .long 0, .long 0, .long 0, .null, .null]) (C := R_Selector) (T := F_Selector) (N := 9) hx hb hts in_Selector t_Selector t_Selector_ok hown (hts _ z_603) (hts _ z_604) (hts _ z_25) hK hP hD hS hA rfl (fun j hj => by rcases (show j = 0 ∨ j = 1 ∨ j = 2 ∨ j = 3 ∨ j = 4 ∨ j = 5 ∨ j = 6 ∨ j = 7 ∨ j = 8 by omega) with rfl | rfl | rfl | rfl | rfl | rfl | rfl | rfl | rfl <;> rfl) (by show 0 + 1 ≤ 3; omega) (by show 0 + 9 ≤ 15 + (n - i); omega) d_QueryReader_shortSelector_25 (fun q H hP hD hS => ?_)
    have hz_q := newA hAe hD (fun k x hk => by rcases k with _ | _ | _ | _ | k; (· cases hk; exact ⟨0, _, rfl⟩); (· cases hk; exact ⟨1, _, rfl⟩); (· cases hk; exact ⟨2, _, rfl⟩); (· cases hk; exact ⟨3, _, rfl⟩); (· exact ⟨k + 4, x.2, hk⟩))
    have hP := hP.swap
    have hD := hD.swap
    have hP : va_P (dC, dI) classes ([(qr, .inr (5, [.ref h0, .int (nI o)])), (h0, .inr (8, [.ref qb, .ref qu, .int uc, .int ln, .int (nI n), .int (nI i), .int pl])), (qb, .inl (cB, 4096, .inl bf)), (qu, .inl (cI, 4096, .inl ug)), (q, .inr (7, [.int 0, .null, .int 0, .int 0, .long 0, .long 0, .long 0, .null, .null]))] ++ va_pl L f) H := hP
    have hD : va_D A ([(qr, .inr (5, [.ref h0, .int (nI o)])), (h0, .inr (8, [.ref qb, .ref qu, .int uc, .int ln, .int (nI n), .int (nI i), .int pl])), (qb, .inl (cB, 4096, .inl bf)), (qu, .inl (cI, 4096, .inl ug)), (q, .inr (7, [.int 0, .null, .int 0, .int 0, .long 0, .long 0, .long 0, .null, .null]))] ++ va_pl L f) := hD
    refine lv_dup hx hb d_QueryReader_shortSelector_28 rfl ?_
    refine lv_iconst (v := 0) hx hb d_QueryReader_shortSelector_29 (by decide) ?_
    have hPc := hP.sub (ws' := [(q, .inr (7, [.int 0, .null, .int 0, .int 0, .long 0, .long 0, .long 0, .null, .null]))]) [4] rfl
    have hDc := hD.sub (ws' := [(q, .inr (7, [.int 0, .null, .int 0, .int 0, .long 0, .long 0, .long 0, .null, .null]))]) [4] (by decide) rfl
    have hFc := va_free (wc := [(q, .inr (7, [.int 0, .null, .int 0, .int 0, .long 0, .long 0, .long 0, .null, .null]))]) hD hS hA [4] rfl
    have hKc := hK.sub (tys' := []) [] rfl
    refine w_same (fun hq0 => ?_)
    refine va_callv (va_runI (As := [.int 0]) (rest := [.ref q]) ⟨hx, hb, hml, hown, hts⟩ (c_Selector_init l dC dI H q 0) (cwI 1 hts (gt_code i_Selector_init) rfl rfl rfl (hts _ z_25) (hts _ z_605) (hts _ z_606) rfl (by decide +kernel) ⟨Nat.le_of_ble_eq_true rfl, Nat.le_of_ble_eq_true rfl⟩) ⟨mp_blind, fun U hU hW => ⟨rfl, hU, by rw [hU]; exact hPc, va_K.moved hW.alike hKc, hDc.weaken (fun _ _ _ _ => trivial)⟩⟩ rfl rfl hl.1 rfl (lv_room (Nat.le_of_ble_eq_true rfl)) d_QueryReader_shortSelector_30 ⟨by show (0 + 1) + (0) ≤ 3; omega, by show (0 + 9) + (0) ≤ 15 + (n - i); omega⟩) hS (fun q _ h => hFc q h) hFc (fun _u t9 H1 locs ht hvm hw hB hz1 hk1 hS => ?_)
    obtain ⟨⟨hP1, hK1, hD1⟩, hz9⟩ := hB
    rw [ht] at hP1
    rw [ht] at hz9
    have hq0 : szk s.heap H1 ((0 + 1)) ((0 + 9)) := (hq0.trans hz9).mono (Nat.le_of_eq (Nat.add_zero _)) (Nat.le_of_eq (Nat.add_zero _))
    refine w_tight hq0 ?_
    obtain ⟨hP, hD⟩ := va_joinQ (wr := [(qr, .inr (5, [.ref h0, .int (nI o)])), (h0, .inr (8, [.ref qb, .ref qu, .int uc, .int ln, .int (nI n), .int (nI i), .int pl])), (qb, .inl (cB, 4096, .inl bf)), (qu, .inl (cI, 4096, .inl ug))]) (w1 := [(q, .inr (7, [.int 0, .null, .int 0, .int 0, .long 0, .long 0, .long 1, .null, .null]))]) hP hD [4] [0, 1, 2, 3] rfl rfl (by decide) (by decide) hk1 hFc hP1 hD1
    generalize H1 = H at hP hS hq0 ⊢
    have hP : va_P (dC, dI) classes ([(qr, .inr (5, [.ref h0, .int (nI o)])), (h0, .inr (8, [.ref qb, .ref qu, .int uc, .int ln, .int (nI n), .int (nI i), .int pl])), (qb, .inl (cB, 4096, .inl bf)), (qu, .inl (cI, 4096, .inl ug)), (q, .inr (7, [.int 0, .null, .int 0, .int 0, .long 0, .long 0, .long 1, .null, .null]))] ++ va_pl L f) H := hP
    have hD : va_D A ([(qr, .inr (5, [.ref h0, .int (nI o)])), (h0, .inr (8, [.ref qb, .ref qu, .int uc, .int ln, .int (nI n), .int (nI i), .int pl])), (qb, .inl (cB, 4096, .inl bf)), (qu, .inl (cI, 4096, .inl ug)), (q, .inr (7, [.int 0, .null, .int 0, .int 0, .long 0, .long 0, .long 1, .null, .null]))] ++ va_pl L f) := hD
    refine lv_astore_n (lv' := [(2, .ref q), (0, .ref qr), (1, .int nw)]) hx hb d_QueryReader_shortSelector_33 rfl hl (by decide) rfl (fun ls hl => ?_)
    refine lv_aload_n hx hb d_QueryReader_shortSelector_34 rfl (lv_at hl 1 rfl) ?_
    refine va_get (D := (dC, dI)) (ci := 5) (v := .ref h0) (C := R_QueryReader) (T := F_QueryReader) (N := 2) hx hb hts in_QueryReader hown hK hP 0 rfl rfl 0 (by decide) (hts _ w_100) (fun _ h9 => h9) rfl d_QueryReader_shortSelector_35 ?_
    refine va_get (D := (dC, dI)) (ci := 8) (v := .int (nI i)) (C := R_Tape) (T := F_Tape) (N := 7) hx hb hts in_Tape hown hK hP 1 rfl rfl 5 (by decide) (hts _ z_53) (fun _ h9 => h9) rfl d_QueryReader_shortSelector_38 ?_
    refine lv_istore_n (lv' := [(3, .int (nI i)), (2, .ref q), (0, .ref qr), (1, .int nw)]) hx hb d_QueryReader_shortSelector_41 rfl hl (by decide) rfl (fun ls hl => ?_)
    refine lv_aload_n hx hb d_QueryReader_shortSelector_42 rfl (lv_at hl 2 rfl) ?_
    refine va_get (D := (dC, dI)) (ci := 5) (v := .ref h0) (C := R_QueryReader) (T := F_QueryReader) (N := 2) hx hb hts in_QueryReader hown hK hP 0 rfl rfl 0 (by decide) (hts _ w_100) (fun _ h9 => h9) rfl d_QueryReader_shortSelector_43 ?_
    have hPc := hP.sub (ws' := [(h0, .inr (8, [.ref qb, .ref qu, .int uc, .int ln, .int (nI n), .int (nI i), .int pl])), (qb, .inl (cB, 4096, .inl bf))]) [1, 2] rfl
    have hDc := hD.sub (ws' := [(h0, .inr (8, [.ref qb, .ref qu, .int uc, .int ln, .int (nI n), .int (nI i), .int pl])), (qb, .inl (cB, 4096, .inl bf))]) [1, 2] (by decide) rfl
    have hFc := va_free (wc := [(h0, .inr (8, [.ref qb, .ref qu, .int uc, .int ln, .int (nI n), .int (nI i), .int pl])), (qb, .inl (cB, 4096, .inl bf))]) hD hS hA [1, 2] rfl
    have hKc := hK.sub (tys' := [(cB, .byte)]) [0] rfl
    refine va_calli (va_runV (As := []) (rest := []) ⟨hx, hb, hml, hown, hts⟩ (c_Tape_here l dC dI cB h0 qb H (.ref qu) uc ln pl bf n i hn0 (by omega)) (cwV 0 hts (gt_V (own := R_QueryReader) (C := R_Tape) (i := 19) (y := y_Tape_here) i_Tape_here z_534 w_363 w_364 w_2) rfl rfl rfl (by decide +kernel) ⟨Nat.le_of_ble_eq_true rfl, Nat.le_of_ble_eq_true rfl⟩) ⟨mp_blind, va_recv hK hP (ci := 8) (q0 := 1) rfl rfl, fun U hU hW => ⟨rfl, hU, by rw [hU]; exact hPc, va_K.moved hW.alike hKc, hDc.weaken (fun _ _ _ _ => trivial)⟩⟩ rfl rfl hl.1 rfl (lv_room (Nat.le_of_ble_eq_true rfl)) d_QueryReader_shortSelector_46 ⟨by show (0 + 1) + (0) ≤ 3; omega, by show (0 + 9) + (0) ≤ 15 + (n - i); omega⟩) hS (fun q _ h => hFc q h) hFc (fun h21 _u t9 H1 locs ht hvm hw hB hz1 hk1 hS => ?_)
    obtain ⟨hP1, hK1, hD1⟩ := hB
    rw [ht] at hP1
    obtain ⟨hP, hD⟩ := va_joinQ (wr := [(qr, .inr (5, [.ref h0, .int (nI o)])), (qu, .inl (cI, 4096, .inl ug)), (q, .inr (7, [.int 0, .null, .int 0, .int 0, .long 0, .long 0, .long 1, .null, .null]))]) (w1 := [(h0, .inr (8, [.ref qb, .ref qu, .int uc, .int ln, .int (nI n), .int (nI i), .int pl])), (qb, .inl (cB, 4096, .inl bf))]) hP hD [1, 2] [0, 3, 4] rfl rfl (by decide) (by decide) hk1 hFc hP1 hD1
    generalize H1 = H at hP hS ⊢
    have hP : va_P (dC, dI) classes ([(qr, .inr (5, [.ref h0, .int (nI o)])), (qu, .inl (cI, 4096, .inl ug)), (q, .inr (7, [.int 0, .null, .int 0, .int 0, .long 0, .long 0, .long 1, .null, .null])), (h0, .inr (8, [.ref qb, .ref qu, .int uc, .int ln, .int (nI n), .int (nI i), .int pl])), (qb, .inl (cB, 4096, .inl bf))] ++ va_pl L f) H := hP
    have hD : va_D A ([(qr, .inr (5, [.ref h0, .int (nI o)])), (qu, .inl (cI, 4096, .inl ug)), (q, .inr (7, [.int 0, .null, .int 0, .int 0, .long 0, .long 0, .long 1, .null, .null])), (h0, .inr (8, [.ref qb, .ref qu, .int uc, .int ln, .int (nI n), .int (nI i), .int pl])), (qb, .inl (cB, 4096, .inl bf))] ++ va_pl L f) := hD
    have hP := hP.part (cx := [(qr, .inr (5, [.ref h0, .int (nI o)])), (h0, .inr (8, [.ref qb, .ref qu, .int uc, .int ln, .int (nI n), .int (nI i), .int pl])), (qb, .inl (cB, 4096, .inl bf)), (qu, .inl (cI, 4096, .inl ug)), (q, .inr (7, [.int 0, .null, .int 0, .int 0, .long 0, .long 0, .long 1, .null, .null]))]) [0, 3, 4, 1, 2] rfl
    have hD := hD.part (cx := [(qr, .inr (5, [.ref h0, .int (nI o)])), (h0, .inr (8, [.ref qb, .ref qu, .int uc, .int ln, .int (nI n), .int (nI i), .int pl])), (qb, .inl (cB, 4096, .inl bf)), (qu, .inl (cI, 4096, .inl ug)), (q, .inr (7, [.int 0, .null, .int 0, .int 0, .long 0, .long 0, .long 1, .null, .null]))]) [0, 3, 4, 1, 2] (by decide) rfl
    have h_h21 : h21 = hereV bf n i := hw
    refine vp_callSi (va_Run.run (va_runS (As := [.int h21]) (rest := []) ⟨hx, hb, hml, hown, hts⟩ (c_QueryReader_isNameByte l dC dI H h21) (va_cwS 1 hts (gt_S (own := R_QueryReader) (i := 81) (y := y_QueryReader_isNameByte) i_QueryReader_isNameByte z_793 z_794 w_4) rfl rfl rfl (by decide +kernel) ⟨Nat.le_of_ble_eq_true rfl, Nat.le_of_ble_eq_true rfl⟩) ⟨mT_blind, fun U hU hW => ⟨rfl, hN.warm hW⟩⟩ rfl rfl hl.1 rfl (lv_room (Nat.le_of_ble_eq_true rfl)) d_QueryReader_shortSelector_49 ⟨by show (0 + 1) + (0) ≤ 3; omega, by show (0 + 9) + (0) ≤ 15 + (n - i); omega⟩)) (fun r22 h_r22 => ?_)
    refine lv_if_eq (tgt := 68) hx hb d_QueryReader_shortSelector_52 (by decide) (fun c52 => ?_) (fun c52 => ?_)
    · refine lv_aload_n hx hb d_QueryReader_shortSelector_68 rfl (lv_at hl 2 rfl) ?_
      refine va_get (D := (dC, dI)) (ci := 5) (v := .ref h0) (C := R_QueryReader) (T := F_QueryReader) (N := 2) hx hb hts in_QueryReader hown hK hP 0 rfl rfl 0 (by decide) (hts _ w_100) (fun _ h9 => h9) rfl d_QueryReader_shortSelector_69 ?_
      refine lv_iload_n hx hb d_QueryReader_shortSelector_72 rfl (lv_at hl 0 rfl) ?_
      have hPc := hP.sub (ws' := [(h0, .inr (8, [.ref qb, .ref qu, .int uc, .int ln, .int (nI n), .int (nI i), .int pl])), (qb, .inl (cB, 4096, .inl bf))]) [1, 2] rfl
      have hDc := hD.sub (ws' := [(h0, .inr (8, [.ref qb, .ref qu, .int uc, .int ln, .int (nI n), .int (nI i), .int pl])), (qb, .inl (cB, 4096, .inl bf))]) [1, 2] (by decide) rfl
      have hFc := va_free (wc := [(h0, .inr (8, [.ref qb, .ref qu, .int uc, .int ln, .int (nI n), .int (nI i), .int pl])), (qb, .inl (cB, 4096, .inl bf))]) hD hS hA [1, 2] rfl
      have hKc := hK.sub (tys' := [(cB, .byte)]) [0] rfl
      refine w_same (fun hq0 => ?_)
      refine vx_callv (vx_runV (As := [.int (nI i)]) (rest := []) ⟨hx, hb, hml, hown, hts⟩ (c_Tape_fail l hl9 dC dI cB h0 qb H (.ref qu) uc ln (nI n) (nI i) pl bf ((nI i))) (cwV 1 hts (gt_V (own := R_QueryReader) (C := R_Tape) (i := 28) (y := y_Tape_fail) i_Tape_fail z_535 w_371 w_372 w_2) rfl rfl rfl (by decide +kernel) ⟨Nat.le_of_ble_eq_true rfl, Nat.le_of_ble_eq_true rfl⟩) ⟨mx_blind, va_recv hK hP (ci := 8) (q0 := 1) rfl rfl, fun U hU hW => ⟨rfl, ⟨hU, by rw [hU]; exact hPc, va_K.moved hW.alike hKc, hDc.weaken (fun _ _ _ _ => trivial)⟩, hN.warm hW, by rw [hU]; exact ZX.moved' hW.alike (ZX.narrow' (ZX.kept' hZ hS.2.1) hFc)⟩⟩ rfl rfl hl.1 rfl (lv_room (Nat.le_of_ble_eq_true rfl)) d_QueryReader_shortSelector_73 ⟨by show (0 + 1) + (1) ≤ 3; omega, by show (0 + 9) + (6) ≤ 15 + (n - i); omega⟩) hS (fun q _ h => hFc q h) hFc (fun q _ h => hFc q h) (fun En ce q9 _u t9 H1 locs ht hvm hw hB hz1 hk1 hS hce hcv hcl => ?_) (fun _u t9 H1 locs ht hvm hw hB hz1 hk1 hS => ?_)
      · obtain ⟨hEn, hP1, hK1, hD1⟩ := hB
        rw [ht] at hP1
        obtain ⟨hP, hD⟩ := va_joinQ (wr := [(qr, .inr (5, [.ref h0, .int (nI o)])), (qu, .inl (cI, 4096, .inl ug)), (q, .inr (7, [.int 0, .null, .int 0, .int 0, .long 0, .long 0, .long 1, .null, .null]))]) (w1 := [(h0, .inr (8, [.ref qb, .ref qu, .int uc, .int ln, .int (nI n), .int (nI i), .int (nI i)])), (qb, .inl (cB, 4096, .inl bf))]) hP hD [1, 2] [0, 3, 4] rfl rfl (by decide) (by decide) hk1 hFc hP1 hD1
        generalize H1 = H at hP hS hce ⊢
        have hP : va_P (dC, dI) classes ([(qr, .inr (5, [.ref h0, .int (nI o)])), (qu, .inl (cI, 4096, .inl ug)), (q, .inr (7, [.int 0, .null, .int 0, .int 0, .long 0, .long 0, .long 1, .null, .null])), (h0, .inr (8, [.ref qb, .ref qu, .int uc, .int ln, .int (nI n), .int (nI i), .int (nI i)])), (qb, .inl (cB, 4096, .inl bf))] ++ va_pl L f) H := hP
        have hD : va_D A ([(qr, .inr (5, [.ref h0, .int (nI o)])), (qu, .inl (cI, 4096, .inl ug)), (q, .inr (7, [.int 0, .null, .int 0, .int 0, .long 0, .long 0, .long 1, .null, .null])), (h0, .inr (8, [.ref qb, .ref qu, .int uc, .int ln, .int (nI n), .int (nI i), .int (nI i)])), (qb, .inl (cB, 4096, .inl bf))] ++ va_pl L f) := hD
        have hP := hP.part (cx := [(qr, .inr (5, [.ref h0, .int (nI o)])), (h0, .inr (8, [.ref qb, .ref qu, .int uc, .int ln, .int (nI n), .int (nI i), .int (nI i)])), (qb, .inl (cB, 4096, .inl bf)), (qu, .inl (cI, 4096, .inl ug)), (q, .inr (7, [.int 0, .null, .int 0, .int 0, .long 0, .long 0, .long 1, .null, .null]))]) [0, 3, 4, 1, 2] rfl
        have hD := hD.part (cx := [(qr, .inr (5, [.ref h0, .int (nI o)])), (h0, .inr (8, [.ref qb, .ref qu, .int uc, .int ln, .int (nI n), .int (nI i), .int (nI i)])), (qb, .inl (cB, 4096, .inl bf)), (qu, .inl (cI, 4096, .inl ug)), (q, .inr (7, [.int 0, .null, .int 0, .int 0, .long 0, .long 0, .long 1, .null, .null]))]) [0, 3, 4, 1, 2] (by decide) rfl
        have hP := hP.part (cx := [(qr, .inr (5, [.ref h0, .int (nI o)])), (h0, .inr (8, [.ref qb, .ref qu, .int uc, .int ln, .int (nI n), .int (nI i), .int (nI i)])), (qb, .inl (cB, 4096, .inl bf)), (qu, .inl (cI, 4096, .inl ug))]) [0, 1, 2, 3] rfl
        have hD := hD.part (cx := [(qr, .inr (5, [.ref h0, .int (nI o)])), (h0, .inr (8, [.ref qb, .ref qu, .int uc, .int ln, .int (nI n), .int (nI i), .int (nI i)])), (qb, .inl (cB, 4096, .inl bf)), (qu, .inl (cI, 4096, .inl ug))]) [0, 1, 2, 3] (by decide) rfl
        have hno : shC bf n (nwB nw) i = none := sh_0 hns (fun q => h_r22.2.2 c52 (Or.inl (by rw [h_h21]; exact q)))
        exact vx_out (fun x hx => (hex x hx).elim) hlocks hce hcv hcl (fun t9 ht2 ha => ⟨(nI i, uc, (nI i), ug, nI o), hno, ⟨hEn, by rw [ht2]; exact hP, va_K.moved ha hK, hD⟩, hS.F ht2⟩) hS.2.2 (by show (0 + 1) + (1) ≤ 3; omega) (by show (0 + 9) + (6) ≤ 15 + (n - i); omega)
      · obtain ⟨⟨hP1, hK1, hD1⟩, hz9⟩ := hB
        rw [ht] at hP1
        rw [ht] at hz9
        refine w_tight (hq0.trans hz9) ?_
        have hq0 := hq0.trans hz9
        obtain ⟨hP, hD⟩ := va_joinQ (wr := [(qr, .inr (5, [.ref h0, .int (nI o)])), (qu, .inl (cI, 4096, .inl ug)), (q, .inr (7, [.int 0, .null, .int 0, .int 0, .long 0, .long 0, .long 1, .null, .null]))]) (w1 := [(h0, .inr (8, [.ref qb, .ref qu, .int uc, .int ln, .int (nI n), .int (nI i), .int pl])), (qb, .inl (cB, 4096, .inl bf))]) hP hD [1, 2] [0, 3, 4] rfl rfl (by decide) (by decide) hk1 hFc hP1 hD1
        generalize H1 = H at hP hS hq0 ⊢
        have hP : va_P (dC, dI) classes ([(qr, .inr (5, [.ref h0, .int (nI o)])), (qu, .inl (cI, 4096, .inl ug)), (q, .inr (7, [.int 0, .null, .int 0, .int 0, .long 0, .long 0, .long 1, .null, .null])), (h0, .inr (8, [.ref qb, .ref qu, .int uc, .int ln, .int (nI n), .int (nI i), .int pl])), (qb, .inl (cB, 4096, .inl bf))] ++ va_pl L f) H := hP
        have hD : va_D A ([(qr, .inr (5, [.ref h0, .int (nI o)])), (qu, .inl (cI, 4096, .inl ug)), (q, .inr (7, [.int 0, .null, .int 0, .int 0, .long 0, .long 0, .long 1, .null, .null])), (h0, .inr (8, [.ref qb, .ref qu, .int uc, .int ln, .int (nI n), .int (nI i), .int pl])), (qb, .inl (cB, 4096, .inl bf))] ++ va_pl L f) := hD
        have hP := hP.part (cx := [(qr, .inr (5, [.ref h0, .int (nI o)])), (h0, .inr (8, [.ref qb, .ref qu, .int uc, .int ln, .int (nI n), .int (nI i), .int pl])), (qb, .inl (cB, 4096, .inl bf)), (qu, .inl (cI, 4096, .inl ug)), (q, .inr (7, [.int 0, .null, .int 0, .int 0, .long 0, .long 0, .long 1, .null, .null]))]) [0, 3, 4, 1, 2] rfl
        have hD := hD.part (cx := [(qr, .inr (5, [.ref h0, .int (nI o)])), (h0, .inr (8, [.ref qb, .ref qu, .int uc, .int ln, .int (nI n), .int (nI i), .int pl])), (qb, .inl (cB, 4096, .inl bf)), (qu, .inl (cI, 4096, .inl ug)), (q, .inr (7, [.int 0, .null, .int 0, .int 0, .long 0, .long 0, .long 1, .null, .null]))]) [0, 3, 4, 1, 2] (by decide) rfl
        exact hw.elim
    · have hnb : letH (hereV bf n i) ∨ digH (hereV bf n i) := by rw [← h_h21]; exact h_r22.2.1 c52
      refine lv_aload_n hx hb d_QueryReader_shortSelector_55 rfl (lv_at hl 2 rfl) ?_
      refine va_get (D := (dC, dI)) (ci := 5) (v := .ref h0) (C := R_QueryReader) (T := F_QueryReader) (N := 2) hx hb hts in_QueryReader hown hK hP 0 rfl rfl 0 (by decide) (hts _ w_100) (fun _ h9 => h9) rfl d_QueryReader_shortSelector_56 ?_
      have hPc := hP.sub (ws' := [(h0, .inr (8, [.ref qb, .ref qu, .int uc, .int ln, .int (nI n), .int (nI i), .int pl])), (qb, .inl (cB, 4096, .inl bf))]) [1, 2] rfl
      have hDc := hD.sub (ws' := [(h0, .inr (8, [.ref qb, .ref qu, .int uc, .int ln, .int (nI n), .int (nI i), .int pl])), (qb, .inl (cB, 4096, .inl bf))]) [1, 2] (by decide) rfl
      have hFc := va_free (wc := [(h0, .inr (8, [.ref qb, .ref qu, .int uc, .int ln, .int (nI n), .int (nI i), .int pl])), (qb, .inl (cB, 4096, .inl bf))]) hD hS hA [1, 2] rfl
      have hKc := hK.sub (tys' := [(cB, .byte)]) [0] rfl
      refine va_calli (va_runV (As := []) (rest := []) ⟨hx, hb, hml, hown, hts⟩ (c_Tape_here l dC dI cB h0 qb H (.ref qu) uc ln pl bf n i hn0 (by omega)) (cwV 0 hts (gt_V (own := R_QueryReader) (C := R_Tape) (i := 19) (y := y_Tape_here) i_Tape_here z_534 w_363 w_364 w_2) rfl rfl rfl (by decide +kernel) ⟨Nat.le_of_ble_eq_true rfl, Nat.le_of_ble_eq_true rfl⟩) ⟨mp_blind, va_recv hK hP (ci := 8) (q0 := 1) rfl rfl, fun U hU hW => ⟨rfl, hU, by rw [hU]; exact hPc, va_K.moved hW.alike hKc, hDc.weaken (fun _ _ _ _ => trivial)⟩⟩ rfl rfl hl.1 rfl (lv_room (Nat.le_of_ble_eq_true rfl)) d_QueryReader_shortSelector_59 ⟨by show (0 + 1) + (0) ≤ 3; omega, by show (0 + 9) + (0) ≤ 15 + (n - i); omega⟩) hS (fun q _ h => hFc q h) hFc (fun h23 _u t9 H1 locs ht hvm hw hB hz1 hk1 hS => ?_)
      obtain ⟨hP1, hK1, hD1⟩ := hB
      rw [ht] at hP1
      obtain ⟨hP, hD⟩ := va_joinQ (wr := [(qr, .inr (5, [.ref h0, .int (nI o)])), (qu, .inl (cI, 4096, .inl ug)), (q, .inr (7, [.int 0, .null, .int 0, .int 0, .long 0, .long 0, .long 1, .null, .null]))]) (w1 := [(h0, .inr (8, [.ref qb, .ref qu, .int uc, .int ln, .int (nI n), .int (nI i), .int pl])), (qb, .inl (cB, 4096, .inl bf))]) hP hD [1, 2] [0, 3, 4] rfl rfl (by decide) (by decide) hk1 hFc hP1 hD1
      generalize H1 = H at hP hS ⊢
      have hP : va_P (dC, dI) classes ([(qr, .inr (5, [.ref h0, .int (nI o)])), (qu, .inl (cI, 4096, .inl ug)), (q, .inr (7, [.int 0, .null, .int 0, .int 0, .long 0, .long 0, .long 1, .null, .null])), (h0, .inr (8, [.ref qb, .ref qu, .int uc, .int ln, .int (nI n), .int (nI i), .int pl])), (qb, .inl (cB, 4096, .inl bf))] ++ va_pl L f) H := hP
      have hD : va_D A ([(qr, .inr (5, [.ref h0, .int (nI o)])), (qu, .inl (cI, 4096, .inl ug)), (q, .inr (7, [.int 0, .null, .int 0, .int 0, .long 0, .long 0, .long 1, .null, .null])), (h0, .inr (8, [.ref qb, .ref qu, .int uc, .int ln, .int (nI n), .int (nI i), .int pl])), (qb, .inl (cB, 4096, .inl bf))] ++ va_pl L f) := hD
      have hP := hP.part (cx := [(qr, .inr (5, [.ref h0, .int (nI o)])), (h0, .inr (8, [.ref qb, .ref qu, .int uc, .int ln, .int (nI n), .int (nI i), .int pl])), (qb, .inl (cB, 4096, .inl bf)), (qu, .inl (cI, 4096, .inl ug)), (q, .inr (7, [.int 0, .null, .int 0, .int 0, .long 0, .long 0, .long 1, .null, .null]))]) [0, 3, 4, 1, 2] rfl
      have hD := hD.part (cx := [(qr, .inr (5, [.ref h0, .int (nI o)])), (h0, .inr (8, [.ref qb, .ref qu, .int uc, .int ln, .int (nI n), .int (nI i), .int pl])), (qb, .inl (cB, 4096, .inl bf)), (qu, .inl (cI, 4096, .inl ug)), (q, .inr (7, [.int 0, .null, .int 0, .int 0, .long 0, .long 0, .long 1, .null, .null]))]) [0, 3, 4, 1, 2] (by decide) rfl
      have h_h23 : h23 = hereV bf n i := hw
      refine vp_callSi (va_Run.run (va_runSN (As := [.int h23]) (rest := []) ⟨hx, hb, hml, hown, hts⟩ (g_QB_isDigit l dC dI H h23) (⟨va_cnB (host := "QueryBench") 1 hts (gt_code i_QB_isDigit) rfl rfl rfl (hN _ nz_780) (hts _ w_1) (by decide +kernel) ⟨Nat.le_of_ble_eq_true rfl, Nat.le_of_ble_eq_true rfl⟩, hts _ w_510, trivial⟩) ⟨mT_blind, fun U hU hW => ⟨rfl, hN.warm hW⟩⟩ rfl rfl hl.1 rfl (lv_room (Nat.le_of_ble_eq_true rfl)) d_QueryReader_shortSelector_62 ⟨by show (0 + 1) + (0) ≤ 3; omega, by show (0 + 9) + (0) ≤ 15 + (n - i); omega⟩)) (fun r24 h_r24 => ?_)
      refine lv_if_eq (tgt := 76) hx hb d_QueryReader_shortSelector_65 (by decide) (fun c65 => ?_) (fun c65 => ?_)
      · have hlet : letH (hereV bf n i) := hnb.resolve_right (by rw [← h_h23]; exact h_r24.2.2 c65)
        refine w_loop (D := (dC, dI)) (cl := classes) (A := A) (H0 := s.heap) (nL := 5) 76 (σ := Nat) (fun p => (i ≤ p ∧ p ≤ n) ∧ nmC bf n (n - i) i = nmC bf n (n - p) p) (fun p => n - p) (fun p => [(qr, .inr (5, [.ref h0, .int (nI o)])), (h0, .inr (8, [.ref qb, .ref qu, .int uc, .int ln, .int (nI n), .int (nI p), .int pl])), (qb, .inl (cB, 4096, .inl bf)), (qu, .inl (cI, 4096, .inl ug)), (q, .inr (7, [.int 0, .null, .int 0, .int 0, .long 0, .long 0, .long 1, .null, .null]))] ++ va_pl L f) (fun p => [(0, .ref qr), (2, .ref q), (3, .int (nI i))]) ?_ i ⟨⟨Nat.le_refl _, by omega⟩, rfl⟩ hP hD hS (lv_sub hl [2, 1, 0] rfl)
        rintro p H locs ls hI ih hP hD hS hl
        have hP : va_P (dC, dI) classes ([(qr, .inr (5, [.ref h0, .int (nI o)])), (h0, .inr (8, [.ref qb, .ref qu, .int uc, .int ln, .int (nI n), .int (nI p), .int pl])), (qb, .inl (cB, 4096, .inl bf)), (qu, .inl (cI, 4096, .inl ug)), (q, .inr (7, [.int 0, .null, .int 0, .int 0, .long 0, .long 0, .long 1, .null, .null]))] ++ va_pl L f) H := hP
        have hD : va_D A ([(qr, .inr (5, [.ref h0, .int (nI o)])), (h0, .inr (8, [.ref qb, .ref qu, .int uc, .int ln, .int (nI n), .int (nI p), .int pl])), (qb, .inl (cB, 4096, .inl bf)), (qu, .inl (cI, 4096, .inl ug)), (q, .inr (7, [.int 0, .null, .int 0, .int 0, .long 0, .long 0, .long 1, .null, .null]))] ++ va_pl L f) := hD
        have hl : lv_has ls 5 [(0, .ref qr), (2, .ref q), (3, .int (nI i))] := hl
        obtain ⟨⟨hp1, hp2⟩, hnm⟩ := hI
        have hnm : nmC bf n (n - i) i = nmC bf n (n - p) p := hnm
        have hp1 : i ≤ p := hp1
        have hp2 : p ≤ n := hp2
        refine lv_aload_n hx hb d_QueryReader_shortSelector_76 rfl (lv_at hl 0 rfl) ?_
        refine va_get (D := (dC, dI)) (ci := 5) (v := .ref h0) (C := R_QueryReader) (T := F_QueryReader) (N := 2) hx hb hts in_QueryReader hown hK hP 0 rfl rfl 0 (by decide) (hts _ w_100) (fun _ h9 => h9) rfl d_QueryReader_shortSelector_77 ?_
        refine va_get (D := (dC, dI)) (ci := 8) (v := .int (nI p)) (C := R_Tape) (T := F_Tape) (N := 7) hx hb hts in_Tape hown hK hP 1 rfl rfl 5 (by decide) (hts _ z_53) (fun _ h9 => h9) rfl d_QueryReader_shortSelector_80 ?_
        refine lv_aload_n hx hb d_QueryReader_shortSelector_83 rfl (lv_at hl 0 rfl) ?_
        refine va_get (D := (dC, dI)) (ci := 5) (v := .ref h0) (C := R_QueryReader) (T := F_QueryReader) (N := 2) hx hb hts in_QueryReader hown hK hP 0 rfl rfl 0 (by decide) (hts _ w_100) (fun _ h9 => h9) rfl d_QueryReader_shortSelector_84 ?_
        refine va_get (D := (dC, dI)) (ci := 8) (v := .int (nI n)) (C := R_Tape) (T := F_Tape) (N := 7) hx hb hts in_Tape hown hK hP 1 rfl rfl 4 (by decide) (hts _ z_50) (fun _ h9 => h9) rfl d_QueryReader_shortSelector_87 ?_
        refine lv_icmp_ge (tgt := 122) hx hb d_QueryReader_shortSelector_90 (by decide) (fun c90 => ?_) (fun c90 => ?_)
        · have hne : nmC bf n (n - i) i = p := hnm.trans (nmC_n (by rw [nI_leI (by omega) (by omega)] at c90; omega))
          refine lv_aload_n hx hb d_QueryReader_shortSelector_122 rfl (lv_at hl 1 rfl) ?_
          refine lv_aload_n hx hb d_QueryReader_shortSelector_123 rfl (lv_at hl 0 rfl) ?_
          refine va_get (D := (dC, dI)) (ci := 5) (v := .ref h0) (C := R_QueryReader) (T := F_QueryReader) (N := 2) hx hb hts in_QueryReader hown hK hP 0 rfl rfl 0 (by decide) (hts _ w_100) (fun _ h9 => h9) rfl d_QueryReader_shortSelector_124 ?_
          refine va_get (D := (dC, dI)) (ci := 8) (v := .int (nI p)) (C := R_Tape) (T := F_Tape) (N := 7) hx hb hts in_Tape hown hK hP 1 rfl rfl 5 (by decide) (hts _ z_53) (fun _ h9 => h9) rfl d_QueryReader_shortSelector_127 ?_
          refine lv_iload_n hx hb d_QueryReader_shortSelector_130 rfl (lv_at hl 2 rfl) ?_
          refine lv_isub hx hb d_QueryReader_shortSelector_131 ?_
          refine W.eq (g2 := F0 m 132 ls [.int (nI (p - i)), .ref q]) (by rw [show ((nI p) - (nI i)) = (nI (p - i)) from (pk_sub (by omega))]) ?_
          refine va_newa (atype := .int) (ty := .int) (N' := (p - i)) (a0 := ((p - i), .inl (fun _ => 0))) hx hb (hts _ w_73) rfl hK hP hD hS hA (fun _ => rfl) (nI_pos (by omega)) (nI_clamp (by omega)) (by show (p - i) * 4 ≤ 536870912; omega) (by show (0 + 1) + 1 ≤ 3; omega) (by show (0 + 9) + (p - i) ≤ 15 + (n - i); omega) d_QueryReader_shortSelector_132 (fun qn cA H hK hP hD hS => ?_)
          obtain rfl : cI = cA := Option.some.inj ((hK.2 1 _ rfl).2.symm.trans (hK.2 3 _ rfl).2)
          have hK := hK.sub (tys' := [(cB, .byte), (cI, .int), (cV, .object "QueryBench$Value")]) [0, 1, 2] rfl
          have hz_qn := newA hAe hD (fun k x hk => by rcases k with _ | _ | _ | _ | k; (· cases hk; exact ⟨0, _, rfl⟩); (· cases hk; exact ⟨1, _, rfl⟩); (· cases hk; exact ⟨2, _, rfl⟩); (· cases hk; exact ⟨3, _, rfl⟩); (· exact ⟨k + 5, x.2, hk⟩))
          have hP := hP.swap
          have hD := hD.swap
          have hP : va_P (dC, dI) classes ([(qr, .inr (5, [.ref h0, .int (nI o)])), (h0, .inr (8, [.ref qb, .ref qu, .int uc, .int ln, .int (nI n), .int (nI p), .int pl])), (qb, .inl (cB, 4096, .inl bf)), (qu, .inl (cI, 4096, .inl ug)), (q, .inr (7, [.int 0, .null, .int 0, .int 0, .long 0, .long 0, .long 1, .null, .null])), (qn, .inl (cI, (p - i), .inl (fun _ => 0)))] ++ va_pl L f) H := hP
          have hD : va_D A ([(qr, .inr (5, [.ref h0, .int (nI o)])), (h0, .inr (8, [.ref qb, .ref qu, .int uc, .int ln, .int (nI n), .int (nI p), .int pl])), (qb, .inl (cB, 4096, .inl bf)), (qu, .inl (cI, 4096, .inl ug)), (q, .inr (7, [.int 0, .null, .int 0, .int 0, .long 0, .long 0, .long 1, .null, .null])), (qn, .inl (cI, (p - i), .inl (fun _ => 0)))] ++ va_pl L f) := hD
          refine va_put (D := (dC, dI)) (ci := 7) (v := .ref qn) (ty := .array .int) (C := R_Selector) (T := F_Selector) (N := 9) hx hb hts in_Selector t_Selector t_Selector_ok n_Selector hown hK hP hD hS 4 rfl rfl 1 (by decide) (hts _ z_613) (fun _ h9 => h9) rfl (by decide +kernel) rfl rfl (Nat.le_of_ble_eq_true rfl) d_QueryReader_shortSelector_134 (fun H locs hP hD hS => ?_)
          have hP : va_P (dC, dI) classes ([(qr, .inr (5, [.ref h0, .int (nI o)])), (h0, .inr (8, [.ref qb, .ref qu, .int uc, .int ln, .int (nI n), .int (nI p), .int pl])), (qb, .inl (cB, 4096, .inl bf)), (qu, .inl (cI, 4096, .inl ug)), (q, .inr (7, [.int 0, .ref qn, .int 0, .int 0, .long 0, .long 0, .long 1, .null, .null])), (qn, .inl (cI, (p - i), .inl (fun _ => 0)))] ++ va_pl L f) H := hP
          have hD : va_D A ([(qr, .inr (5, [.ref h0, .int (nI o)])), (h0, .inr (8, [.ref qb, .ref qu, .int uc, .int ln, .int (nI n), .int (nI p), .int pl])), (qb, .inl (cB, 4096, .inl bf)), (qu, .inl (cI, 4096, .inl ug)), (q, .inr (7, [.int 0, .ref qn, .int 0, .int 0, .long 0, .long 0, .long 1, .null, .null])), (qn, .inl (cI, (p - i), .inl (fun _ => 0)))] ++ va_pl L f) := hD
          refine lv_iconst (v := 0) hx hb d_QueryReader_shortSelector_137 (by decide) ?_
          refine lv_istore (lv' := [(4, .int 0), (0, .ref qr), (2, .ref q), (3, .int (nI i))]) hx hb d_QueryReader_shortSelector_138 hl (by decide) rfl (fun ls hl => ?_)
          refine w_loop (D := (dC, dI)) (cl := classes) (A := A) (H0 := s.heap) (nL := 5) 140 (σ := Nat × (Nat → Int32)) (fun ⟨j, g⟩ => j ≤ (p - i)) (fun ⟨j, g⟩ => (p - i) - j) (fun ⟨j, g⟩ => [(qr, .inr (5, [.ref h0, .int (nI o)])), (h0, .inr (8, [.ref qb, .ref qu, .int uc, .int ln, .int (nI n), .int (nI p), .int pl])), (qb, .inl (cB, 4096, .inl bf)), (qu, .inl (cI, 4096, .inl ug)), (q, .inr (7, [.int 0, .ref qn, .int 0, .int 0, .long 0, .long 0, .long 1, .null, .null])), (qn, .inl (cI, (p - i), .inl g))] ++ va_pl L f) (fun ⟨j, g⟩ => [(0, .ref qr), (2, .ref q), (3, .int (nI i)), (4, .int (nI j))]) ?_ (0, fun _ => 0) (Nat.zero_le _) hP hD hS (lv_sub hl [1, 2, 3, 0] rfl)
          rintro ⟨j, g⟩ H locs ls hI ih hP hD hS hl
          have hP : va_P (dC, dI) classes ([(qr, .inr (5, [.ref h0, .int (nI o)])), (h0, .inr (8, [.ref qb, .ref qu, .int uc, .int ln, .int (nI n), .int (nI p), .int pl])), (qb, .inl (cB, 4096, .inl bf)), (qu, .inl (cI, 4096, .inl ug)), (q, .inr (7, [.int 0, .ref qn, .int 0, .int 0, .long 0, .long 0, .long 1, .null, .null])), (qn, .inl (cI, (p - i), .inl g))] ++ va_pl L f) H := hP
          have hD : va_D A ([(qr, .inr (5, [.ref h0, .int (nI o)])), (h0, .inr (8, [.ref qb, .ref qu, .int uc, .int ln, .int (nI n), .int (nI p), .int pl])), (qb, .inl (cB, 4096, .inl bf)), (qu, .inl (cI, 4096, .inl ug)), (q, .inr (7, [.int 0, .ref qn, .int 0, .int 0, .long 0, .long 0, .long 1, .null, .null])), (qn, .inl (cI, (p - i), .inl g))] ++ va_pl L f) := hD
          have hl : lv_has ls 5 [(0, .ref qr), (2, .ref q), (3, .int (nI i)), (4, .int (nI j))] := hl
          have hj : j ≤ (p - i) := hI
          refine lv_iload hx hb d_QueryReader_shortSelector_140 (lv_at hl 3 rfl) ?_
          refine lv_aload_n hx hb d_QueryReader_shortSelector_142 rfl (lv_at hl 1 rfl) ?_
          refine va_get (D := (dC, dI)) (ci := 7) (v := .ref qn) (C := R_Selector) (T := F_Selector) (N := 9) hx hb hts in_Selector hown hK hP 4 rfl rfl 1 (by decide) (hts _ z_613) (fun _ h9 => h9) rfl d_QueryReader_shortSelector_143 ?_
          refine va_alen (v := nI (p - i)) hx hb hK hP 5 1 rfl rfl rfl d_QueryReader_shortSelector_146 ?_
          refine lv_icmp_ge (tgt := 175) hx hb d_QueryReader_shortSelector_147 (by decide) (fun c147 => ?_) (fun c147 => ?_)
          · refine lv_aload_n hx hb d_QueryReader_shortSelector_175 rfl (lv_at hl 1 rfl) ?_
            have hqnL := plD_new (X := [(qr, .inr (5, [.ref h0, .int (nI o)])), (h0, .inr (8, [.ref qb, .ref qu, .int uc, .int ln, .int (nI n), .int (nI p), .int pl])), (qb, .inl (cB, 4096, .inl bf)), (qu, .inl (cI, 4096, .inl ug)), (q, .inr (7, [.int 0, .ref qn, .int 0, .int 0, .long 0, .long 0, .long 1, .null, .null]))]) hD
            have hqn0 : E qn = 0 := Classical.byContradiction (fun h => hqnL (hO.inL h))
            have hP := plP_push (X := [(qr, .inr (5, [.ref h0, .int (nI o)])), (h0, .inr (8, [.ref qb, .ref qu, .int uc, .int ln, .int (nI n), .int (nI p), .int pl])), (qb, .inl (cB, 4096, .inl bf)), (qu, .inl (cI, 4096, .inl ug)), (q, .inr (7, [.int 0, .ref qn, .int 0, .int 0, .long 0, .long 0, .long 1, .null, .null]))]) hP hqnL
            have hD := plD_push (X := [(qr, .inr (5, [.ref h0, .int (nI o)])), (h0, .inr (8, [.ref qb, .ref qu, .int uc, .int ln, .int (nI n), .int (nI p), .int pl])), (qb, .inl (cB, 4096, .inl bf)), (qu, .inl (cI, 4096, .inl ug)), (q, .inr (7, [.int 0, .ref qn, .int 0, .int 0, .long 0, .long 0, .long 1, .null, .null]))]) hD hqnL
            have hqL := plD_new (X := [(qr, .inr (5, [.ref h0, .int (nI o)])), (h0, .inr (8, [.ref qb, .ref qu, .int uc, .int ln, .int (nI n), .int (nI p), .int pl])), (qb, .inl (cB, 4096, .inl bf)), (qu, .inl (cI, 4096, .inl ug))]) hD
            have hq0 : va_up E qn 4 q = 0 := by
              have hG0 : QG cI cV E lv L f i n p s.heap.size [] E lv f := (QG.rf hO hin).mv (by omega) (by omega)
              have hG1 := hG0.add (q := qn) (s := 4) (b := 0) (e := tE cI (p - i) g) hqn0 (by rw [List.append_nil]; exact hqnL) hz_qn (by decide) (by decide) (CO.T (va_up_self _ _ _) ⟨_, _, rfl, by omega⟩)
              exact Classical.byContradiction (fun h => hqL (by have := hG1.po.inL h; exact this))
            have hqq : qn ≠ q := fun e => by rw [← e, va_up_self] at hq0; cases hq0
            have hP := plP_push (X := [(qr, .inr (5, [.ref h0, .int (nI o)])), (h0, .inr (8, [.ref qb, .ref qu, .int uc, .int ln, .int (nI n), .int (nI p), .int pl])), (qb, .inl (cB, 4096, .inl bf)), (qu, .inl (cI, 4096, .inl ug))]) hP hqL
            have hD := plD_push (X := [(qr, .inr (5, [.ref h0, .int (nI o)])), (h0, .inr (8, [.ref qb, .ref qu, .int uc, .int ln, .int (nI n), .int (nI p), .int pl])), (qb, .inl (cB, 4096, .inl bf)), (qu, .inl (cI, 4096, .inl ug))]) hD hqL
            rw [List.append_assoc] at hP hD
            have hqE : E q = 0 := by rw [va_up_ne _ _ (Ne.symm hqq)] at hq0; exact hq0
            have hQ : QPn cI cV E L f i n s.heap.size 9 0 0 q p (([] ++ [qn]) ++ [q]) (va_up (va_up E qn 4) q 9) (va_up (va_up f qn (tE cI (p - i) g)) q (lE 0 (some qn) 0 0 0 0 1 none none)) := by
              refine ⟨hqE, va_up_self _ _ _, by omega, by omega, fun lv hO b _ => ?_⟩
              have hG0 : QG cI cV E lv L f i n p s.heap.size [] E lv f := (QG.rf hO hin).mv (by omega) (by omega)
              have hG1 := hG0.add (q := qn) (s := 4) (b := 0) (e := tE cI (p - i) g) hqn0 (by rw [List.append_nil]; exact hqnL) hz_qn (by decide) (by decide) (CO.T (va_up_self _ _ _) ⟨_, _, rfl, by omega⟩)
              exact ⟨va_up (va_up lv qn 0) q b, hG1.add (q := q) (s := 9) (b := b) (e := lE 0 (some qn) 0 0 0 0 1 none none) hq0 hqL hz_q (by decide) (by decide) (CO.L (va_up_self _ _ _) ⟨_, _, _, _, _, _, _, _, _, rfl, ⟨(fun b h => by cases h; exact (va_up_ne _ _ hqq).trans (va_up_self _ _ _)), fun b h => (nomatch h), fun b h => (nomatch h), (fun _ h => by cases h), fun h0 h1 => absurd rfl h0, by decide, by decide⟩⟩), va_up_self _ _ _⟩
            have hP : va_P (dC, dI) classes ([(qr, .inr (5, [.ref h0, .int (nI o)])), (h0, .inr (8, [.ref qb, .ref qu, .int uc, .int ln, .int (nI n), .int (nI p), .int pl])), (qb, .inl (cB, 4096, .inl bf)), (qu, .inl (cI, 4096, .inl ug))] ++ va_pl ((L ++ (([] ++ [qn]) ++ [q]))) ((va_up (va_up f qn (tE cI (p - i) g)) q (lE 0 (some qn) 0 0 0 0 1 none none)))) H := hP
            have hD : va_D A ([(qr, .inr (5, [.ref h0, .int (nI o)])), (h0, .inr (8, [.ref qb, .ref qu, .int uc, .int ln, .int (nI n), .int (nI p), .int pl])), (qb, .inl (cB, 4096, .inl bf)), (qu, .inl (cI, 4096, .inl ug))] ++ va_pl ((L ++ (([] ++ [qn]) ++ [q]))) ((va_up (va_up f qn (tE cI (p - i) g)) q (lE 0 (some qn) 0 0 0 0 1 none none)))) := hD
            have hok : shC bf n (nwB nw) i = some (p, sgL ((va_up (va_up f qn (tE cI (p - i) g)) q (lE 0 (some qn) 0 0 0 0 1 none none)) q)) := by rw [va_up_self, sgL_0]; exact sh_n hns hlet hne
            refine w_same (fun hq => ?_)
            refine W.widen (k := 3) (n := 15 + (n - i)) (by show ((0 + 1) + 1) ≤ 3; omega) (by show ((0 + 9) + (p - i)) ≤ 15 + (n - i); omega) ?_
            refine vx_ret ?_
            exact W.aret (v := .ref q) hx hb hr (Or.inl ⟨_, rfl⟩) (Or.inr ⟨_, rfl⟩) (fun t9 ht hW => ⟨⟨(q, p, ([] ++ [qn]) ++ [q], va_up (va_up E qn 4) q 9, va_up (va_up f qn (tE cI (p - i) g)) q (lE 0 (some qn) 0 0 0 0 1 none none)), q, rfl, ⟨hQ, hok⟩, ⟨by rw [ht]; exact hP, va_K.moved hW.alike hK, hD⟩, by rw [ht]; exact ⟨hq.mono (by show ((0 + 1) + 1) ≤ 2; omega) (by show ((0 + 9) + (p - i)) ≤ 9 + (p - i); omega), rfl⟩⟩, hS.F ht⟩) hS.2.2 d_QueryReader_shortSelector_176
          · have hjl : j < p - i := by rw [nI_leI (by omega) (by omega)] at c147; omega
            refine lv_aload_n hx hb d_QueryReader_shortSelector_150 rfl (lv_at hl 1 rfl) ?_
            refine va_get (D := (dC, dI)) (ci := 7) (v := .ref qn) (C := R_Selector) (T := F_Selector) (N := 9) hx hb hts in_Selector hown hK hP 4 rfl rfl 1 (by decide) (hts _ z_613) (fun _ h9 => h9) rfl d_QueryReader_shortSelector_151 ?_
            refine lv_iload hx hb d_QueryReader_shortSelector_154 (lv_at hl 3 rfl) ?_
            refine lv_aload_n hx hb d_QueryReader_shortSelector_156 rfl (lv_at hl 0 rfl) ?_
            refine va_get (D := (dC, dI)) (ci := 5) (v := .ref h0) (C := R_QueryReader) (T := F_QueryReader) (N := 2) hx hb hts in_QueryReader hown hK hP 0 rfl rfl 0 (by decide) (hts _ w_100) (fun _ h9 => h9) rfl d_QueryReader_shortSelector_157 ?_
            refine va_get (D := (dC, dI)) (ci := 8) (v := .ref qb) (C := R_Tape) (T := F_Tape) (N := 7) hx hb hts in_Tape hown hK hP 1 rfl rfl 0 (by decide) (hts _ z_44) (fun _ h9 => h9) rfl d_QueryReader_shortSelector_160 ?_
            refine lv_iload_n hx hb d_QueryReader_shortSelector_163 rfl (lv_at hl 2 rfl) ?_
            refine lv_iload hx hb d_QueryReader_shortSelector_164 (lv_at hl 3 rfl) ?_
            refine lv_iadd hx hb d_QueryReader_shortSelector_166 ?_
            refine W.eq (g2 := F0 m 167 ls [.int (nI (i + j)), .ref qb, .int (nI j), .ref qn]) (by rw [show ((nI i) + (nI j)) = (nI (i + j)) from (nI_add _ _)]) ?_
            refine va_bald hx hb hK hP 2 0 rfl rfl (vp_in_nI (show i + j < 4096 by omega) (by decide)) d_QueryReader_shortSelector_167 ?_
            rw [show (nI (i + j)).toNatClampNeg = i + j from nI_clamp (by omega)]
            refine va_iast hx hb hK hP hD hS 5 1 rfl rfl (vp_in_nI hjl (by omega)) d_QueryReader_shortSelector_168 (fun H locs hP hD hS => ?_)
            rw [show (nI j).toNatClampNeg = j from nI_clamp (by omega)] at hP hD
            have hP : va_P (dC, dI) classes ([(qr, .inr (5, [.ref h0, .int (nI o)])), (h0, .inr (8, [.ref qb, .ref qu, .int uc, .int ln, .int (nI n), .int (nI p), .int pl])), (qb, .inl (cB, 4096, .inl bf)), (qu, .inl (cI, 4096, .inl ug)), (q, .inr (7, [.int 0, .ref qn, .int 0, .int 0, .long 0, .long 0, .long 1, .null, .null])), (qn, .inl (cI, (p - i), .inl (upd g j (bf (i + j)))))] ++ va_pl L f) H := hP
            have hD : va_D A ([(qr, .inr (5, [.ref h0, .int (nI o)])), (h0, .inr (8, [.ref qb, .ref qu, .int uc, .int ln, .int (nI n), .int (nI p), .int pl])), (qb, .inl (cB, 4096, .inl bf)), (qu, .inl (cI, 4096, .inl ug)), (q, .inr (7, [.int 0, .ref qn, .int 0, .int 0, .long 0, .long 0, .long 1, .null, .null])), (qn, .inl (cI, (p - i), .inl (upd g j (bf (i + j)))))] ++ va_pl L f) := hD
            refine lv_iinc (v := nI (j + 1)) (lv' := [(4, .int (nI (j + 1))), (0, .ref qr), (2, .ref q), (3, .int (nI i))]) hx hb d_QueryReader_shortSelector_169 hl (k := 3) rfl (nI_1 _) (by decide) rfl (fun ls hl => ?_)
            refine lv_goto (tgt := 140) hx hb d_QueryReader_shortSelector_172 (by decide) ?_
            exact ih (j + 1, _) _ _ _ (show j + 1 ≤ (p - i) by omega) (by show (p - i) - (j + 1) < (p - i) - j; omega) hP hD hS (lv_sub hl [1, 2, 3, 0] rfl)
        · have hpn : p < n := by rw [nI_leI (by omega) (by omega)] at c90; omega
          refine lv_aload_n hx hb d_QueryReader_shortSelector_93 rfl (lv_at hl 0 rfl) ?_
          refine va_get (D := (dC, dI)) (ci := 5) (v := .ref h0) (C := R_QueryReader) (T := F_QueryReader) (N := 2) hx hb hts in_QueryReader hown hK hP 0 rfl rfl 0 (by decide) (hts _ w_100) (fun _ h9 => h9) rfl d_QueryReader_shortSelector_94 ?_
          have hPc := hP.sub (ws' := [(h0, .inr (8, [.ref qb, .ref qu, .int uc, .int ln, .int (nI n), .int (nI p), .int pl])), (qb, .inl (cB, 4096, .inl bf))]) [1, 2] rfl
          have hDc := hD.sub (ws' := [(h0, .inr (8, [.ref qb, .ref qu, .int uc, .int ln, .int (nI n), .int (nI p), .int pl])), (qb, .inl (cB, 4096, .inl bf))]) [1, 2] (by decide) rfl
          have hFc := va_free (wc := [(h0, .inr (8, [.ref qb, .ref qu, .int uc, .int ln, .int (nI n), .int (nI p), .int pl])), (qb, .inl (cB, 4096, .inl bf))]) hD hS hA [1, 2] rfl
          have hKc := hK.sub (tys' := [(cB, .byte)]) [0] rfl
          refine va_calli (va_runV (As := []) (rest := []) ⟨hx, hb, hml, hown, hts⟩ (c_Tape_here l dC dI cB h0 qb H (.ref qu) uc ln pl bf n p hn0 (by omega)) (cwV 0 hts (gt_V (own := R_QueryReader) (C := R_Tape) (i := 19) (y := y_Tape_here) i_Tape_here z_534 w_363 w_364 w_2) rfl rfl rfl (by decide +kernel) ⟨Nat.le_of_ble_eq_true rfl, Nat.le_of_ble_eq_true rfl⟩) ⟨mp_blind, va_recv hK hP (ci := 8) (q0 := 1) rfl rfl, fun U hU hW => ⟨rfl, hU, by rw [hU]; exact hPc, va_K.moved hW.alike hKc, hDc.weaken (fun _ _ _ _ => trivial)⟩⟩ rfl rfl hl.1 rfl (lv_room (Nat.le_of_ble_eq_true rfl)) d_QueryReader_shortSelector_97 ⟨by show (0 + 1) + (0) ≤ 3; omega, by show (0 + 9) + (0) ≤ 15 + (n - i); omega⟩) hS (fun q _ h => hFc q h) hFc (fun h25 _u t9 H1 locs ht hvm hw hB hz1 hk1 hS => ?_)
          obtain ⟨hP1, hK1, hD1⟩ := hB
          rw [ht] at hP1
          obtain ⟨hP, hD⟩ := va_joinQ (wr := [(qr, .inr (5, [.ref h0, .int (nI o)])), (qu, .inl (cI, 4096, .inl ug)), (q, .inr (7, [.int 0, .null, .int 0, .int 0, .long 0, .long 0, .long 1, .null, .null]))]) (w1 := [(h0, .inr (8, [.ref qb, .ref qu, .int uc, .int ln, .int (nI n), .int (nI p), .int pl])), (qb, .inl (cB, 4096, .inl bf))]) hP hD [1, 2] [0, 3, 4] rfl rfl (by decide) (by decide) hk1 hFc hP1 hD1
          generalize H1 = H at hP hS ⊢
          have hP : va_P (dC, dI) classes ([(qr, .inr (5, [.ref h0, .int (nI o)])), (qu, .inl (cI, 4096, .inl ug)), (q, .inr (7, [.int 0, .null, .int 0, .int 0, .long 0, .long 0, .long 1, .null, .null])), (h0, .inr (8, [.ref qb, .ref qu, .int uc, .int ln, .int (nI n), .int (nI p), .int pl])), (qb, .inl (cB, 4096, .inl bf))] ++ va_pl L f) H := hP
          have hD : va_D A ([(qr, .inr (5, [.ref h0, .int (nI o)])), (qu, .inl (cI, 4096, .inl ug)), (q, .inr (7, [.int 0, .null, .int 0, .int 0, .long 0, .long 0, .long 1, .null, .null])), (h0, .inr (8, [.ref qb, .ref qu, .int uc, .int ln, .int (nI n), .int (nI p), .int pl])), (qb, .inl (cB, 4096, .inl bf))] ++ va_pl L f) := hD
          have hP := hP.part (cx := [(qr, .inr (5, [.ref h0, .int (nI o)])), (h0, .inr (8, [.ref qb, .ref qu, .int uc, .int ln, .int (nI n), .int (nI p), .int pl])), (qb, .inl (cB, 4096, .inl bf)), (qu, .inl (cI, 4096, .inl ug)), (q, .inr (7, [.int 0, .null, .int 0, .int 0, .long 0, .long 0, .long 1, .null, .null]))]) [0, 3, 4, 1, 2] rfl
          have hD := hD.part (cx := [(qr, .inr (5, [.ref h0, .int (nI o)])), (h0, .inr (8, [.ref qb, .ref qu, .int uc, .int ln, .int (nI n), .int (nI p), .int pl])), (qb, .inl (cB, 4096, .inl bf)), (qu, .inl (cI, 4096, .inl ug)), (q, .inr (7, [.int 0, .null, .int 0, .int 0, .long 0, .long 0, .long 1, .null, .null]))]) [0, 3, 4, 1, 2] (by decide) rfl
          have h_h25 : h25 = hereV bf n p := hw
          refine vp_callSi (va_Run.run (va_runS (As := [.int h25]) (rest := []) ⟨hx, hb, hml, hown, hts⟩ (c_QueryReader_isNameByte l dC dI H h25) (va_cwS 1 hts (gt_S (own := R_QueryReader) (i := 81) (y := y_QueryReader_isNameByte) i_QueryReader_isNameByte z_793 z_794 w_4) rfl rfl rfl (by decide +kernel) ⟨Nat.le_of_ble_eq_true rfl, Nat.le_of_ble_eq_true rfl⟩) ⟨mT_blind, fun U hU hW => ⟨rfl, hN.warm hW⟩⟩ rfl rfl hl.1 rfl (lv_room (Nat.le_of_ble_eq_true rfl)) d_QueryReader_shortSelector_100 ⟨by show (0 + 1) + (0) ≤ 3; omega, by show (0 + 9) + (0) ≤ 15 + (n - i); omega⟩)) (fun r26 h_r26 => ?_)
          refine lv_if_eq (tgt := 122) hx hb d_QueryReader_shortSelector_103 (by decide) (fun c103 => ?_) (fun c103 => ?_)
          · have hne : nmC bf n (n - i) i = p := hnm.trans (nmC_e (by rw [← h_h25]; exact h_r26.2.2 c103))
            refine lv_aload_n hx hb d_QueryReader_shortSelector_122 rfl (lv_at hl 1 rfl) ?_
            refine lv_aload_n hx hb d_QueryReader_shortSelector_123 rfl (lv_at hl 0 rfl) ?_
            refine va_get (D := (dC, dI)) (ci := 5) (v := .ref h0) (C := R_QueryReader) (T := F_QueryReader) (N := 2) hx hb hts in_QueryReader hown hK hP 0 rfl rfl 0 (by decide) (hts _ w_100) (fun _ h9 => h9) rfl d_QueryReader_shortSelector_124 ?_
            refine va_get (D := (dC, dI)) (ci := 8) (v := .int (nI p)) (C := R_Tape) (T := F_Tape) (N := 7) hx hb hts in_Tape hown hK hP 1 rfl rfl 5 (by decide) (hts _ z_53) (fun _ h9 => h9) rfl d_QueryReader_shortSelector_127 ?_
            refine lv_iload_n hx hb d_QueryReader_shortSelector_130 rfl (lv_at hl 2 rfl) ?_
            refine lv_isub hx hb d_QueryReader_shortSelector_131 ?_
            refine W.eq (g2 := F0 m 132 ls [.int (nI (p - i)), .ref q]) (by rw [show ((nI p) - (nI i)) = (nI (p - i)) from (pk_sub (by omega))]) ?_
            refine va_newa (atype := .int) (ty := .int) (N' := (p - i)) (a0 := ((p - i), .inl (fun _ => 0))) hx hb (hts _ w_73) rfl hK hP hD hS hA (fun _ => rfl) (nI_pos (by omega)) (nI_clamp (by omega)) (by show (p - i) * 4 ≤ 536870912; omega) (by show (0 + 1) + 1 ≤ 3; omega) (by show (0 + 9) + (p - i) ≤ 15 + (n - i); omega) d_QueryReader_shortSelector_132 (fun qn cA H hK hP hD hS => ?_)
            obtain rfl : cI = cA := Option.some.inj ((hK.2 1 _ rfl).2.symm.trans (hK.2 3 _ rfl).2)
            have hK := hK.sub (tys' := [(cB, .byte), (cI, .int), (cV, .object "QueryBench$Value")]) [0, 1, 2] rfl
            have hz_qn := newA hAe hD (fun k x hk => by rcases k with _ | _ | _ | _ | k; (· cases hk; exact ⟨0, _, rfl⟩); (· cases hk; exact ⟨1, _, rfl⟩); (· cases hk; exact ⟨2, _, rfl⟩); (· cases hk; exact ⟨3, _, rfl⟩); (· exact ⟨k + 5, x.2, hk⟩))
            have hP := hP.swap
            have hD := hD.swap
            have hP : va_P (dC, dI) classes ([(qr, .inr (5, [.ref h0, .int (nI o)])), (h0, .inr (8, [.ref qb, .ref qu, .int uc, .int ln, .int (nI n), .int (nI p), .int pl])), (qb, .inl (cB, 4096, .inl bf)), (qu, .inl (cI, 4096, .inl ug)), (q, .inr (7, [.int 0, .null, .int 0, .int 0, .long 0, .long 0, .long 1, .null, .null])), (qn, .inl (cI, (p - i), .inl (fun _ => 0)))] ++ va_pl L f) H := hP
            have hD : va_D A ([(qr, .inr (5, [.ref h0, .int (nI o)])), (h0, .inr (8, [.ref qb, .ref qu, .int uc, .int ln, .int (nI n), .int (nI p), .int pl])), (qb, .inl (cB, 4096, .inl bf)), (qu, .inl (cI, 4096, .inl ug)), (q, .inr (7, [.int 0, .null, .int 0, .int 0, .long 0, .long 0, .long 1, .null, .null])), (qn, .inl (cI, (p - i), .inl (fun _ => 0)))] ++ va_pl L f) := hD
            refine va_put (D := (dC, dI)) (ci := 7) (v := .ref qn) (ty := .array .int) (C := R_Selector) (T := F_Selector) (N := 9) hx hb hts in_Selector t_Selector t_Selector_ok n_Selector hown hK hP hD hS 4 rfl rfl 1 (by decide) (hts _ z_613) (fun _ h9 => h9) rfl (by decide +kernel) rfl rfl (Nat.le_of_ble_eq_true rfl) d_QueryReader_shortSelector_134 (fun H locs hP hD hS => ?_)
            have hP : va_P (dC, dI) classes ([(qr, .inr (5, [.ref h0, .int (nI o)])), (h0, .inr (8, [.ref qb, .ref qu, .int uc, .int ln, .int (nI n), .int (nI p), .int pl])), (qb, .inl (cB, 4096, .inl bf)), (qu, .inl (cI, 4096, .inl ug)), (q, .inr (7, [.int 0, .ref qn, .int 0, .int 0, .long 0, .long 0, .long 1, .null, .null])), (qn, .inl (cI, (p - i), .inl (fun _ => 0)))] ++ va_pl L f) H := hP
            have hD : va_D A ([(qr, .inr (5, [.ref h0, .int (nI o)])), (h0, .inr (8, [.ref qb, .ref qu, .int uc, .int ln, .int (nI n), .int (nI p), .int pl])), (qb, .inl (cB, 4096, .inl bf)), (qu, .inl (cI, 4096, .inl ug)), (q, .inr (7, [.int 0, .ref qn, .int 0, .int 0, .long 0, .long 0, .long 1, .null, .null])), (qn, .inl (cI, (p - i), .inl (fun _ => 0)))] ++ va_pl L f) := hD
            refine lv_iconst (v := 0) hx hb d_QueryReader_shortSelector_137 (by decide) ?_
            refine lv_istore (lv' := [(4, .int 0), (0, .ref qr), (2, .ref q), (3, .int (nI i))]) hx hb d_QueryReader_shortSelector_138 hl (by decide) rfl (fun ls hl => ?_)
            refine w_loop (D := (dC, dI)) (cl := classes) (A := A) (H0 := s.heap) (nL := 5) 140 (σ := Nat × (Nat → Int32)) (fun ⟨j, g⟩ => j ≤ (p - i)) (fun ⟨j, g⟩ => (p - i) - j) (fun ⟨j, g⟩ => [(qr, .inr (5, [.ref h0, .int (nI o)])), (h0, .inr (8, [.ref qb, .ref qu, .int uc, .int ln, .int (nI n), .int (nI p), .int pl])), (qb, .inl (cB, 4096, .inl bf)), (qu, .inl (cI, 4096, .inl ug)), (q, .inr (7, [.int 0, .ref qn, .int 0, .int 0, .long 0, .long 0, .long 1, .null, .null])), (qn, .inl (cI, (p - i), .inl g))] ++ va_pl L f) (fun ⟨j, g⟩ => [(0, .ref qr), (2, .ref q), (3, .int (nI i)), (4, .int (nI j))]) ?_ (0, fun _ => 0) (Nat.zero_le _) hP hD hS (lv_sub hl [1, 2, 3, 0] rfl)
            rintro ⟨j, g⟩ H locs ls hI ih hP hD hS hl
            have hP : va_P (dC, dI) classes ([(qr, .inr (5, [.ref h0, .int (nI o)])), (h0, .inr (8, [.ref qb, .ref qu, .int uc, .int ln, .int (nI n), .int (nI p), .int pl])), (qb, .inl (cB, 4096, .inl bf)), (qu, .inl (cI, 4096, .inl ug)), (q, .inr (7, [.int 0, .ref qn, .int 0, .int 0, .long 0, .long 0, .long 1, .null, .null])), (qn, .inl (cI, (p - i), .inl g))] ++ va_pl L f) H := hP
            have hD : va_D A ([(qr, .inr (5, [.ref h0, .int (nI o)])), (h0, .inr (8, [.ref qb, .ref qu, .int uc, .int ln, .int (nI n), .int (nI p), .int pl])), (qb, .inl (cB, 4096, .inl bf)), (qu, .inl (cI, 4096, .inl ug)), (q, .inr (7, [.int 0, .ref qn, .int 0, .int 0, .long 0, .long 0, .long 1, .null, .null])), (qn, .inl (cI, (p - i), .inl g))] ++ va_pl L f) := hD
            have hl : lv_has ls 5 [(0, .ref qr), (2, .ref q), (3, .int (nI i)), (4, .int (nI j))] := hl
            have hj : j ≤ (p - i) := hI
            refine lv_iload hx hb d_QueryReader_shortSelector_140 (lv_at hl 3 rfl) ?_
            refine lv_aload_n hx hb d_QueryReader_shortSelector_142 rfl (lv_at hl 1 rfl) ?_
            refine va_get (D := (dC, dI)) (ci := 7) (v := .ref qn) (C := R_Selector) (T := F_Selector) (N := 9) hx hb hts in_Selector hown hK hP 4 rfl rfl 1 (by decide) (hts _ z_613) (fun _ h9 => h9) rfl d_QueryReader_shortSelector_143 ?_
            refine va_alen (v := nI (p - i)) hx hb hK hP 5 1 rfl rfl rfl d_QueryReader_shortSelector_146 ?_
            refine lv_icmp_ge (tgt := 175) hx hb d_QueryReader_shortSelector_147 (by decide) (fun c147 => ?_) (fun c147 => ?_)
            · refine lv_aload_n hx hb d_QueryReader_shortSelector_175 rfl (lv_at hl 1 rfl) ?_
              have hqnL := plD_new (X := [(qr, .inr (5, [.ref h0, .int (nI o)])), (h0, .inr (8, [.ref qb, .ref qu, .int uc, .int ln, .int (nI n), .int (nI p), .int pl])), (qb, .inl (cB, 4096, .inl bf)), (qu, .inl (cI, 4096, .inl ug)), (q, .inr (7, [.int 0, .ref qn, .int 0, .int 0, .long 0, .long 0, .long 1, .null, .null]))]) hD
              have hqn0 : E qn = 0 := Classical.byContradiction (fun h => hqnL (hO.inL h))
              have hP := plP_push (X := [(qr, .inr (5, [.ref h0, .int (nI o)])), (h0, .inr (8, [.ref qb, .ref qu, .int uc, .int ln, .int (nI n), .int (nI p), .int pl])), (qb, .inl (cB, 4096, .inl bf)), (qu, .inl (cI, 4096, .inl ug)), (q, .inr (7, [.int 0, .ref qn, .int 0, .int 0, .long 0, .long 0, .long 1, .null, .null]))]) hP hqnL
              have hD := plD_push (X := [(qr, .inr (5, [.ref h0, .int (nI o)])), (h0, .inr (8, [.ref qb, .ref qu, .int uc, .int ln, .int (nI n), .int (nI p), .int pl])), (qb, .inl (cB, 4096, .inl bf)), (qu, .inl (cI, 4096, .inl ug)), (q, .inr (7, [.int 0, .ref qn, .int 0, .int 0, .long 0, .long 0, .long 1, .null, .null]))]) hD hqnL
              have hqL := plD_new (X := [(qr, .inr (5, [.ref h0, .int (nI o)])), (h0, .inr (8, [.ref qb, .ref qu, .int uc, .int ln, .int (nI n), .int (nI p), .int pl])), (qb, .inl (cB, 4096, .inl bf)), (qu, .inl (cI, 4096, .inl ug))]) hD
              have hq0 : va_up E qn 4 q = 0 := by
                have hG0 : QG cI cV E lv L f i n p s.heap.size [] E lv f := (QG.rf hO hin).mv (by omega) (by omega)
                have hG1 := hG0.add (q := qn) (s := 4) (b := 0) (e := tE cI (p - i) g) hqn0 (by rw [List.append_nil]; exact hqnL) hz_qn (by decide) (by decide) (CO.T (va_up_self _ _ _) ⟨_, _, rfl, by omega⟩)
                exact Classical.byContradiction (fun h => hqL (by have := hG1.po.inL h; exact this))
              have hqq : qn ≠ q := fun e => by rw [← e, va_up_self] at hq0; cases hq0
              have hP := plP_push (X := [(qr, .inr (5, [.ref h0, .int (nI o)])), (h0, .inr (8, [.ref qb, .ref qu, .int uc, .int ln, .int (nI n), .int (nI p), .int pl])), (qb, .inl (cB, 4096, .inl bf)), (qu, .inl (cI, 4096, .inl ug))]) hP hqL
              have hD := plD_push (X := [(qr, .inr (5, [.ref h0, .int (nI o)])), (h0, .inr (8, [.ref qb, .ref qu, .int uc, .int ln, .int (nI n), .int (nI p), .int pl])), (qb, .inl (cB, 4096, .inl bf)), (qu, .inl (cI, 4096, .inl ug))]) hD hqL
              rw [List.append_assoc] at hP hD
              have hqE : E q = 0 := by rw [va_up_ne _ _ (Ne.symm hqq)] at hq0; exact hq0
              have hQ : QPn cI cV E L f i n s.heap.size 9 0 0 q p (([] ++ [qn]) ++ [q]) (va_up (va_up E qn 4) q 9) (va_up (va_up f qn (tE cI (p - i) g)) q (lE 0 (some qn) 0 0 0 0 1 none none)) := by
                refine ⟨hqE, va_up_self _ _ _, by omega, by omega, fun lv hO b _ => ?_⟩
                have hG0 : QG cI cV E lv L f i n p s.heap.size [] E lv f := (QG.rf hO hin).mv (by omega) (by omega)
                have hG1 := hG0.add (q := qn) (s := 4) (b := 0) (e := tE cI (p - i) g) hqn0 (by rw [List.append_nil]; exact hqnL) hz_qn (by decide) (by decide) (CO.T (va_up_self _ _ _) ⟨_, _, rfl, by omega⟩)
                exact ⟨va_up (va_up lv qn 0) q b, hG1.add (q := q) (s := 9) (b := b) (e := lE 0 (some qn) 0 0 0 0 1 none none) hq0 hqL hz_q (by decide) (by decide) (CO.L (va_up_self _ _ _) ⟨_, _, _, _, _, _, _, _, _, rfl, ⟨(fun b h => by cases h; exact (va_up_ne _ _ hqq).trans (va_up_self _ _ _)), fun b h => (nomatch h), fun b h => (nomatch h), (fun _ h => by cases h), fun h0 h1 => absurd rfl h0, by decide, by decide⟩⟩), va_up_self _ _ _⟩
              have hP : va_P (dC, dI) classes ([(qr, .inr (5, [.ref h0, .int (nI o)])), (h0, .inr (8, [.ref qb, .ref qu, .int uc, .int ln, .int (nI n), .int (nI p), .int pl])), (qb, .inl (cB, 4096, .inl bf)), (qu, .inl (cI, 4096, .inl ug))] ++ va_pl ((L ++ (([] ++ [qn]) ++ [q]))) ((va_up (va_up f qn (tE cI (p - i) g)) q (lE 0 (some qn) 0 0 0 0 1 none none)))) H := hP
              have hD : va_D A ([(qr, .inr (5, [.ref h0, .int (nI o)])), (h0, .inr (8, [.ref qb, .ref qu, .int uc, .int ln, .int (nI n), .int (nI p), .int pl])), (qb, .inl (cB, 4096, .inl bf)), (qu, .inl (cI, 4096, .inl ug))] ++ va_pl ((L ++ (([] ++ [qn]) ++ [q]))) ((va_up (va_up f qn (tE cI (p - i) g)) q (lE 0 (some qn) 0 0 0 0 1 none none)))) := hD
              have hok : shC bf n (nwB nw) i = some (p, sgL ((va_up (va_up f qn (tE cI (p - i) g)) q (lE 0 (some qn) 0 0 0 0 1 none none)) q)) := by rw [va_up_self, sgL_0]; exact sh_n hns hlet hne
              refine w_same (fun hq => ?_)
              refine W.widen (k := 3) (n := 15 + (n - i)) (by show ((0 + 1) + 1) ≤ 3; omega) (by show ((0 + 9) + (p - i)) ≤ 15 + (n - i); omega) ?_
              refine vx_ret ?_
              exact W.aret (v := .ref q) hx hb hr (Or.inl ⟨_, rfl⟩) (Or.inr ⟨_, rfl⟩) (fun t9 ht hW => ⟨⟨(q, p, ([] ++ [qn]) ++ [q], va_up (va_up E qn 4) q 9, va_up (va_up f qn (tE cI (p - i) g)) q (lE 0 (some qn) 0 0 0 0 1 none none)), q, rfl, ⟨hQ, hok⟩, ⟨by rw [ht]; exact hP, va_K.moved hW.alike hK, hD⟩, by rw [ht]; exact ⟨hq.mono (by show ((0 + 1) + 1) ≤ 2; omega) (by show ((0 + 9) + (p - i)) ≤ 9 + (p - i); omega), rfl⟩⟩, hS.F ht⟩) hS.2.2 d_QueryReader_shortSelector_176
            · have hjl : j < p - i := by rw [nI_leI (by omega) (by omega)] at c147; omega
              refine lv_aload_n hx hb d_QueryReader_shortSelector_150 rfl (lv_at hl 1 rfl) ?_
              refine va_get (D := (dC, dI)) (ci := 7) (v := .ref qn) (C := R_Selector) (T := F_Selector) (N := 9) hx hb hts in_Selector hown hK hP 4 rfl rfl 1 (by decide) (hts _ z_613) (fun _ h9 => h9) rfl d_QueryReader_shortSelector_151 ?_
              refine lv_iload hx hb d_QueryReader_shortSelector_154 (lv_at hl 3 rfl) ?_
              refine lv_aload_n hx hb d_QueryReader_shortSelector_156 rfl (lv_at hl 0 rfl) ?_
              refine va_get (D := (dC, dI)) (ci := 5) (v := .ref h0) (C := R_QueryReader) (T := F_QueryReader) (N := 2) hx hb hts in_QueryReader hown hK hP 0 rfl rfl 0 (by decide) (hts _ w_100) (fun _ h9 => h9) rfl d_QueryReader_shortSelector_157 ?_
              refine va_get (D := (dC, dI)) (ci := 8) (v := .ref qb) (C := R_Tape) (T := F_Tape) (N := 7) hx hb hts in_Tape hown hK hP 1 rfl rfl 0 (by decide) (hts _ z_44) (fun _ h9 => h9) rfl d_QueryReader_shortSelector_160 ?_
              refine lv_iload_n hx hb d_QueryReader_shortSelector_163 rfl (lv_at hl 2 rfl) ?_
              refine lv_iload hx hb d_QueryReader_shortSelector_164 (lv_at hl 3 rfl) ?_
              refine lv_iadd hx hb d_QueryReader_shortSelector_166 ?_
              refine W.eq (g2 := F0 m 167 ls [.int (nI (i + j)), .ref qb, .int (nI j), .ref qn]) (by rw [show ((nI i) + (nI j)) = (nI (i + j)) from (nI_add _ _)]) ?_
              refine va_bald hx hb hK hP 2 0 rfl rfl (vp_in_nI (show i + j < 4096 by omega) (by decide)) d_QueryReader_shortSelector_167 ?_
              rw [show (nI (i + j)).toNatClampNeg = i + j from nI_clamp (by omega)]
              refine va_iast hx hb hK hP hD hS 5 1 rfl rfl (vp_in_nI hjl (by omega)) d_QueryReader_shortSelector_168 (fun H locs hP hD hS => ?_)
              rw [show (nI j).toNatClampNeg = j from nI_clamp (by omega)] at hP hD
              have hP : va_P (dC, dI) classes ([(qr, .inr (5, [.ref h0, .int (nI o)])), (h0, .inr (8, [.ref qb, .ref qu, .int uc, .int ln, .int (nI n), .int (nI p), .int pl])), (qb, .inl (cB, 4096, .inl bf)), (qu, .inl (cI, 4096, .inl ug)), (q, .inr (7, [.int 0, .ref qn, .int 0, .int 0, .long 0, .long 0, .long 1, .null, .null])), (qn, .inl (cI, (p - i), .inl (upd g j (bf (i + j)))))] ++ va_pl L f) H := hP
              have hD : va_D A ([(qr, .inr (5, [.ref h0, .int (nI o)])), (h0, .inr (8, [.ref qb, .ref qu, .int uc, .int ln, .int (nI n), .int (nI p), .int pl])), (qb, .inl (cB, 4096, .inl bf)), (qu, .inl (cI, 4096, .inl ug)), (q, .inr (7, [.int 0, .ref qn, .int 0, .int 0, .long 0, .long 0, .long 1, .null, .null])), (qn, .inl (cI, (p - i), .inl (upd g j (bf (i + j)))))] ++ va_pl L f) := hD
              refine lv_iinc (v := nI (j + 1)) (lv' := [(4, .int (nI (j + 1))), (0, .ref qr), (2, .ref q), (3, .int (nI i))]) hx hb d_QueryReader_shortSelector_169 hl (k := 3) rfl (nI_1 _) (by decide) rfl (fun ls hl => ?_)
              refine lv_goto (tgt := 140) hx hb d_QueryReader_shortSelector_172 (by decide) ?_
              exact ih (j + 1, _) _ _ _ (show j + 1 ≤ (p - i) by omega) (by show (p - i) - (j + 1) < (p - i) - j; omega) hP hD hS (lv_sub hl [1, 2, 3, 0] rfl)
          · have hnm2 : nmC bf n (n - i) i = nmC bf n (n - (p + 1)) (p + 1) := hnm.trans (nmC_s hpn (by rw [← h_h25]; exact h_r26.2.1 c103))
            refine lv_aload_n hx hb d_QueryReader_shortSelector_106 rfl (lv_at hl 0 rfl) ?_
            refine va_get (D := (dC, dI)) (ci := 5) (v := .ref h0) (C := R_QueryReader) (T := F_QueryReader) (N := 2) hx hb hts in_QueryReader hown hK hP 0 rfl rfl 0 (by decide) (hts _ w_100) (fun _ h9 => h9) rfl d_QueryReader_shortSelector_107 ?_
            refine lv_dup hx hb d_QueryReader_shortSelector_110 rfl ?_
            refine va_get (D := (dC, dI)) (ci := 8) (v := .int (nI p)) (C := R_Tape) (T := F_Tape) (N := 7) hx hb hts in_Tape hown hK hP 1 rfl rfl 5 (by decide) (hts _ z_53) (fun _ h9 => h9) rfl d_QueryReader_shortSelector_111 ?_
            refine lv_iconst (v := 1) hx hb d_QueryReader_shortSelector_114 (by decide) ?_
            refine lv_iadd hx hb d_QueryReader_shortSelector_115 ?_
            refine W.eq (g2 := F0 m 116 ls [.int (nI (p + 1)), .ref h0]) (by rw [show ((nI p) + 1) = (nI (p + 1)) from nI_1 _]) ?_
            refine va_put (D := (dC, dI)) (ci := 8) (v := .int (nI (p + 1))) (ty := .int) (C := R_Tape) (T := F_Tape) (N := 7) hx hb hts in_Tape t_Tape t_Tape_ok n_Tape hown hK hP hD hS 1 rfl rfl 5 (by decide) (hts _ z_53) (fun _ h9 => h9) rfl (by decide +kernel) rfl rfl (Nat.le_of_ble_eq_true rfl) d_QueryReader_shortSelector_116 (fun H locs hP hD hS => ?_)
            have hP : va_P (dC, dI) classes ([(qr, .inr (5, [.ref h0, .int (nI o)])), (h0, .inr (8, [.ref qb, .ref qu, .int uc, .int ln, .int (nI n), .int (nI (p + 1)), .int pl])), (qb, .inl (cB, 4096, .inl bf)), (qu, .inl (cI, 4096, .inl ug)), (q, .inr (7, [.int 0, .null, .int 0, .int 0, .long 0, .long 0, .long 1, .null, .null]))] ++ va_pl L f) H := hP
            have hD : va_D A ([(qr, .inr (5, [.ref h0, .int (nI o)])), (h0, .inr (8, [.ref qb, .ref qu, .int uc, .int ln, .int (nI n), .int (nI (p + 1)), .int pl])), (qb, .inl (cB, 4096, .inl bf)), (qu, .inl (cI, 4096, .inl ug)), (q, .inr (7, [.int 0, .null, .int 0, .int 0, .long 0, .long 0, .long 1, .null, .null]))] ++ va_pl L f) := hD
            have hP : va_P (dC, dI) classes ([(qr, .inr (5, [.ref h0, .int (nI o)])), (h0, .inr (8, [.ref qb, .ref qu, .int uc, .int ln, .int (nI n), .int (nI (p + 1)), .int pl])), (qb, .inl (cB, 4096, .inl bf)), (qu, .inl (cI, 4096, .inl ug)), (q, .inr (7, [.int 0, .null, .int 0, .int 0, .long 0, .long 0, .long 1, .null, .null]))] ++ va_pl L f) H := hP
            have hD : va_D A ([(qr, .inr (5, [.ref h0, .int (nI o)])), (h0, .inr (8, [.ref qb, .ref qu, .int uc, .int ln, .int (nI n), .int (nI (p + 1)), .int pl])), (qb, .inl (cB, 4096, .inl bf)), (qu, .inl (cI, 4096, .inl ug)), (q, .inr (7, [.int 0, .null, .int 0, .int 0, .long 0, .long 0, .long 1, .null, .null]))] ++ va_pl L f) := hD
            refine lv_goto (tgt := 76) hx hb d_QueryReader_shortSelector_119 (by decide) ?_
            exact ih (p + 1) _ _ _ ⟨⟨show i ≤ p + 1 by omega, show p + 1 ≤ n by omega⟩, hnm2⟩ (by show n - (p + 1) < n - p; omega) hP hD hS (lv_sub hl [0, 1, 2] rfl)
      · refine lv_aload_n hx hb d_QueryReader_shortSelector_68 rfl (lv_at hl 2 rfl) ?_
        refine va_get (D := (dC, dI)) (ci := 5) (v := .ref h0) (C := R_QueryReader) (T := F_QueryReader) (N := 2) hx hb hts in_QueryReader hown hK hP 0 rfl rfl 0 (by decide) (hts _ w_100) (fun _ h9 => h9) rfl d_QueryReader_shortSelector_69 ?_
        refine lv_iload_n hx hb d_QueryReader_shortSelector_72 rfl (lv_at hl 0 rfl) ?_
        have hPc := hP.sub (ws' := [(h0, .inr (8, [.ref qb, .ref qu, .int uc, .int ln, .int (nI n), .int (nI i), .int pl])), (qb, .inl (cB, 4096, .inl bf))]) [1, 2] rfl
        have hDc := hD.sub (ws' := [(h0, .inr (8, [.ref qb, .ref qu, .int uc, .int ln, .int (nI n), .int (nI i), .int pl])), (qb, .inl (cB, 4096, .inl bf))]) [1, 2] (by decide) rfl
        have hFc := va_free (wc := [(h0, .inr (8, [.ref qb, .ref qu, .int uc, .int ln, .int (nI n), .int (nI i), .int pl])), (qb, .inl (cB, 4096, .inl bf))]) hD hS hA [1, 2] rfl
        have hKc := hK.sub (tys' := [(cB, .byte)]) [0] rfl
        refine w_same (fun hq0 => ?_)
        refine vx_callv (vx_runV (As := [.int (nI i)]) (rest := []) ⟨hx, hb, hml, hown, hts⟩ (c_Tape_fail l hl9 dC dI cB h0 qb H (.ref qu) uc ln (nI n) (nI i) pl bf ((nI i))) (cwV 1 hts (gt_V (own := R_QueryReader) (C := R_Tape) (i := 28) (y := y_Tape_fail) i_Tape_fail z_535 w_371 w_372 w_2) rfl rfl rfl (by decide +kernel) ⟨Nat.le_of_ble_eq_true rfl, Nat.le_of_ble_eq_true rfl⟩) ⟨mx_blind, va_recv hK hP (ci := 8) (q0 := 1) rfl rfl, fun U hU hW => ⟨rfl, ⟨hU, by rw [hU]; exact hPc, va_K.moved hW.alike hKc, hDc.weaken (fun _ _ _ _ => trivial)⟩, hN.warm hW, by rw [hU]; exact ZX.moved' hW.alike (ZX.narrow' (ZX.kept' hZ hS.2.1) hFc)⟩⟩ rfl rfl hl.1 rfl (lv_room (Nat.le_of_ble_eq_true rfl)) d_QueryReader_shortSelector_73 ⟨by show (0 + 1) + (1) ≤ 3; omega, by show (0 + 9) + (6) ≤ 15 + (n - i); omega⟩) hS (fun q _ h => hFc q h) hFc (fun q _ h => hFc q h) (fun En ce q9 _u t9 H1 locs ht hvm hw hB hz1 hk1 hS hce hcv hcl => ?_) (fun _u t9 H1 locs ht hvm hw hB hz1 hk1 hS => ?_)
        · obtain ⟨hEn, hP1, hK1, hD1⟩ := hB
          rw [ht] at hP1
          obtain ⟨hP, hD⟩ := va_joinQ (wr := [(qr, .inr (5, [.ref h0, .int (nI o)])), (qu, .inl (cI, 4096, .inl ug)), (q, .inr (7, [.int 0, .null, .int 0, .int 0, .long 0, .long 0, .long 1, .null, .null]))]) (w1 := [(h0, .inr (8, [.ref qb, .ref qu, .int uc, .int ln, .int (nI n), .int (nI i), .int (nI i)])), (qb, .inl (cB, 4096, .inl bf))]) hP hD [1, 2] [0, 3, 4] rfl rfl (by decide) (by decide) hk1 hFc hP1 hD1
          generalize H1 = H at hP hS hce ⊢
          have hP : va_P (dC, dI) classes ([(qr, .inr (5, [.ref h0, .int (nI o)])), (qu, .inl (cI, 4096, .inl ug)), (q, .inr (7, [.int 0, .null, .int 0, .int 0, .long 0, .long 0, .long 1, .null, .null])), (h0, .inr (8, [.ref qb, .ref qu, .int uc, .int ln, .int (nI n), .int (nI i), .int (nI i)])), (qb, .inl (cB, 4096, .inl bf))] ++ va_pl L f) H := hP
          have hD : va_D A ([(qr, .inr (5, [.ref h0, .int (nI o)])), (qu, .inl (cI, 4096, .inl ug)), (q, .inr (7, [.int 0, .null, .int 0, .int 0, .long 0, .long 0, .long 1, .null, .null])), (h0, .inr (8, [.ref qb, .ref qu, .int uc, .int ln, .int (nI n), .int (nI i), .int (nI i)])), (qb, .inl (cB, 4096, .inl bf))] ++ va_pl L f) := hD
          have hP := hP.part (cx := [(qr, .inr (5, [.ref h0, .int (nI o)])), (h0, .inr (8, [.ref qb, .ref qu, .int uc, .int ln, .int (nI n), .int (nI i), .int (nI i)])), (qb, .inl (cB, 4096, .inl bf)), (qu, .inl (cI, 4096, .inl ug)), (q, .inr (7, [.int 0, .null, .int 0, .int 0, .long 0, .long 0, .long 1, .null, .null]))]) [0, 3, 4, 1, 2] rfl
          have hD := hD.part (cx := [(qr, .inr (5, [.ref h0, .int (nI o)])), (h0, .inr (8, [.ref qb, .ref qu, .int uc, .int ln, .int (nI n), .int (nI i), .int (nI i)])), (qb, .inl (cB, 4096, .inl bf)), (qu, .inl (cI, 4096, .inl ug)), (q, .inr (7, [.int 0, .null, .int 0, .int 0, .long 0, .long 0, .long 1, .null, .null]))]) [0, 3, 4, 1, 2] (by decide) rfl
          have hP := hP.part (cx := [(qr, .inr (5, [.ref h0, .int (nI o)])), (h0, .inr (8, [.ref qb, .ref qu, .int uc, .int ln, .int (nI n), .int (nI i), .int (nI i)])), (qb, .inl (cB, 4096, .inl bf)), (qu, .inl (cI, 4096, .inl ug))]) [0, 1, 2, 3] rfl
          have hD := hD.part (cx := [(qr, .inr (5, [.ref h0, .int (nI o)])), (h0, .inr (8, [.ref qb, .ref qu, .int uc, .int ln, .int (nI n), .int (nI i), .int (nI i)])), (qb, .inl (cB, 4096, .inl bf)), (qu, .inl (cI, 4096, .inl ug))]) [0, 1, 2, 3] (by decide) rfl
          have hno : shC bf n (nwB nw) i = none := sh_0 hns (dig_nl (by rw [← h_h23]; exact h_r24.2.1 c65))
          exact vx_out (fun x hx => (hex x hx).elim) hlocks hce hcv hcl (fun t9 ht2 ha => ⟨(nI i, uc, (nI i), ug, nI o), hno, ⟨hEn, by rw [ht2]; exact hP, va_K.moved ha hK, hD⟩, hS.F ht2⟩) hS.2.2 (by show (0 + 1) + (1) ≤ 3; omega) (by show (0 + 9) + (6) ≤ 15 + (n - i); omega)
        · obtain ⟨⟨hP1, hK1, hD1⟩, hz9⟩ := hB
          rw [ht] at hP1
          rw [ht] at hz9
          refine w_tight (hq0.trans hz9) ?_
          have hq0 := hq0.trans hz9
          obtain ⟨hP, hD⟩ := va_joinQ (wr := [(qr, .inr (5, [.ref h0, .int (nI o)])), (qu, .inl (cI, 4096, .inl ug)), (q, .inr (7, [.int 0, .null, .int 0, .int 0, .long 0, .long 0, .long 1, .null, .null]))]) (w1 := [(h0, .inr (8, [.ref qb, .ref qu, .int uc, .int ln, .int (nI n), .int (nI i), .int pl])), (qb, .inl (cB, 4096, .inl bf))]) hP hD [1, 2] [0, 3, 4] rfl rfl (by decide) (by decide) hk1 hFc hP1 hD1
          generalize H1 = H at hP hS hq0 ⊢
          have hP : va_P (dC, dI) classes ([(qr, .inr (5, [.ref h0, .int (nI o)])), (qu, .inl (cI, 4096, .inl ug)), (q, .inr (7, [.int 0, .null, .int 0, .int 0, .long 0, .long 0, .long 1, .null, .null])), (h0, .inr (8, [.ref qb, .ref qu, .int uc, .int ln, .int (nI n), .int (nI i), .int pl])), (qb, .inl (cB, 4096, .inl bf))] ++ va_pl L f) H := hP
          have hD : va_D A ([(qr, .inr (5, [.ref h0, .int (nI o)])), (qu, .inl (cI, 4096, .inl ug)), (q, .inr (7, [.int 0, .null, .int 0, .int 0, .long 0, .long 0, .long 1, .null, .null])), (h0, .inr (8, [.ref qb, .ref qu, .int uc, .int ln, .int (nI n), .int (nI i), .int pl])), (qb, .inl (cB, 4096, .inl bf))] ++ va_pl L f) := hD
          have hP := hP.part (cx := [(qr, .inr (5, [.ref h0, .int (nI o)])), (h0, .inr (8, [.ref qb, .ref qu, .int uc, .int ln, .int (nI n), .int (nI i), .int pl])), (qb, .inl (cB, 4096, .inl bf)), (qu, .inl (cI, 4096, .inl ug)), (q, .inr (7, [.int 0, .null, .int 0, .int 0, .long 0, .long 0, .long 1, .null, .null]))]) [0, 3, 4, 1, 2] rfl
          have hD := hD.part (cx := [(qr, .inr (5, [.ref h0, .int (nI o)])), (h0, .inr (8, [.ref qb, .ref qu, .int uc, .int ln, .int (nI n), .int (nI i), .int pl])), (qb, .inl (cB, 4096, .inl bf)), (qu, .inl (cI, 4096, .inl ug)), (q, .inr (7, [.int 0, .null, .int 0, .int 0, .long 0, .long 0, .long 1, .null, .null]))]) [0, 3, 4, 1, 2] (by decide) rfl
          exact hw.elim
  · refine lv_aload_n hx hb d_QueryReader_shortSelector_4 rfl (lv_at hl 0 rfl) ?_
    refine va_get (D := (dC, dI)) (ci := 5) (v := .ref h0) (C := R_QueryReader) (T := F_QueryReader) (N := 2) hx hb hts in_QueryReader hown hK hP 0 rfl rfl 0 (by decide) (hts _ w_100) (fun _ h9 => h9) rfl d_QueryReader_shortSelector_5 ?_
    refine lv_bipush (v := 42) hx hb d_QueryReader_shortSelector_8 (by decide) ?_
    have hPc := hP.sub (ws' := [(h0, .inr (8, [.ref qb, .ref qu, .int uc, .int ln, .int (nI n), .int (nI i), .int pl])), (qb, .inl (cB, 4096, .inl bf))]) [1, 2] rfl
    have hDc := hD.sub (ws' := [(h0, .inr (8, [.ref qb, .ref qu, .int uc, .int ln, .int (nI n), .int (nI i), .int pl])), (qb, .inl (cB, 4096, .inl bf))]) [1, 2] (by decide) rfl
    have hFc := va_free (wc := [(h0, .inr (8, [.ref qb, .ref qu, .int uc, .int ln, .int (nI n), .int (nI i), .int pl])), (qb, .inl (cB, 4096, .inl bf))]) hD hS hA [1, 2] rfl
    have hKc := hK.sub (tys' := [(cB, .byte)]) [0] rfl
    refine va_calli (va_runV (As := [.int 42]) (rest := []) ⟨hx, hb, hml, hown, hts⟩ (c_Tape_takeIf l dC dI cB h0 qb s.heap (.ref qu) uc ln pl bf n i 42 hn0 (by omega)) (cwV 1 hts (gt_V (own := R_QueryReader) (C := R_Tape) (i := 58) (y := y_Tape_takeIf) i_Tape_takeIf z_589 z_393 z_394 w_2) rfl rfl rfl (by decide +kernel) ⟨Nat.le_of_ble_eq_true rfl, Nat.le_of_ble_eq_true rfl⟩) ⟨mp_blind, va_recv hK hP (ci := 8) (q0 := 1) rfl rfl, fun U hU hW => ⟨rfl, hU, by rw [hU]; exact hPc, va_K.moved hW.alike hKc, hDc.weaken (fun _ _ _ _ => trivial)⟩⟩ rfl rfl hl.1 rfl (lv_room (Nat.le_of_ble_eq_true rfl)) d_QueryReader_shortSelector_10 ⟨by show 0 + (0) ≤ 3; omega, by show 0 + (0) ≤ 15 + (n - i); omega⟩) hS (fun q _ h => hFc q h) hFc (fun r27 u27 t9 H1 locs ht hvm hw hB hz1 hk1 hS => ?_)
    obtain ⟨hP1, hK1, hD1⟩ := hB
    rw [ht] at hP1
    obtain ⟨hP, hD⟩ := va_joinQ (wr := [(qr, .inr (5, [.ref h0, .int (nI o)])), (qu, .inl (cI, 4096, .inl ug))]) (w1 := [(h0, .inr (8, [.ref qb, .ref qu, .int uc, .int ln, .int (nI n), .int (nI u27), .int pl])), (qb, .inl (cB, 4096, .inl bf))]) hP hD [1, 2] [0, 3] rfl rfl (by decide) (by decide) hk1 hFc hP1 hD1
    generalize H1 = H at hP hS ⊢
    have hP : va_P (dC, dI) classes ([(qr, .inr (5, [.ref h0, .int (nI o)])), (qu, .inl (cI, 4096, .inl ug)), (h0, .inr (8, [.ref qb, .ref qu, .int uc, .int ln, .int (nI n), .int (nI u27), .int pl])), (qb, .inl (cB, 4096, .inl bf))] ++ va_pl L f) H := hP
    have hD : va_D A ([(qr, .inr (5, [.ref h0, .int (nI o)])), (qu, .inl (cI, 4096, .inl ug)), (h0, .inr (8, [.ref qb, .ref qu, .int uc, .int ln, .int (nI n), .int (nI u27), .int pl])), (qb, .inl (cB, 4096, .inl bf))] ++ va_pl L f) := hD
    have hP := hP.part (cx := [(qr, .inr (5, [.ref h0, .int (nI o)])), (h0, .inr (8, [.ref qb, .ref qu, .int uc, .int ln, .int (nI n), .int (nI u27), .int pl])), (qb, .inl (cB, 4096, .inl bf)), (qu, .inl (cI, 4096, .inl ug))]) [0, 2, 3, 1] rfl
    have hD := hD.part (cx := [(qr, .inr (5, [.ref h0, .int (nI o)])), (h0, .inr (8, [.ref qb, .ref qu, .int uc, .int ln, .int (nI n), .int (nI u27), .int pl])), (qb, .inl (cB, 4096, .inl bf)), (qu, .inl (cI, 4096, .inl ug))]) [0, 2, 3, 1] (by decide) rfl
    rcases hw with ⟨ht27, hr27, hu27⟩ | ⟨ht27, hr27, hu27⟩
    · have hu27 : u27 = i + 1 := hu27
      subst hr27
      rw [hu27] at hP hD
      have hl27 := here_lc ht27 (by decide)
      have hP : va_P (dC, dI) classes ([(qr, .inr (5, [.ref h0, .int (nI o)])), (h0, .inr (8, [.ref qb, .ref qu, .int uc, .int ln, .int (nI n), .int (nI (i + 1)), .int pl])), (qb, .inl (cB, 4096, .inl bf)), (qu, .inl (cI, 4096, .inl ug))] ++ va_pl L f) H := hP
      have hD : va_D A ([(qr, .inr (5, [.ref h0, .int (nI o)])), (h0, .inr (8, [.ref qb, .ref qu, .int uc, .int ln, .int (nI n), .int (nI (i + 1)), .int pl])), (qb, .inl (cB, 4096, .inl bf)), (qu, .inl (cI, 4096, .inl ug))] ++ va_pl L f) := hD
      refine lv_if_eq (tgt := 25) hx hb d_QueryReader_shortSelector_13 (by decide) (fun h => absurd h (by decide)) (fun _ => ?_)
      refine va_new (ci := 7) (fs := [.int 0, .null, .int 0, .int 0, .long 0, .long 0, .long 0, .null, .null]) (C := R_Selector) (T := F_Selector) (N := 9) hx hb hts in_Selector t_Selector t_Selector_ok hown (hts _ z_603) (hts _ z_604) (hts _ z_25) hK hP hD hS hA rfl (fun j hj => by rcases (show j = 0 ∨ j = 1 ∨ j = 2 ∨ j = 3 ∨ j = 4 ∨ j = 5 ∨ j = 6 ∨ j = 7 ∨ j = 8 by omega) with rfl | rfl | rfl | rfl | rfl | rfl | rfl | rfl | rfl <;> rfl) (by show 0 + 1 ≤ 3; omega) (by show 0 + 9 ≤ 15 + (n - i); omega) d_QueryReader_shortSelector_16 (fun q H hP hD hS => ?_)
      have hz_q := newA hAe hD (fun k x hk => by rcases k with _ | _ | _ | _ | k; (· cases hk; exact ⟨0, _, rfl⟩); (· cases hk; exact ⟨1, _, rfl⟩); (· cases hk; exact ⟨2, _, rfl⟩); (· cases hk; exact ⟨3, _, rfl⟩); (· exact ⟨k + 4, x.2, hk⟩))
      have hP := hP.swap
      have hD := hD.swap
      have hP : va_P (dC, dI) classes ([(qr, .inr (5, [.ref h0, .int (nI o)])), (h0, .inr (8, [.ref qb, .ref qu, .int uc, .int ln, .int (nI n), .int (nI (i + 1)), .int pl])), (qb, .inl (cB, 4096, .inl bf)), (qu, .inl (cI, 4096, .inl ug)), (q, .inr (7, [.int 0, .null, .int 0, .int 0, .long 0, .long 0, .long 0, .null, .null]))] ++ va_pl L f) H := hP
      have hD : va_D A ([(qr, .inr (5, [.ref h0, .int (nI o)])), (h0, .inr (8, [.ref qb, .ref qu, .int uc, .int ln, .int (nI n), .int (nI (i + 1)), .int pl])), (qb, .inl (cB, 4096, .inl bf)), (qu, .inl (cI, 4096, .inl ug)), (q, .inr (7, [.int 0, .null, .int 0, .int 0, .long 0, .long 0, .long 0, .null, .null]))] ++ va_pl L f) := hD
      refine lv_dup hx hb d_QueryReader_shortSelector_19 rfl ?_
      refine lv_iconst (v := 1) hx hb d_QueryReader_shortSelector_20 (by decide) ?_
      have hPc := hP.sub (ws' := [(q, .inr (7, [.int 0, .null, .int 0, .int 0, .long 0, .long 0, .long 0, .null, .null]))]) [4] rfl
      have hDc := hD.sub (ws' := [(q, .inr (7, [.int 0, .null, .int 0, .int 0, .long 0, .long 0, .long 0, .null, .null]))]) [4] (by decide) rfl
      have hFc := va_free (wc := [(q, .inr (7, [.int 0, .null, .int 0, .int 0, .long 0, .long 0, .long 0, .null, .null]))]) hD hS hA [4] rfl
      have hKc := hK.sub (tys' := []) [] rfl
      refine w_same (fun hq0 => ?_)
      refine va_callv (va_runI (As := [.int 1]) (rest := [.ref q]) ⟨hx, hb, hml, hown, hts⟩ (c_Selector_init l dC dI H q 1) (cwI 1 hts (gt_code i_Selector_init) rfl rfl rfl (hts _ z_25) (hts _ z_605) (hts _ z_606) rfl (by decide +kernel) ⟨Nat.le_of_ble_eq_true rfl, Nat.le_of_ble_eq_true rfl⟩) ⟨mp_blind, fun U hU hW => ⟨rfl, hU, by rw [hU]; exact hPc, va_K.moved hW.alike hKc, hDc.weaken (fun _ _ _ _ => trivial)⟩⟩ rfl rfl hl.1 rfl (lv_room (Nat.le_of_ble_eq_true rfl)) d_QueryReader_shortSelector_21 ⟨by show (0 + 1) + (0) ≤ 3; omega, by show (0 + 9) + (0) ≤ 15 + (n - i); omega⟩) hS (fun q _ h => hFc q h) hFc (fun _u t9 H1 locs ht hvm hw hB hz1 hk1 hS => ?_)
      obtain ⟨⟨hP1, hK1, hD1⟩, hz9⟩ := hB
      rw [ht] at hP1
      rw [ht] at hz9
      have hq0 : szk s.heap H1 ((0 + 1)) ((0 + 9)) := (hq0.trans hz9).mono (Nat.le_of_eq (Nat.add_zero _)) (Nat.le_of_eq (Nat.add_zero _))
      refine w_tight hq0 ?_
      obtain ⟨hP, hD⟩ := va_joinQ (wr := [(qr, .inr (5, [.ref h0, .int (nI o)])), (h0, .inr (8, [.ref qb, .ref qu, .int uc, .int ln, .int (nI n), .int (nI (i + 1)), .int pl])), (qb, .inl (cB, 4096, .inl bf)), (qu, .inl (cI, 4096, .inl ug))]) (w1 := [(q, .inr (7, [.int 1, .null, .int 0, .int 0, .long 0, .long 0, .long 1, .null, .null]))]) hP hD [4] [0, 1, 2, 3] rfl rfl (by decide) (by decide) hk1 hFc hP1 hD1
      generalize H1 = H at hP hS hq0 ⊢
      have hP : va_P (dC, dI) classes ([(qr, .inr (5, [.ref h0, .int (nI o)])), (h0, .inr (8, [.ref qb, .ref qu, .int uc, .int ln, .int (nI n), .int (nI (i + 1)), .int pl])), (qb, .inl (cB, 4096, .inl bf)), (qu, .inl (cI, 4096, .inl ug)), (q, .inr (7, [.int 1, .null, .int 0, .int 0, .long 0, .long 0, .long 1, .null, .null]))] ++ va_pl L f) H := hP
      have hD : va_D A ([(qr, .inr (5, [.ref h0, .int (nI o)])), (h0, .inr (8, [.ref qb, .ref qu, .int uc, .int ln, .int (nI n), .int (nI (i + 1)), .int pl])), (qb, .inl (cB, 4096, .inl bf)), (qu, .inl (cI, 4096, .inl ug)), (q, .inr (7, [.int 1, .null, .int 0, .int 0, .long 0, .long 0, .long 1, .null, .null]))] ++ va_pl L f) := hD
      have hqL := plD_new (X := [(qr, .inr (5, [.ref h0, .int (nI o)])), (h0, .inr (8, [.ref qb, .ref qu, .int uc, .int ln, .int (nI n), .int (nI (i + 1)), .int pl])), (qb, .inl (cB, 4096, .inl bf)), (qu, .inl (cI, 4096, .inl ug))]) hD
      have hq0 : E q = 0 := Classical.byContradiction (fun h => hqL (hO.inL h))
      have hP := plP_push (X := [(qr, .inr (5, [.ref h0, .int (nI o)])), (h0, .inr (8, [.ref qb, .ref qu, .int uc, .int ln, .int (nI n), .int (nI (i + 1)), .int pl])), (qb, .inl (cB, 4096, .inl bf)), (qu, .inl (cI, 4096, .inl ug))]) hP hqL
      have hD := plD_push (X := [(qr, .inr (5, [.ref h0, .int (nI o)])), (h0, .inr (8, [.ref qb, .ref qu, .int uc, .int ln, .int (nI n), .int (nI (i + 1)), .int pl])), (qb, .inl (cB, 4096, .inl bf)), (qu, .inl (cI, 4096, .inl ug))]) hD hqL
      have hqE : E q = 0 := hq0
      have hQ : QPn cI cV E L f i n s.heap.size 9 0 0 q (i + 1) ([] ++ [q]) (va_up E q 9) (va_up f q (lE 1 none 0 0 0 0 1 none none)) := by
        refine ⟨hqE, va_up_self _ _ _, by omega, by omega, fun lv hO b _ => ?_⟩
        have hG0 : QG cI cV E lv L f i n (i + 1) s.heap.size [] E lv f := (QG.rf hO hin).mv (by omega) (by omega)
        exact ⟨va_up lv q b, hG0.add (q := q) (s := 9) (b := b) (e := lE 1 none 0 0 0 0 1 none none) hq0 (by rw [List.append_nil]; exact hqL) hz_q (by decide) (by decide) (CO.L (va_up_self _ _ _) ⟨_, _, _, _, _, _, _, _, _, rfl, ⟨fun b h => (nomatch h), fun b h => (nomatch h), fun b h => (nomatch h), fun h => absurd h (by decide), fun h0 h1 => absurd rfl h1, by decide, by decide⟩⟩), va_up_self _ _ _⟩
      have hP : va_P (dC, dI) classes ([(qr, .inr (5, [.ref h0, .int (nI o)])), (h0, .inr (8, [.ref qb, .ref qu, .int uc, .int ln, .int (nI n), .int (nI (i + 1)), .int pl])), (qb, .inl (cB, 4096, .inl bf)), (qu, .inl (cI, 4096, .inl ug))] ++ va_pl ((L ++ ([] ++ [q]))) ((va_up f q (lE 1 none 0 0 0 0 1 none none)))) H := hP
      have hD : va_D A ([(qr, .inr (5, [.ref h0, .int (nI o)])), (h0, .inr (8, [.ref qb, .ref qu, .int uc, .int ln, .int (nI n), .int (nI (i + 1)), .int pl])), (qb, .inl (cB, 4096, .inl bf)), (qu, .inl (cI, 4096, .inl ug))] ++ va_pl ((L ++ ([] ++ [q]))) ((va_up f q (lE 1 none 0 0 0 0 1 none none)))) := hD
      have hok : shC bf n (nwB nw) i = some ((i + 1), sgL ((va_up f q (lE 1 none 0 0 0 0 1 none none)) q)) := by rw [va_up_self, sgL_1]; exact sh_a (nwB_0 c1) ht27
      refine w_same (fun hq => ?_)
      refine W.widen (k := 3) (n := 15 + (n - i)) (by show (0 + 1) ≤ 3; omega) (by show (0 + 9) ≤ 15 + (n - i); omega) ?_
      refine vx_ret ?_
      exact W.aret (v := .ref q) hx hb hr (Or.inl ⟨_, rfl⟩) (Or.inr ⟨_, rfl⟩) (fun t9 ht hW => ⟨⟨(q, (i + 1), [] ++ [q], va_up E q 9, va_up f q (lE 1 none 0 0 0 0 1 none none)), q, rfl, ⟨hQ, hok⟩, ⟨by rw [ht]; exact hP, va_K.moved hW.alike hK, hD⟩, by rw [ht]; exact ⟨hq.mono (by show (0 + 1) ≤ 2; omega) (by show (0 + 9) ≤ 9 + ((i + 1) - i); omega), rfl⟩⟩, hS.F ht⟩) hS.2.2 d_QueryReader_shortSelector_24
    · have hu27 : u27 = i := hu27
      subst hr27
      rw [hu27] at hP hD
      have hP : va_P (dC, dI) classes ([(qr, .inr (5, [.ref h0, .int (nI o)])), (h0, .inr (8, [.ref qb, .ref qu, .int uc, .int ln, .int (nI n), .int (nI i), .int pl])), (qb, .inl (cB, 4096, .inl bf)), (qu, .inl (cI, 4096, .inl ug))] ++ va_pl L f) H := hP
      have hD : va_D A ([(qr, .inr (5, [.ref h0, .int (nI o)])), (h0, .inr (8, [.ref qb, .ref qu, .int uc, .int ln, .int (nI n), .int (nI i), .int pl])), (qb, .inl (cB, 4096, .inl bf)), (qu, .inl (cI, 4096, .inl ug))] ++ va_pl L f) := hD
      have hns : ¬ (nwB nw = false ∧ hereV bf n i = 42) := fun q => ht27 q.2
      refine lv_if_eq (tgt := 25) hx hb d_QueryReader_shortSelector_13 (by decide) (fun _ => ?_) (fun h => absurd (by decide) h)
      refine va_new (ci := 7) (fs := [.int 0, .null, .int 0, .int 0, .long 0, .long 0, .long 0, .null, .null]) (C := R_Selector) (T := F_Selector) (N := 9) hx hb hts in_Selector t_Selector t_Selector_ok hown (hts _ z_603) (hts _ z_604) (hts _ z_25) hK hP hD hS hA rfl (fun j hj => by rcases (show j = 0 ∨ j = 1 ∨ j = 2 ∨ j = 3 ∨ j = 4 ∨ j = 5 ∨ j = 6 ∨ j = 7 ∨ j = 8 by omega) with rfl | rfl | rfl | rfl | rfl | rfl | rfl | rfl | rfl <;> rfl) (by show 0 + 1 ≤ 3; omega) (by show 0 + 9 ≤ 15 + (n - i); omega) d_QueryReader_shortSelector_25 (fun q H hP hD hS => ?_)
      have hz_q := newA hAe hD (fun k x hk => by rcases k with _ | _ | _ | _ | k; (· cases hk; exact ⟨0, _, rfl⟩); (· cases hk; exact ⟨1, _, rfl⟩); (· cases hk; exact ⟨2, _, rfl⟩); (· cases hk; exact ⟨3, _, rfl⟩); (· exact ⟨k + 4, x.2, hk⟩))
      have hP := hP.swap
      have hD := hD.swap
      have hP : va_P (dC, dI) classes ([(qr, .inr (5, [.ref h0, .int (nI o)])), (h0, .inr (8, [.ref qb, .ref qu, .int uc, .int ln, .int (nI n), .int (nI i), .int pl])), (qb, .inl (cB, 4096, .inl bf)), (qu, .inl (cI, 4096, .inl ug)), (q, .inr (7, [.int 0, .null, .int 0, .int 0, .long 0, .long 0, .long 0, .null, .null]))] ++ va_pl L f) H := hP
      have hD : va_D A ([(qr, .inr (5, [.ref h0, .int (nI o)])), (h0, .inr (8, [.ref qb, .ref qu, .int uc, .int ln, .int (nI n), .int (nI i), .int pl])), (qb, .inl (cB, 4096, .inl bf)), (qu, .inl (cI, 4096, .inl ug)), (q, .inr (7, [.int 0, .null, .int 0, .int 0, .long 0, .long 0, .long 0, .null, .null]))] ++ va_pl L f) := hD
      refine lv_dup hx hb d_QueryReader_shortSelector_28 rfl ?_
      refine lv_iconst (v := 0) hx hb d_QueryReader_shortSelector_29 (by decide) ?_
      have hPc := hP.sub (ws' := [(q, .inr (7, [.int 0, .null, .int 0, .int 0, .long 0, .long 0, .long 0, .null, .null]))]) [4] rfl
      have hDc := hD.sub (ws' := [(q, .inr (7, [.int 0, .null, .int 0, .int 0, .long 0, .long 0, .long 0, .null, .null]))]) [4] (by decide) rfl
      have hFc := va_free (wc := [(q, .inr (7, [.int 0, .null, .int 0, .int 0, .long 0, .long 0, .long 0, .null, .null]))]) hD hS hA [4] rfl
      have hKc := hK.sub (tys' := []) [] rfl
      refine w_same (fun hq0 => ?_)
      refine va_callv (va_runI (As := [.int 0]) (rest := [.ref q]) ⟨hx, hb, hml, hown, hts⟩ (c_Selector_init l dC dI H q 0) (cwI 1 hts (gt_code i_Selector_init) rfl rfl rfl (hts _ z_25) (hts _ z_605) (hts _ z_606) rfl (by decide +kernel) ⟨Nat.le_of_ble_eq_true rfl, Nat.le_of_ble_eq_true rfl⟩) ⟨mp_blind, fun U hU hW => ⟨rfl, hU, by rw [hU]; exact hPc, va_K.moved hW.alike hKc, hDc.weaken (fun _ _ _ _ => trivial)⟩⟩ rfl rfl hl.1 rfl (lv_room (Nat.le_of_ble_eq_true rfl)) d_QueryReader_shortSelector_30 ⟨by show (0 + 1) + (0) ≤ 3; omega, by show (0 + 9) + (0) ≤ 15 + (n - i); omega⟩) hS (fun q _ h => hFc q h) hFc (fun _u t9 H1 locs ht hvm hw hB hz1 hk1 hS => ?_)
      obtain ⟨⟨hP1, hK1, hD1⟩, hz9⟩ := hB
      rw [ht] at hP1
      rw [ht] at hz9
      have hq0 : szk s.heap H1 ((0 + 1)) ((0 + 9)) := (hq0.trans hz9).mono (Nat.le_of_eq (Nat.add_zero _)) (Nat.le_of_eq (Nat.add_zero _))
      refine w_tight hq0 ?_
      obtain ⟨hP, hD⟩ := va_joinQ (wr := [(qr, .inr (5, [.ref h0, .int (nI o)])), (h0, .inr (8, [.ref qb, .ref qu, .int uc, .int ln, .int (nI n), .int (nI i), .int pl])), (qb, .inl (cB, 4096, .inl bf)), (qu, .inl (cI, 4096, .inl ug))]) (w1 := [(q, .inr (7, [.int 0, .null, .int 0, .int 0, .long 0, .long 0, .long 1, .null, .null]))]) hP hD [4] [0, 1, 2, 3] rfl rfl (by decide) (by decide) hk1 hFc hP1 hD1
      generalize H1 = H at hP hS hq0 ⊢
      have hP : va_P (dC, dI) classes ([(qr, .inr (5, [.ref h0, .int (nI o)])), (h0, .inr (8, [.ref qb, .ref qu, .int uc, .int ln, .int (nI n), .int (nI i), .int pl])), (qb, .inl (cB, 4096, .inl bf)), (qu, .inl (cI, 4096, .inl ug)), (q, .inr (7, [.int 0, .null, .int 0, .int 0, .long 0, .long 0, .long 1, .null, .null]))] ++ va_pl L f) H := hP
      have hD : va_D A ([(qr, .inr (5, [.ref h0, .int (nI o)])), (h0, .inr (8, [.ref qb, .ref qu, .int uc, .int ln, .int (nI n), .int (nI i), .int pl])), (qb, .inl (cB, 4096, .inl bf)), (qu, .inl (cI, 4096, .inl ug)), (q, .inr (7, [.int 0, .null, .int 0, .int 0, .long 0, .long 0, .long 1, .null, .null]))] ++ va_pl L f) := hD
      refine lv_astore_n (lv' := [(2, .ref q), (0, .ref qr), (1, .int nw)]) hx hb d_QueryReader_shortSelector_33 rfl hl (by decide) rfl (fun ls hl => ?_)
      refine lv_aload_n hx hb d_QueryReader_shortSelector_34 rfl (lv_at hl 1 rfl) ?_
      refine va_get (D := (dC, dI)) (ci := 5) (v := .ref h0) (C := R_QueryReader) (T := F_QueryReader) (N := 2) hx hb hts in_QueryReader hown hK hP 0 rfl rfl 0 (by decide) (hts _ w_100) (fun _ h9 => h9) rfl d_QueryReader_shortSelector_35 ?_
      refine va_get (D := (dC, dI)) (ci := 8) (v := .int (nI i)) (C := R_Tape) (T := F_Tape) (N := 7) hx hb hts in_Tape hown hK hP 1 rfl rfl 5 (by decide) (hts _ z_53) (fun _ h9 => h9) rfl d_QueryReader_shortSelector_38 ?_
      refine lv_istore_n (lv' := [(3, .int (nI i)), (2, .ref q), (0, .ref qr), (1, .int nw)]) hx hb d_QueryReader_shortSelector_41 rfl hl (by decide) rfl (fun ls hl => ?_)
      refine lv_aload_n hx hb d_QueryReader_shortSelector_42 rfl (lv_at hl 2 rfl) ?_
      refine va_get (D := (dC, dI)) (ci := 5) (v := .ref h0) (C := R_QueryReader) (T := F_QueryReader) (N := 2) hx hb hts in_QueryReader hown hK hP 0 rfl rfl 0 (by decide) (hts _ w_100) (fun _ h9 => h9) rfl d_QueryReader_shortSelector_43 ?_
      have hPc := hP.sub (ws' := [(h0, .inr (8, [.ref qb, .ref qu, .int uc, .int ln, .int (nI n), .int (nI i), .int pl])), (qb, .inl (cB, 4096, .inl bf))]) [1, 2] rfl
      have hDc := hD.sub (ws' := [(h0, .inr (8, [.ref qb, .ref qu, .int uc, .int ln, .int (nI n), .int (nI i), .int pl])), (qb, .inl (cB, 4096, .inl bf))]) [1, 2] (by decide) rfl
      have hFc := va_free (wc := [(h0, .inr (8, [.ref qb, .ref qu, .int uc, .int ln, .int (nI n), .int (nI i), .int pl])), (qb, .inl (cB, 4096, .inl bf))]) hD hS hA [1, 2] rfl
      have hKc := hK.sub (tys' := [(cB, .byte)]) [0] rfl
      refine va_calli (va_runV (As := []) (rest := []) ⟨hx, hb, hml, hown, hts⟩ (c_Tape_here l dC dI cB h0 qb H (.ref qu) uc ln pl bf n i hn0 (by omega)) (cwV 0 hts (gt_V (own := R_QueryReader) (C := R_Tape) (i := 19) (y := y_Tape_here) i_Tape_here z_534 w_363 w_364 w_2) rfl rfl rfl (by decide +kernel) ⟨Nat.le_of_ble_eq_true rfl, Nat.le_of_ble_eq_true rfl⟩) ⟨mp_blind, va_recv hK hP (ci := 8) (q0 := 1) rfl rfl, fun U hU hW => ⟨rfl, hU, by rw [hU]; exact hPc, va_K.moved hW.alike hKc, hDc.weaken (fun _ _ _ _ => trivial)⟩⟩ rfl rfl hl.1 rfl (lv_room (Nat.le_of_ble_eq_true rfl)) d_QueryReader_shortSelector_46 ⟨by show (0 + 1) + (0) ≤ 3; omega, by show (0 + 9) + (0) ≤ 15 + (n - i); omega⟩) hS (fun q _ h => hFc q h) hFc (fun h28 _u t9 H1 locs ht hvm hw hB hz1 hk1 hS => ?_)
      obtain ⟨hP1, hK1, hD1⟩ := hB
      rw [ht] at hP1
      obtain ⟨hP, hD⟩ := va_joinQ (wr := [(qr, .inr (5, [.ref h0, .int (nI o)])), (qu, .inl (cI, 4096, .inl ug)), (q, .inr (7, [.int 0, .null, .int 0, .int 0, .long 0, .long 0, .long 1, .null, .null]))]) (w1 := [(h0, .inr (8, [.ref qb, .ref qu, .int uc, .int ln, .int (nI n), .int (nI i), .int pl])), (qb, .inl (cB, 4096, .inl bf))]) hP hD [1, 2] [0, 3, 4] rfl rfl (by decide) (by decide) hk1 hFc hP1 hD1
      generalize H1 = H at hP hS ⊢
      have hP : va_P (dC, dI) classes ([(qr, .inr (5, [.ref h0, .int (nI o)])), (qu, .inl (cI, 4096, .inl ug)), (q, .inr (7, [.int 0, .null, .int 0, .int 0, .long 0, .long 0, .long 1, .null, .null])), (h0, .inr (8, [.ref qb, .ref qu, .int uc, .int ln, .int (nI n), .int (nI i), .int pl])), (qb, .inl (cB, 4096, .inl bf))] ++ va_pl L f) H := hP
      have hD : va_D A ([(qr, .inr (5, [.ref h0, .int (nI o)])), (qu, .inl (cI, 4096, .inl ug)), (q, .inr (7, [.int 0, .null, .int 0, .int 0, .long 0, .long 0, .long 1, .null, .null])), (h0, .inr (8, [.ref qb, .ref qu, .int uc, .int ln, .int (nI n), .int (nI i), .int pl])), (qb, .inl (cB, 4096, .inl bf))] ++ va_pl L f) := hD
      have hP := hP.part (cx := [(qr, .inr (5, [.ref h0, .int (nI o)])), (h0, .inr (8, [.ref qb, .ref qu, .int uc, .int ln, .int (nI n), .int (nI i), .int pl])), (qb, .inl (cB, 4096, .inl bf)), (qu, .inl (cI, 4096, .inl ug)), (q, .inr (7, [.int 0, .null, .int 0, .int 0, .long 0, .long 0, .long 1, .null, .null]))]) [0, 3, 4, 1, 2] rfl
      have hD := hD.part (cx := [(qr, .inr (5, [.ref h0, .int (nI o)])), (h0, .inr (8, [.ref qb, .ref qu, .int uc, .int ln, .int (nI n), .int (nI i), .int pl])), (qb, .inl (cB, 4096, .inl bf)), (qu, .inl (cI, 4096, .inl ug)), (q, .inr (7, [.int 0, .null, .int 0, .int 0, .long 0, .long 0, .long 1, .null, .null]))]) [0, 3, 4, 1, 2] (by decide) rfl
      have h_h28 : h28 = hereV bf n i := hw
      refine vp_callSi (va_Run.run (va_runS (As := [.int h28]) (rest := []) ⟨hx, hb, hml, hown, hts⟩ (c_QueryReader_isNameByte l dC dI H h28) (va_cwS 1 hts (gt_S (own := R_QueryReader) (i := 81) (y := y_QueryReader_isNameByte) i_QueryReader_isNameByte z_793 z_794 w_4) rfl rfl rfl (by decide +kernel) ⟨Nat.le_of_ble_eq_true rfl, Nat.le_of_ble_eq_true rfl⟩) ⟨mT_blind, fun U hU hW => ⟨rfl, hN.warm hW⟩⟩ rfl rfl hl.1 rfl (lv_room (Nat.le_of_ble_eq_true rfl)) d_QueryReader_shortSelector_49 ⟨by show (0 + 1) + (0) ≤ 3; omega, by show (0 + 9) + (0) ≤ 15 + (n - i); omega⟩)) (fun r29 h_r29 => ?_)
      refine lv_if_eq (tgt := 68) hx hb d_QueryReader_shortSelector_52 (by decide) (fun c52 => ?_) (fun c52 => ?_)
      · refine lv_aload_n hx hb d_QueryReader_shortSelector_68 rfl (lv_at hl 2 rfl) ?_
        refine va_get (D := (dC, dI)) (ci := 5) (v := .ref h0) (C := R_QueryReader) (T := F_QueryReader) (N := 2) hx hb hts in_QueryReader hown hK hP 0 rfl rfl 0 (by decide) (hts _ w_100) (fun _ h9 => h9) rfl d_QueryReader_shortSelector_69 ?_
        refine lv_iload_n hx hb d_QueryReader_shortSelector_72 rfl (lv_at hl 0 rfl) ?_
        have hPc := hP.sub (ws' := [(h0, .inr (8, [.ref qb, .ref qu, .int uc, .int ln, .int (nI n), .int (nI i), .int pl])), (qb, .inl (cB, 4096, .inl bf))]) [1, 2] rfl
        have hDc := hD.sub (ws' := [(h0, .inr (8, [.ref qb, .ref qu, .int uc, .int ln, .int (nI n), .int (nI i), .int pl])), (qb, .inl (cB, 4096, .inl bf))]) [1, 2] (by decide) rfl
        have hFc := va_free (wc := [(h0, .inr (8, [.ref qb, .ref qu, .int uc, .int ln, .int (nI n), .int (nI i), .int pl])), (qb, .inl (cB, 4096, .inl bf))]) hD hS hA [1, 2] rfl
        have hKc := hK.sub (tys' := [(cB, .byte)]) [0] rfl
        refine w_same (fun hq0 => ?_)
        refine vx_callv (vx_runV (As := [.int (nI i)]) (rest := []) ⟨hx, hb, hml, hown, hts⟩ (c_Tape_fail l hl9 dC dI cB h0 qb H (.ref qu) uc ln (nI n) (nI i) pl bf ((nI i))) (cwV 1 hts (gt_V (own := R_QueryReader) (C := R_Tape) (i := 28) (y := y_Tape_fail) i_Tape_fail z_535 w_371 w_372 w_2) rfl rfl rfl (by decide +kernel) ⟨Nat.le_of_ble_eq_true rfl, Nat.le_of_ble_eq_true rfl⟩) ⟨mx_blind, va_recv hK hP (ci := 8) (q0 := 1) rfl rfl, fun U hU hW => ⟨rfl, ⟨hU, by rw [hU]; exact hPc, va_K.moved hW.alike hKc, hDc.weaken (fun _ _ _ _ => trivial)⟩, hN.warm hW, by rw [hU]; exact ZX.moved' hW.alike (ZX.narrow' (ZX.kept' hZ hS.2.1) hFc)⟩⟩ rfl rfl hl.1 rfl (lv_room (Nat.le_of_ble_eq_true rfl)) d_QueryReader_shortSelector_73 ⟨by show (0 + 1) + (1) ≤ 3; omega, by show (0 + 9) + (6) ≤ 15 + (n - i); omega⟩) hS (fun q _ h => hFc q h) hFc (fun q _ h => hFc q h) (fun En ce q9 _u t9 H1 locs ht hvm hw hB hz1 hk1 hS hce hcv hcl => ?_) (fun _u t9 H1 locs ht hvm hw hB hz1 hk1 hS => ?_)
        · obtain ⟨hEn, hP1, hK1, hD1⟩ := hB
          rw [ht] at hP1
          obtain ⟨hP, hD⟩ := va_joinQ (wr := [(qr, .inr (5, [.ref h0, .int (nI o)])), (qu, .inl (cI, 4096, .inl ug)), (q, .inr (7, [.int 0, .null, .int 0, .int 0, .long 0, .long 0, .long 1, .null, .null]))]) (w1 := [(h0, .inr (8, [.ref qb, .ref qu, .int uc, .int ln, .int (nI n), .int (nI i), .int (nI i)])), (qb, .inl (cB, 4096, .inl bf))]) hP hD [1, 2] [0, 3, 4] rfl rfl (by decide) (by decide) hk1 hFc hP1 hD1
          generalize H1 = H at hP hS hce ⊢
          have hP : va_P (dC, dI) classes ([(qr, .inr (5, [.ref h0, .int (nI o)])), (qu, .inl (cI, 4096, .inl ug)), (q, .inr (7, [.int 0, .null, .int 0, .int 0, .long 0, .long 0, .long 1, .null, .null])), (h0, .inr (8, [.ref qb, .ref qu, .int uc, .int ln, .int (nI n), .int (nI i), .int (nI i)])), (qb, .inl (cB, 4096, .inl bf))] ++ va_pl L f) H := hP
          have hD : va_D A ([(qr, .inr (5, [.ref h0, .int (nI o)])), (qu, .inl (cI, 4096, .inl ug)), (q, .inr (7, [.int 0, .null, .int 0, .int 0, .long 0, .long 0, .long 1, .null, .null])), (h0, .inr (8, [.ref qb, .ref qu, .int uc, .int ln, .int (nI n), .int (nI i), .int (nI i)])), (qb, .inl (cB, 4096, .inl bf))] ++ va_pl L f) := hD
          have hP := hP.part (cx := [(qr, .inr (5, [.ref h0, .int (nI o)])), (h0, .inr (8, [.ref qb, .ref qu, .int uc, .int ln, .int (nI n), .int (nI i), .int (nI i)])), (qb, .inl (cB, 4096, .inl bf)), (qu, .inl (cI, 4096, .inl ug)), (q, .inr (7, [.int 0, .null, .int 0, .int 0, .long 0, .long 0, .long 1, .null, .null]))]) [0, 3, 4, 1, 2] rfl
          have hD := hD.part (cx := [(qr, .inr (5, [.ref h0, .int (nI o)])), (h0, .inr (8, [.ref qb, .ref qu, .int uc, .int ln, .int (nI n), .int (nI i), .int (nI i)])), (qb, .inl (cB, 4096, .inl bf)), (qu, .inl (cI, 4096, .inl ug)), (q, .inr (7, [.int 0, .null, .int 0, .int 0, .long 0, .long 0, .long 1, .null, .null]))]) [0, 3, 4, 1, 2] (by decide) rfl
          have hP := hP.part (cx := [(qr, .inr (5, [.ref h0, .int (nI o)])), (h0, .inr (8, [.ref qb, .ref qu, .int uc, .int ln, .int (nI n), .int (nI i), .int (nI i)])), (qb, .inl (cB, 4096, .inl bf)), (qu, .inl (cI, 4096, .inl ug))]) [0, 1, 2, 3] rfl
          have hD := hD.part (cx := [(qr, .inr (5, [.ref h0, .int (nI o)])), (h0, .inr (8, [.ref qb, .ref qu, .int uc, .int ln, .int (nI n), .int (nI i), .int (nI i)])), (qb, .inl (cB, 4096, .inl bf)), (qu, .inl (cI, 4096, .inl ug))]) [0, 1, 2, 3] (by decide) rfl
          have hno : shC bf n (nwB nw) i = none := sh_0 hns (fun q => h_r29.2.2 c52 (Or.inl (by rw [h_h28]; exact q)))
          exact vx_out (fun x hx => (hex x hx).elim) hlocks hce hcv hcl (fun t9 ht2 ha => ⟨(nI i, uc, (nI i), ug, nI o), hno, ⟨hEn, by rw [ht2]; exact hP, va_K.moved ha hK, hD⟩, hS.F ht2⟩) hS.2.2 (by show (0 + 1) + (1) ≤ 3; omega) (by show (0 + 9) + (6) ≤ 15 + (n - i); omega)
        · obtain ⟨⟨hP1, hK1, hD1⟩, hz9⟩ := hB
          rw [ht] at hP1
          rw [ht] at hz9
          refine w_tight (hq0.trans hz9) ?_
          have hq0 := hq0.trans hz9
          obtain ⟨hP, hD⟩ := va_joinQ (wr := [(qr, .inr (5, [.ref h0, .int (nI o)])), (qu, .inl (cI, 4096, .inl ug)), (q, .inr (7, [.int 0, .null, .int 0, .int 0, .long 0, .long 0, .long 1, .null, .null]))]) (w1 := [(h0, .inr (8, [.ref qb, .ref qu, .int uc, .int ln, .int (nI n), .int (nI i), .int pl])), (qb, .inl (cB, 4096, .inl bf))]) hP hD [1, 2] [0, 3, 4] rfl rfl (by decide) (by decide) hk1 hFc hP1 hD1
          generalize H1 = H at hP hS hq0 ⊢
          have hP : va_P (dC, dI) classes ([(qr, .inr (5, [.ref h0, .int (nI o)])), (qu, .inl (cI, 4096, .inl ug)), (q, .inr (7, [.int 0, .null, .int 0, .int 0, .long 0, .long 0, .long 1, .null, .null])), (h0, .inr (8, [.ref qb, .ref qu, .int uc, .int ln, .int (nI n), .int (nI i), .int pl])), (qb, .inl (cB, 4096, .inl bf))] ++ va_pl L f) H := hP
          have hD : va_D A ([(qr, .inr (5, [.ref h0, .int (nI o)])), (qu, .inl (cI, 4096, .inl ug)), (q, .inr (7, [.int 0, .null, .int 0, .int 0, .long 0, .long 0, .long 1, .null, .null])), (h0, .inr (8, [.ref qb, .ref qu, .int uc, .int ln, .int (nI n), .int (nI i), .int pl])), (qb, .inl (cB, 4096, .inl bf))] ++ va_pl L f) := hD
          have hP := hP.part (cx := [(qr, .inr (5, [.ref h0, .int (nI o)])), (h0, .inr (8, [.ref qb, .ref qu, .int uc, .int ln, .int (nI n), .int (nI i), .int pl])), (qb, .inl (cB, 4096, .inl bf)), (qu, .inl (cI, 4096, .inl ug)), (q, .inr (7, [.int 0, .null, .int 0, .int 0, .long 0, .long 0, .long 1, .null, .null]))]) [0, 3, 4, 1, 2] rfl
          have hD := hD.part (cx := [(qr, .inr (5, [.ref h0, .int (nI o)])), (h0, .inr (8, [.ref qb, .ref qu, .int uc, .int ln, .int (nI n), .int (nI i), .int pl])), (qb, .inl (cB, 4096, .inl bf)), (qu, .inl (cI, 4096, .inl ug)), (q, .inr (7, [.int 0, .null, .int 0, .int 0, .long 0, .long 0, .long 1, .null, .null]))]) [0, 3, 4, 1, 2] (by decide) rfl
          exact hw.elim
      · have hnb : letH (hereV bf n i) ∨ digH (hereV bf n i) := by rw [← h_h28]; exact h_r29.2.1 c52
        refine lv_aload_n hx hb d_QueryReader_shortSelector_55 rfl (lv_at hl 2 rfl) ?_
        refine va_get (D := (dC, dI)) (ci := 5) (v := .ref h0) (C := R_QueryReader) (T := F_QueryReader) (N := 2) hx hb hts in_QueryReader hown hK hP 0 rfl rfl 0 (by decide) (hts _ w_100) (fun _ h9 => h9) rfl d_QueryReader_shortSelector_56 ?_
        have hPc := hP.sub (ws' := [(h0, .inr (8, [.ref qb, .ref qu, .int uc, .int ln, .int (nI n), .int (nI i), .int pl])), (qb, .inl (cB, 4096, .inl bf))]) [1, 2] rfl
        have hDc := hD.sub (ws' := [(h0, .inr (8, [.ref qb, .ref qu, .int uc, .int ln, .int (nI n), .int (nI i), .int pl])), (qb, .inl (cB, 4096, .inl bf))]) [1, 2] (by decide) rfl
        have hFc := va_free (wc := [(h0, .inr (8, [.ref qb, .ref qu, .int uc, .int ln, .int (nI n), .int (nI i), .int pl])), (qb, .inl (cB, 4096, .inl bf))]) hD hS hA [1, 2] rfl
        have hKc := hK.sub (tys' := [(cB, .byte)]) [0] rfl
        refine va_calli (va_runV (As := []) (rest := []) ⟨hx, hb, hml, hown, hts⟩ (c_Tape_here l dC dI cB h0 qb H (.ref qu) uc ln pl bf n i hn0 (by omega)) (cwV 0 hts (gt_V (own := R_QueryReader) (C := R_Tape) (i := 19) (y := y_Tape_here) i_Tape_here z_534 w_363 w_364 w_2) rfl rfl rfl (by decide +kernel) ⟨Nat.le_of_ble_eq_true rfl, Nat.le_of_ble_eq_true rfl⟩) ⟨mp_blind, va_recv hK hP (ci := 8) (q0 := 1) rfl rfl, fun U hU hW => ⟨rfl, hU, by rw [hU]; exact hPc, va_K.moved hW.alike hKc, hDc.weaken (fun _ _ _ _ => trivial)⟩⟩ rfl rfl hl.1 rfl (lv_room (Nat.le_of_ble_eq_true rfl)) d_QueryReader_shortSelector_59 ⟨by show (0 + 1) + (0) ≤ 3; omega, by show (0 + 9) + (0) ≤ 15 + (n - i); omega⟩) hS (fun q _ h => hFc q h) hFc (fun h30 _u t9 H1 locs ht hvm hw hB hz1 hk1 hS => ?_)
        obtain ⟨hP1, hK1, hD1⟩ := hB
        rw [ht] at hP1
        obtain ⟨hP, hD⟩ := va_joinQ (wr := [(qr, .inr (5, [.ref h0, .int (nI o)])), (qu, .inl (cI, 4096, .inl ug)), (q, .inr (7, [.int 0, .null, .int 0, .int 0, .long 0, .long 0, .long 1, .null, .null]))]) (w1 := [(h0, .inr (8, [.ref qb, .ref qu, .int uc, .int ln, .int (nI n), .int (nI i), .int pl])), (qb, .inl (cB, 4096, .inl bf))]) hP hD [1, 2] [0, 3, 4] rfl rfl (by decide) (by decide) hk1 hFc hP1 hD1
        generalize H1 = H at hP hS ⊢
        have hP : va_P (dC, dI) classes ([(qr, .inr (5, [.ref h0, .int (nI o)])), (qu, .inl (cI, 4096, .inl ug)), (q, .inr (7, [.int 0, .null, .int 0, .int 0, .long 0, .long 0, .long 1, .null, .null])), (h0, .inr (8, [.ref qb, .ref qu, .int uc, .int ln, .int (nI n), .int (nI i), .int pl])), (qb, .inl (cB, 4096, .inl bf))] ++ va_pl L f) H := hP
        have hD : va_D A ([(qr, .inr (5, [.ref h0, .int (nI o)])), (qu, .inl (cI, 4096, .inl ug)), (q, .inr (7, [.int 0, .null, .int 0, .int 0, .long 0, .long 0, .long 1, .null, .null])), (h0, .inr (8, [.ref qb, .ref qu, .int uc, .int ln, .int (nI n), .int (nI i), .int pl])), (qb, .inl (cB, 4096, .inl bf))] ++ va_pl L f) := hD
        have hP := hP.part (cx := [(qr, .inr (5, [.ref h0, .int (nI o)])), (h0, .inr (8, [.ref qb, .ref qu, .int uc, .int ln, .int (nI n), .int (nI i), .int pl])), (qb, .inl (cB, 4096, .inl bf)), (qu, .inl (cI, 4096, .inl ug)), (q, .inr (7, [.int 0, .null, .int 0, .int 0, .long 0, .long 0, .long 1, .null, .null]))]) [0, 3, 4, 1, 2] rfl
        have hD := hD.part (cx := [(qr, .inr (5, [.ref h0, .int (nI o)])), (h0, .inr (8, [.ref qb, .ref qu, .int uc, .int ln, .int (nI n), .int (nI i), .int pl])), (qb, .inl (cB, 4096, .inl bf)), (qu, .inl (cI, 4096, .inl ug)), (q, .inr (7, [.int 0, .null, .int 0, .int 0, .long 0, .long 0, .long 1, .null, .null]))]) [0, 3, 4, 1, 2] (by decide) rfl
        have h_h30 : h30 = hereV bf n i := hw
        refine vp_callSi (va_Run.run (va_runSN (As := [.int h30]) (rest := []) ⟨hx, hb, hml, hown, hts⟩ (g_QB_isDigit l dC dI H h30) (⟨va_cnB (host := "QueryBench") 1 hts (gt_code i_QB_isDigit) rfl rfl rfl (hN _ nz_780) (hts _ w_1) (by decide +kernel) ⟨Nat.le_of_ble_eq_true rfl, Nat.le_of_ble_eq_true rfl⟩, hts _ w_510, trivial⟩) ⟨mT_blind, fun U hU hW => ⟨rfl, hN.warm hW⟩⟩ rfl rfl hl.1 rfl (lv_room (Nat.le_of_ble_eq_true rfl)) d_QueryReader_shortSelector_62 ⟨by show (0 + 1) + (0) ≤ 3; omega, by show (0 + 9) + (0) ≤ 15 + (n - i); omega⟩)) (fun r31 h_r31 => ?_)
        refine lv_if_eq (tgt := 76) hx hb d_QueryReader_shortSelector_65 (by decide) (fun c65 => ?_) (fun c65 => ?_)
        · have hlet : letH (hereV bf n i) := hnb.resolve_right (by rw [← h_h30]; exact h_r31.2.2 c65)
          refine w_loop (D := (dC, dI)) (cl := classes) (A := A) (H0 := s.heap) (nL := 5) 76 (σ := Nat) (fun p => (i ≤ p ∧ p ≤ n) ∧ nmC bf n (n - i) i = nmC bf n (n - p) p) (fun p => n - p) (fun p => [(qr, .inr (5, [.ref h0, .int (nI o)])), (h0, .inr (8, [.ref qb, .ref qu, .int uc, .int ln, .int (nI n), .int (nI p), .int pl])), (qb, .inl (cB, 4096, .inl bf)), (qu, .inl (cI, 4096, .inl ug)), (q, .inr (7, [.int 0, .null, .int 0, .int 0, .long 0, .long 0, .long 1, .null, .null]))] ++ va_pl L f) (fun p => [(0, .ref qr), (2, .ref q), (3, .int (nI i))]) ?_ i ⟨⟨Nat.le_refl _, by omega⟩, rfl⟩ hP hD hS (lv_sub hl [2, 1, 0] rfl)
          rintro p H locs ls hI ih hP hD hS hl
          have hP : va_P (dC, dI) classes ([(qr, .inr (5, [.ref h0, .int (nI o)])), (h0, .inr (8, [.ref qb, .ref qu, .int uc, .int ln, .int (nI n), .int (nI p), .int pl])), (qb, .inl (cB, 4096, .inl bf)), (qu, .inl (cI, 4096, .inl ug)), (q, .inr (7, [.int 0, .null, .int 0, .int 0, .long 0, .long 0, .long 1, .null, .null]))] ++ va_pl L f) H := hP
          have hD : va_D A ([(qr, .inr (5, [.ref h0, .int (nI o)])), (h0, .inr (8, [.ref qb, .ref qu, .int uc, .int ln, .int (nI n), .int (nI p), .int pl])), (qb, .inl (cB, 4096, .inl bf)), (qu, .inl (cI, 4096, .inl ug)), (q, .inr (7, [.int 0, .null, .int 0, .int 0, .long 0, .long 0, .long 1, .null, .null]))] ++ va_pl L f) := hD
          have hl : lv_has ls 5 [(0, .ref qr), (2, .ref q), (3, .int (nI i))] := hl
          obtain ⟨⟨hp1, hp2⟩, hnm⟩ := hI
          have hnm : nmC bf n (n - i) i = nmC bf n (n - p) p := hnm
          have hp1 : i ≤ p := hp1
          have hp2 : p ≤ n := hp2
          refine lv_aload_n hx hb d_QueryReader_shortSelector_76 rfl (lv_at hl 0 rfl) ?_
          refine va_get (D := (dC, dI)) (ci := 5) (v := .ref h0) (C := R_QueryReader) (T := F_QueryReader) (N := 2) hx hb hts in_QueryReader hown hK hP 0 rfl rfl 0 (by decide) (hts _ w_100) (fun _ h9 => h9) rfl d_QueryReader_shortSelector_77 ?_
          refine va_get (D := (dC, dI)) (ci := 8) (v := .int (nI p)) (C := R_Tape) (T := F_Tape) (N := 7) hx hb hts in_Tape hown hK hP 1 rfl rfl 5 (by decide) (hts _ z_53) (fun _ h9 => h9) rfl d_QueryReader_shortSelector_80 ?_
          refine lv_aload_n hx hb d_QueryReader_shortSelector_83 rfl (lv_at hl 0 rfl) ?_
          refine va_get (D := (dC, dI)) (ci := 5) (v := .ref h0) (C := R_QueryReader) (T := F_QueryReader) (N := 2) hx hb hts in_QueryReader hown hK hP 0 rfl rfl 0 (by decide) (hts _ w_100) (fun _ h9 => h9) rfl d_QueryReader_shortSelector_84 ?_
          refine va_get (D := (dC, dI)) (ci := 8) (v := .int (nI n)) (C := R_Tape) (T := F_Tape) (N := 7) hx hb hts in_Tape hown hK hP 1 rfl rfl 4 (by decide) (hts _ z_50) (fun _ h9 => h9) rfl d_QueryReader_shortSelector_87 ?_
          refine lv_icmp_ge (tgt := 122) hx hb d_QueryReader_shortSelector_90 (by decide) (fun c90 => ?_) (fun c90 => ?_)
          · have hne : nmC bf n (n - i) i = p := hnm.trans (nmC_n (by rw [nI_leI (by omega) (by omega)] at c90; omega))
            refine lv_aload_n hx hb d_QueryReader_shortSelector_122 rfl (lv_at hl 1 rfl) ?_
            refine lv_aload_n hx hb d_QueryReader_shortSelector_123 rfl (lv_at hl 0 rfl) ?_
            refine va_get (D := (dC, dI)) (ci := 5) (v := .ref h0) (C := R_QueryReader) (T := F_QueryReader) (N := 2) hx hb hts in_QueryReader hown hK hP 0 rfl rfl 0 (by decide) (hts _ w_100) (fun _ h9 => h9) rfl d_QueryReader_shortSelector_124 ?_
            refine va_get (D := (dC, dI)) (ci := 8) (v := .int (nI p)) (C := R_Tape) (T := F_Tape) (N := 7) hx hb hts in_Tape hown hK hP 1 rfl rfl 5 (by decide) (hts _ z_53) (fun _ h9 => h9) rfl d_QueryReader_shortSelector_127 ?_
            refine lv_iload_n hx hb d_QueryReader_shortSelector_130 rfl (lv_at hl 2 rfl) ?_
            refine lv_isub hx hb d_QueryReader_shortSelector_131 ?_
            refine W.eq (g2 := F0 m 132 ls [.int (nI (p - i)), .ref q]) (by rw [show ((nI p) - (nI i)) = (nI (p - i)) from (pk_sub (by omega))]) ?_
            refine va_newa (atype := .int) (ty := .int) (N' := (p - i)) (a0 := ((p - i), .inl (fun _ => 0))) hx hb (hts _ w_73) rfl hK hP hD hS hA (fun _ => rfl) (nI_pos (by omega)) (nI_clamp (by omega)) (by show (p - i) * 4 ≤ 536870912; omega) (by show (0 + 1) + 1 ≤ 3; omega) (by show (0 + 9) + (p - i) ≤ 15 + (n - i); omega) d_QueryReader_shortSelector_132 (fun qn cA H hK hP hD hS => ?_)
            obtain rfl : cI = cA := Option.some.inj ((hK.2 1 _ rfl).2.symm.trans (hK.2 3 _ rfl).2)
            have hK := hK.sub (tys' := [(cB, .byte), (cI, .int), (cV, .object "QueryBench$Value")]) [0, 1, 2] rfl
            have hz_qn := newA hAe hD (fun k x hk => by rcases k with _ | _ | _ | _ | k; (· cases hk; exact ⟨0, _, rfl⟩); (· cases hk; exact ⟨1, _, rfl⟩); (· cases hk; exact ⟨2, _, rfl⟩); (· cases hk; exact ⟨3, _, rfl⟩); (· exact ⟨k + 5, x.2, hk⟩))
            have hP := hP.swap
            have hD := hD.swap
            have hP : va_P (dC, dI) classes ([(qr, .inr (5, [.ref h0, .int (nI o)])), (h0, .inr (8, [.ref qb, .ref qu, .int uc, .int ln, .int (nI n), .int (nI p), .int pl])), (qb, .inl (cB, 4096, .inl bf)), (qu, .inl (cI, 4096, .inl ug)), (q, .inr (7, [.int 0, .null, .int 0, .int 0, .long 0, .long 0, .long 1, .null, .null])), (qn, .inl (cI, (p - i), .inl (fun _ => 0)))] ++ va_pl L f) H := hP
            have hD : va_D A ([(qr, .inr (5, [.ref h0, .int (nI o)])), (h0, .inr (8, [.ref qb, .ref qu, .int uc, .int ln, .int (nI n), .int (nI p), .int pl])), (qb, .inl (cB, 4096, .inl bf)), (qu, .inl (cI, 4096, .inl ug)), (q, .inr (7, [.int 0, .null, .int 0, .int 0, .long 0, .long 0, .long 1, .null, .null])), (qn, .inl (cI, (p - i), .inl (fun _ => 0)))] ++ va_pl L f) := hD
            refine va_put (D := (dC, dI)) (ci := 7) (v := .ref qn) (ty := .array .int) (C := R_Selector) (T := F_Selector) (N := 9) hx hb hts in_Selector t_Selector t_Selector_ok n_Selector hown hK hP hD hS 4 rfl rfl 1 (by decide) (hts _ z_613) (fun _ h9 => h9) rfl (by decide +kernel) rfl rfl (Nat.le_of_ble_eq_true rfl) d_QueryReader_shortSelector_134 (fun H locs hP hD hS => ?_)
            have hP : va_P (dC, dI) classes ([(qr, .inr (5, [.ref h0, .int (nI o)])), (h0, .inr (8, [.ref qb, .ref qu, .int uc, .int ln, .int (nI n), .int (nI p), .int pl])), (qb, .inl (cB, 4096, .inl bf)), (qu, .inl (cI, 4096, .inl ug)), (q, .inr (7, [.int 0, .ref qn, .int 0, .int 0, .long 0, .long 0, .long 1, .null, .null])), (qn, .inl (cI, (p - i), .inl (fun _ => 0)))] ++ va_pl L f) H := hP
            have hD : va_D A ([(qr, .inr (5, [.ref h0, .int (nI o)])), (h0, .inr (8, [.ref qb, .ref qu, .int uc, .int ln, .int (nI n), .int (nI p), .int pl])), (qb, .inl (cB, 4096, .inl bf)), (qu, .inl (cI, 4096, .inl ug)), (q, .inr (7, [.int 0, .ref qn, .int 0, .int 0, .long 0, .long 0, .long 1, .null, .null])), (qn, .inl (cI, (p - i), .inl (fun _ => 0)))] ++ va_pl L f) := hD
            refine lv_iconst (v := 0) hx hb d_QueryReader_shortSelector_137 (by decide) ?_
            refine lv_istore (lv' := [(4, .int 0), (0, .ref qr), (2, .ref q), (3, .int (nI i))]) hx hb d_QueryReader_shortSelector_138 hl (by decide) rfl (fun ls hl => ?_)
            refine w_loop (D := (dC, dI)) (cl := classes) (A := A) (H0 := s.heap) (nL := 5) 140 (σ := Nat × (Nat → Int32)) (fun ⟨j, g⟩ => j ≤ (p - i)) (fun ⟨j, g⟩ => (p - i) - j) (fun ⟨j, g⟩ => [(qr, .inr (5, [.ref h0, .int (nI o)])), (h0, .inr (8, [.ref qb, .ref qu, .int uc, .int ln, .int (nI n), .int (nI p), .int pl])), (qb, .inl (cB, 4096, .inl bf)), (qu, .inl (cI, 4096, .inl ug)), (q, .inr (7, [.int 0, .ref qn, .int 0, .int 0, .long 0, .long 0, .long 1, .null, .null])), (qn, .inl (cI, (p - i), .inl g))] ++ va_pl L f) (fun ⟨j, g⟩ => [(0, .ref qr), (2, .ref q), (3, .int (nI i)), (4, .int (nI j))]) ?_ (0, fun _ => 0) (Nat.zero_le _) hP hD hS (lv_sub hl [1, 2, 3, 0] rfl)
            rintro ⟨j, g⟩ H locs ls hI ih hP hD hS hl
            have hP : va_P (dC, dI) classes ([(qr, .inr (5, [.ref h0, .int (nI o)])), (h0, .inr (8, [.ref qb, .ref qu, .int uc, .int ln, .int (nI n), .int (nI p), .int pl])), (qb, .inl (cB, 4096, .inl bf)), (qu, .inl (cI, 4096, .inl ug)), (q, .inr (7, [.int 0, .ref qn, .int 0, .int 0, .long 0, .long 0, .long 1, .null, .null])), (qn, .inl (cI, (p - i), .inl g))] ++ va_pl L f) H := hP
            have hD : va_D A ([(qr, .inr (5, [.ref h0, .int (nI o)])), (h0, .inr (8, [.ref qb, .ref qu, .int uc, .int ln, .int (nI n), .int (nI p), .int pl])), (qb, .inl (cB, 4096, .inl bf)), (qu, .inl (cI, 4096, .inl ug)), (q, .inr (7, [.int 0, .ref qn, .int 0, .int 0, .long 0, .long 0, .long 1, .null, .null])), (qn, .inl (cI, (p - i), .inl g))] ++ va_pl L f) := hD
            have hl : lv_has ls 5 [(0, .ref qr), (2, .ref q), (3, .int (nI i)), (4, .int (nI j))] := hl
            have hj : j ≤ (p - i) := hI
            refine lv_iload hx hb d_QueryReader_shortSelector_140 (lv_at hl 3 rfl) ?_
            refine lv_aload_n hx hb d_QueryReader_shortSelector_142 rfl (lv_at hl 1 rfl) ?_
            refine va_get (D := (dC, dI)) (ci := 7) (v := .ref qn) (C := R_Selector) (T := F_Selector) (N := 9) hx hb hts in_Selector hown hK hP 4 rfl rfl 1 (by decide) (hts _ z_613) (fun _ h9 => h9) rfl d_QueryReader_shortSelector_143 ?_
            refine va_alen (v := nI (p - i)) hx hb hK hP 5 1 rfl rfl rfl d_QueryReader_shortSelector_146 ?_
            refine lv_icmp_ge (tgt := 175) hx hb d_QueryReader_shortSelector_147 (by decide) (fun c147 => ?_) (fun c147 => ?_)
            · refine lv_aload_n hx hb d_QueryReader_shortSelector_175 rfl (lv_at hl 1 rfl) ?_
              have hqnL := plD_new (X := [(qr, .inr (5, [.ref h0, .int (nI o)])), (h0, .inr (8, [.ref qb, .ref qu, .int uc, .int ln, .int (nI n), .int (nI p), .int pl])), (qb, .inl (cB, 4096, .inl bf)), (qu, .inl (cI, 4096, .inl ug)), (q, .inr (7, [.int 0, .ref qn, .int 0, .int 0, .long 0, .long 0, .long 1, .null, .null]))]) hD
              have hqn0 : E qn = 0 := Classical.byContradiction (fun h => hqnL (hO.inL h))
              have hP := plP_push (X := [(qr, .inr (5, [.ref h0, .int (nI o)])), (h0, .inr (8, [.ref qb, .ref qu, .int uc, .int ln, .int (nI n), .int (nI p), .int pl])), (qb, .inl (cB, 4096, .inl bf)), (qu, .inl (cI, 4096, .inl ug)), (q, .inr (7, [.int 0, .ref qn, .int 0, .int 0, .long 0, .long 0, .long 1, .null, .null]))]) hP hqnL
              have hD := plD_push (X := [(qr, .inr (5, [.ref h0, .int (nI o)])), (h0, .inr (8, [.ref qb, .ref qu, .int uc, .int ln, .int (nI n), .int (nI p), .int pl])), (qb, .inl (cB, 4096, .inl bf)), (qu, .inl (cI, 4096, .inl ug)), (q, .inr (7, [.int 0, .ref qn, .int 0, .int 0, .long 0, .long 0, .long 1, .null, .null]))]) hD hqnL
              have hqL := plD_new (X := [(qr, .inr (5, [.ref h0, .int (nI o)])), (h0, .inr (8, [.ref qb, .ref qu, .int uc, .int ln, .int (nI n), .int (nI p), .int pl])), (qb, .inl (cB, 4096, .inl bf)), (qu, .inl (cI, 4096, .inl ug))]) hD
              have hq0 : va_up E qn 4 q = 0 := by
                have hG0 : QG cI cV E lv L f i n p s.heap.size [] E lv f := (QG.rf hO hin).mv (by omega) (by omega)
                have hG1 := hG0.add (q := qn) (s := 4) (b := 0) (e := tE cI (p - i) g) hqn0 (by rw [List.append_nil]; exact hqnL) hz_qn (by decide) (by decide) (CO.T (va_up_self _ _ _) ⟨_, _, rfl, by omega⟩)
                exact Classical.byContradiction (fun h => hqL (by have := hG1.po.inL h; exact this))
              have hqq : qn ≠ q := fun e => by rw [← e, va_up_self] at hq0; cases hq0
              have hP := plP_push (X := [(qr, .inr (5, [.ref h0, .int (nI o)])), (h0, .inr (8, [.ref qb, .ref qu, .int uc, .int ln, .int (nI n), .int (nI p), .int pl])), (qb, .inl (cB, 4096, .inl bf)), (qu, .inl (cI, 4096, .inl ug))]) hP hqL
              have hD := plD_push (X := [(qr, .inr (5, [.ref h0, .int (nI o)])), (h0, .inr (8, [.ref qb, .ref qu, .int uc, .int ln, .int (nI n), .int (nI p), .int pl])), (qb, .inl (cB, 4096, .inl bf)), (qu, .inl (cI, 4096, .inl ug))]) hD hqL
              rw [List.append_assoc] at hP hD
              have hqE : E q = 0 := by rw [va_up_ne _ _ (Ne.symm hqq)] at hq0; exact hq0
              have hQ : QPn cI cV E L f i n s.heap.size 9 0 0 q p (([] ++ [qn]) ++ [q]) (va_up (va_up E qn 4) q 9) (va_up (va_up f qn (tE cI (p - i) g)) q (lE 0 (some qn) 0 0 0 0 1 none none)) := by
                refine ⟨hqE, va_up_self _ _ _, by omega, by omega, fun lv hO b _ => ?_⟩
                have hG0 : QG cI cV E lv L f i n p s.heap.size [] E lv f := (QG.rf hO hin).mv (by omega) (by omega)
                have hG1 := hG0.add (q := qn) (s := 4) (b := 0) (e := tE cI (p - i) g) hqn0 (by rw [List.append_nil]; exact hqnL) hz_qn (by decide) (by decide) (CO.T (va_up_self _ _ _) ⟨_, _, rfl, by omega⟩)
                exact ⟨va_up (va_up lv qn 0) q b, hG1.add (q := q) (s := 9) (b := b) (e := lE 0 (some qn) 0 0 0 0 1 none none) hq0 hqL hz_q (by decide) (by decide) (CO.L (va_up_self _ _ _) ⟨_, _, _, _, _, _, _, _, _, rfl, ⟨(fun b h => by cases h; exact (va_up_ne _ _ hqq).trans (va_up_self _ _ _)), fun b h => (nomatch h), fun b h => (nomatch h), (fun _ h => by cases h), fun h0 h1 => absurd rfl h0, by decide, by decide⟩⟩), va_up_self _ _ _⟩
              have hP : va_P (dC, dI) classes ([(qr, .inr (5, [.ref h0, .int (nI o)])), (h0, .inr (8, [.ref qb, .ref qu, .int uc, .int ln, .int (nI n), .int (nI p), .int pl])), (qb, .inl (cB, 4096, .inl bf)), (qu, .inl (cI, 4096, .inl ug))] ++ va_pl ((L ++ (([] ++ [qn]) ++ [q]))) ((va_up (va_up f qn (tE cI (p - i) g)) q (lE 0 (some qn) 0 0 0 0 1 none none)))) H := hP
              have hD : va_D A ([(qr, .inr (5, [.ref h0, .int (nI o)])), (h0, .inr (8, [.ref qb, .ref qu, .int uc, .int ln, .int (nI n), .int (nI p), .int pl])), (qb, .inl (cB, 4096, .inl bf)), (qu, .inl (cI, 4096, .inl ug))] ++ va_pl ((L ++ (([] ++ [qn]) ++ [q]))) ((va_up (va_up f qn (tE cI (p - i) g)) q (lE 0 (some qn) 0 0 0 0 1 none none)))) := hD
              have hok : shC bf n (nwB nw) i = some (p, sgL ((va_up (va_up f qn (tE cI (p - i) g)) q (lE 0 (some qn) 0 0 0 0 1 none none)) q)) := by rw [va_up_self, sgL_0]; exact sh_n hns hlet hne
              refine w_same (fun hq => ?_)
              refine W.widen (k := 3) (n := 15 + (n - i)) (by show ((0 + 1) + 1) ≤ 3; omega) (by show ((0 + 9) + (p - i)) ≤ 15 + (n - i); omega) ?_
              refine vx_ret ?_
              exact W.aret (v := .ref q) hx hb hr (Or.inl ⟨_, rfl⟩) (Or.inr ⟨_, rfl⟩) (fun t9 ht hW => ⟨⟨(q, p, ([] ++ [qn]) ++ [q], va_up (va_up E qn 4) q 9, va_up (va_up f qn (tE cI (p - i) g)) q (lE 0 (some qn) 0 0 0 0 1 none none)), q, rfl, ⟨hQ, hok⟩, ⟨by rw [ht]; exact hP, va_K.moved hW.alike hK, hD⟩, by rw [ht]; exact ⟨hq.mono (by show ((0 + 1) + 1) ≤ 2; omega) (by show ((0 + 9) + (p - i)) ≤ 9 + (p - i); omega), rfl⟩⟩, hS.F ht⟩) hS.2.2 d_QueryReader_shortSelector_176
            · have hjl : j < p - i := by rw [nI_leI (by omega) (by omega)] at c147; omega
              refine lv_aload_n hx hb d_QueryReader_shortSelector_150 rfl (lv_at hl 1 rfl) ?_
              refine va_get (D := (dC, dI)) (ci := 7) (v := .ref qn) (C := R_Selector) (T := F_Selector) (N := 9) hx hb hts in_Selector hown hK hP 4 rfl rfl 1 (by decide) (hts _ z_613) (fun _ h9 => h9) rfl d_QueryReader_shortSelector_151 ?_
              refine lv_iload hx hb d_QueryReader_shortSelector_154 (lv_at hl 3 rfl) ?_
              refine lv_aload_n hx hb d_QueryReader_shortSelector_156 rfl (lv_at hl 0 rfl) ?_
              refine va_get (D := (dC, dI)) (ci := 5) (v := .ref h0) (C := R_QueryReader) (T := F_QueryReader) (N := 2) hx hb hts in_QueryReader hown hK hP 0 rfl rfl 0 (by decide) (hts _ w_100) (fun _ h9 => h9) rfl d_QueryReader_shortSelector_157 ?_
              refine va_get (D := (dC, dI)) (ci := 8) (v := .ref qb) (C := R_Tape) (T := F_Tape) (N := 7) hx hb hts in_Tape hown hK hP 1 rfl rfl 0 (by decide) (hts _ z_44) (fun _ h9 => h9) rfl d_QueryReader_shortSelector_160 ?_
              refine lv_iload_n hx hb d_QueryReader_shortSelector_163 rfl (lv_at hl 2 rfl) ?_
              refine lv_iload hx hb d_QueryReader_shortSelector_164 (lv_at hl 3 rfl) ?_
              refine lv_iadd hx hb d_QueryReader_shortSelector_166 ?_
              refine W.eq (g2 := F0 m 167 ls [.int (nI (i + j)), .ref qb, .int (nI j), .ref qn]) (by rw [show ((nI i) + (nI j)) = (nI (i + j)) from (nI_add _ _)]) ?_
              refine va_bald hx hb hK hP 2 0 rfl rfl (vp_in_nI (show i + j < 4096 by omega) (by decide)) d_QueryReader_shortSelector_167 ?_
              rw [show (nI (i + j)).toNatClampNeg = i + j from nI_clamp (by omega)]
              refine va_iast hx hb hK hP hD hS 5 1 rfl rfl (vp_in_nI hjl (by omega)) d_QueryReader_shortSelector_168 (fun H locs hP hD hS => ?_)
              rw [show (nI j).toNatClampNeg = j from nI_clamp (by omega)] at hP hD
              have hP : va_P (dC, dI) classes ([(qr, .inr (5, [.ref h0, .int (nI o)])), (h0, .inr (8, [.ref qb, .ref qu, .int uc, .int ln, .int (nI n), .int (nI p), .int pl])), (qb, .inl (cB, 4096, .inl bf)), (qu, .inl (cI, 4096, .inl ug)), (q, .inr (7, [.int 0, .ref qn, .int 0, .int 0, .long 0, .long 0, .long 1, .null, .null])), (qn, .inl (cI, (p - i), .inl (upd g j (bf (i + j)))))] ++ va_pl L f) H := hP
              have hD : va_D A ([(qr, .inr (5, [.ref h0, .int (nI o)])), (h0, .inr (8, [.ref qb, .ref qu, .int uc, .int ln, .int (nI n), .int (nI p), .int pl])), (qb, .inl (cB, 4096, .inl bf)), (qu, .inl (cI, 4096, .inl ug)), (q, .inr (7, [.int 0, .ref qn, .int 0, .int 0, .long 0, .long 0, .long 1, .null, .null])), (qn, .inl (cI, (p - i), .inl (upd g j (bf (i + j)))))] ++ va_pl L f) := hD
              refine lv_iinc (v := nI (j + 1)) (lv' := [(4, .int (nI (j + 1))), (0, .ref qr), (2, .ref q), (3, .int (nI i))]) hx hb d_QueryReader_shortSelector_169 hl (k := 3) rfl (nI_1 _) (by decide) rfl (fun ls hl => ?_)
              refine lv_goto (tgt := 140) hx hb d_QueryReader_shortSelector_172 (by decide) ?_
              exact ih (j + 1, _) _ _ _ (show j + 1 ≤ (p - i) by omega) (by show (p - i) - (j + 1) < (p - i) - j; omega) hP hD hS (lv_sub hl [1, 2, 3, 0] rfl)
          · have hpn : p < n := by rw [nI_leI (by omega) (by omega)] at c90; omega
            refine lv_aload_n hx hb d_QueryReader_shortSelector_93 rfl (lv_at hl 0 rfl) ?_
            refine va_get (D := (dC, dI)) (ci := 5) (v := .ref h0) (C := R_QueryReader) (T := F_QueryReader) (N := 2) hx hb hts in_QueryReader hown hK hP 0 rfl rfl 0 (by decide) (hts _ w_100) (fun _ h9 => h9) rfl d_QueryReader_shortSelector_94 ?_
            have hPc := hP.sub (ws' := [(h0, .inr (8, [.ref qb, .ref qu, .int uc, .int ln, .int (nI n), .int (nI p), .int pl])), (qb, .inl (cB, 4096, .inl bf))]) [1, 2] rfl
            have hDc := hD.sub (ws' := [(h0, .inr (8, [.ref qb, .ref qu, .int uc, .int ln, .int (nI n), .int (nI p), .int pl])), (qb, .inl (cB, 4096, .inl bf))]) [1, 2] (by decide) rfl
            have hFc := va_free (wc := [(h0, .inr (8, [.ref qb, .ref qu, .int uc, .int ln, .int (nI n), .int (nI p), .int pl])), (qb, .inl (cB, 4096, .inl bf))]) hD hS hA [1, 2] rfl
            have hKc := hK.sub (tys' := [(cB, .byte)]) [0] rfl
            refine va_calli (va_runV (As := []) (rest := []) ⟨hx, hb, hml, hown, hts⟩ (c_Tape_here l dC dI cB h0 qb H (.ref qu) uc ln pl bf n p hn0 (by omega)) (cwV 0 hts (gt_V (own := R_QueryReader) (C := R_Tape) (i := 19) (y := y_Tape_here) i_Tape_here z_534 w_363 w_364 w_2) rfl rfl rfl (by decide +kernel) ⟨Nat.le_of_ble_eq_true rfl, Nat.le_of_ble_eq_true rfl⟩) ⟨mp_blind, va_recv hK hP (ci := 8) (q0 := 1) rfl rfl, fun U hU hW => ⟨rfl, hU, by rw [hU]; exact hPc, va_K.moved hW.alike hKc, hDc.weaken (fun _ _ _ _ => trivial)⟩⟩ rfl rfl hl.1 rfl (lv_room (Nat.le_of_ble_eq_true rfl)) d_QueryReader_shortSelector_97 ⟨by show (0 + 1) + (0) ≤ 3; omega, by show (0 + 9) + (0) ≤ 15 + (n - i); omega⟩) hS (fun q _ h => hFc q h) hFc (fun h32 _u t9 H1 locs ht hvm hw hB hz1 hk1 hS => ?_)
            obtain ⟨hP1, hK1, hD1⟩ := hB
            rw [ht] at hP1
            obtain ⟨hP, hD⟩ := va_joinQ (wr := [(qr, .inr (5, [.ref h0, .int (nI o)])), (qu, .inl (cI, 4096, .inl ug)), (q, .inr (7, [.int 0, .null, .int 0, .int 0, .long 0, .long 0, .long 1, .null, .null]))]) (w1 := [(h0, .inr (8, [.ref qb, .ref qu, .int uc, .int ln, .int (nI n), .int (nI p), .int pl])), (qb, .inl (cB, 4096, .inl bf))]) hP hD [1, 2] [0, 3, 4] rfl rfl (by decide) (by decide) hk1 hFc hP1 hD1
            generalize H1 = H at hP hS ⊢
            have hP : va_P (dC, dI) classes ([(qr, .inr (5, [.ref h0, .int (nI o)])), (qu, .inl (cI, 4096, .inl ug)), (q, .inr (7, [.int 0, .null, .int 0, .int 0, .long 0, .long 0, .long 1, .null, .null])), (h0, .inr (8, [.ref qb, .ref qu, .int uc, .int ln, .int (nI n), .int (nI p), .int pl])), (qb, .inl (cB, 4096, .inl bf))] ++ va_pl L f) H := hP
            have hD : va_D A ([(qr, .inr (5, [.ref h0, .int (nI o)])), (qu, .inl (cI, 4096, .inl ug)), (q, .inr (7, [.int 0, .null, .int 0, .int 0, .long 0, .long 0, .long 1, .null, .null])), (h0, .inr (8, [.ref qb, .ref qu, .int uc, .int ln, .int (nI n), .int (nI p), .int pl])), (qb, .inl (cB, 4096, .inl bf))] ++ va_pl L f) := hD
            have hP := hP.part (cx := [(qr, .inr (5, [.ref h0, .int (nI o)])), (h0, .inr (8, [.ref qb, .ref qu, .int uc, .int ln, .int (nI n), .int (nI p), .int pl])), (qb, .inl (cB, 4096, .inl bf)), (qu, .inl (cI, 4096, .inl ug)), (q, .inr (7, [.int 0, .null, .int 0, .int 0, .long 0, .long 0, .long 1, .null, .null]))]) [0, 3, 4, 1, 2] rfl
            have hD := hD.part (cx := [(qr, .inr (5, [.ref h0, .int (nI o)])), (h0, .inr (8, [.ref qb, .ref qu, .int uc, .int ln, .int (nI n), .int (nI p), .int pl])), (qb, .inl (cB, 4096, .inl bf)), (qu, .inl (cI, 4096, .inl ug)), (q, .inr (7, [.int 0, .null, .int 0, .int 0, .long 0, .long 0, .long 1, .null, .null]))]) [0, 3, 4, 1, 2] (by decide) rfl
            have h_h32 : h32 = hereV bf n p := hw
            refine vp_callSi (va_Run.run (va_runS (As := [.int h32]) (rest := []) ⟨hx, hb, hml, hown, hts⟩ (c_QueryReader_isNameByte l dC dI H h32) (va_cwS 1 hts (gt_S (own := R_QueryReader) (i := 81) (y := y_QueryReader_isNameByte) i_QueryReader_isNameByte z_793 z_794 w_4) rfl rfl rfl (by decide +kernel) ⟨Nat.le_of_ble_eq_true rfl, Nat.le_of_ble_eq_true rfl⟩) ⟨mT_blind, fun U hU hW => ⟨rfl, hN.warm hW⟩⟩ rfl rfl hl.1 rfl (lv_room (Nat.le_of_ble_eq_true rfl)) d_QueryReader_shortSelector_100 ⟨by show (0 + 1) + (0) ≤ 3; omega, by show (0 + 9) + (0) ≤ 15 + (n - i); omega⟩)) (fun r33 h_r33 => ?_)
            refine lv_if_eq (tgt := 122) hx hb d_QueryReader_shortSelector_103 (by decide) (fun c103 => ?_) (fun c103 => ?_)
            · have hne : nmC bf n (n - i) i = p := hnm.trans (nmC_e (by rw [← h_h32]; exact h_r33.2.2 c103))
              refine lv_aload_n hx hb d_QueryReader_shortSelector_122 rfl (lv_at hl 1 rfl) ?_
              refine lv_aload_n hx hb d_QueryReader_shortSelector_123 rfl (lv_at hl 0 rfl) ?_
              refine va_get (D := (dC, dI)) (ci := 5) (v := .ref h0) (C := R_QueryReader) (T := F_QueryReader) (N := 2) hx hb hts in_QueryReader hown hK hP 0 rfl rfl 0 (by decide) (hts _ w_100) (fun _ h9 => h9) rfl d_QueryReader_shortSelector_124 ?_
              refine va_get (D := (dC, dI)) (ci := 8) (v := .int (nI p)) (C := R_Tape) (T := F_Tape) (N := 7) hx hb hts in_Tape hown hK hP 1 rfl rfl 5 (by decide) (hts _ z_53) (fun _ h9 => h9) rfl d_QueryReader_shortSelector_127 ?_
              refine lv_iload_n hx hb d_QueryReader_shortSelector_130 rfl (lv_at hl 2 rfl) ?_
              refine lv_isub hx hb d_QueryReader_shortSelector_131 ?_
              refine W.eq (g2 := F0 m 132 ls [.int (nI (p - i)), .ref q]) (by rw [show ((nI p) - (nI i)) = (nI (p - i)) from (pk_sub (by omega))]) ?_
              refine va_newa (atype := .int) (ty := .int) (N' := (p - i)) (a0 := ((p - i), .inl (fun _ => 0))) hx hb (hts _ w_73) rfl hK hP hD hS hA (fun _ => rfl) (nI_pos (by omega)) (nI_clamp (by omega)) (by show (p - i) * 4 ≤ 536870912; omega) (by show (0 + 1) + 1 ≤ 3; omega) (by show (0 + 9) + (p - i) ≤ 15 + (n - i); omega) d_QueryReader_shortSelector_132 (fun qn cA H hK hP hD hS => ?_)
              obtain rfl : cI = cA := Option.some.inj ((hK.2 1 _ rfl).2.symm.trans (hK.2 3 _ rfl).2)
              have hK := hK.sub (tys' := [(cB, .byte), (cI, .int), (cV, .object "QueryBench$Value")]) [0, 1, 2] rfl
              have hz_qn := newA hAe hD (fun k x hk => by rcases k with _ | _ | _ | _ | k; (· cases hk; exact ⟨0, _, rfl⟩); (· cases hk; exact ⟨1, _, rfl⟩); (· cases hk; exact ⟨2, _, rfl⟩); (· cases hk; exact ⟨3, _, rfl⟩); (· exact ⟨k + 5, x.2, hk⟩))
              have hP := hP.swap
              have hD := hD.swap
              have hP : va_P (dC, dI) classes ([(qr, .inr (5, [.ref h0, .int (nI o)])), (h0, .inr (8, [.ref qb, .ref qu, .int uc, .int ln, .int (nI n), .int (nI p), .int pl])), (qb, .inl (cB, 4096, .inl bf)), (qu, .inl (cI, 4096, .inl ug)), (q, .inr (7, [.int 0, .null, .int 0, .int 0, .long 0, .long 0, .long 1, .null, .null])), (qn, .inl (cI, (p - i), .inl (fun _ => 0)))] ++ va_pl L f) H := hP
              have hD : va_D A ([(qr, .inr (5, [.ref h0, .int (nI o)])), (h0, .inr (8, [.ref qb, .ref qu, .int uc, .int ln, .int (nI n), .int (nI p), .int pl])), (qb, .inl (cB, 4096, .inl bf)), (qu, .inl (cI, 4096, .inl ug)), (q, .inr (7, [.int 0, .null, .int 0, .int 0, .long 0, .long 0, .long 1, .null, .null])), (qn, .inl (cI, (p - i), .inl (fun _ => 0)))] ++ va_pl L f) := hD
              refine va_put (D := (dC, dI)) (ci := 7) (v := .ref qn) (ty := .array .int) (C := R_Selector) (T := F_Selector) (N := 9) hx hb hts in_Selector t_Selector t_Selector_ok n_Selector hown hK hP hD hS 4 rfl rfl 1 (by decide) (hts _ z_613) (fun _ h9 => h9) rfl (by decide +kernel) rfl rfl (Nat.le_of_ble_eq_true rfl) d_QueryReader_shortSelector_134 (fun H locs hP hD hS => ?_)
              have hP : va_P (dC, dI) classes ([(qr, .inr (5, [.ref h0, .int (nI o)])), (h0, .inr (8, [.ref qb, .ref qu, .int uc, .int ln, .int (nI n), .int (nI p), .int pl])), (qb, .inl (cB, 4096, .inl bf)), (qu, .inl (cI, 4096, .inl ug)), (q, .inr (7, [.int 0, .ref qn, .int 0, .int 0, .long 0, .long 0, .long 1, .null, .null])), (qn, .inl (cI, (p - i), .inl (fun _ => 0)))] ++ va_pl L f) H := hP
              have hD : va_D A ([(qr, .inr (5, [.ref h0, .int (nI o)])), (h0, .inr (8, [.ref qb, .ref qu, .int uc, .int ln, .int (nI n), .int (nI p), .int pl])), (qb, .inl (cB, 4096, .inl bf)), (qu, .inl (cI, 4096, .inl ug)), (q, .inr (7, [.int 0, .ref qn, .int 0, .int 0, .long 0, .long 0, .long 1, .null, .null])), (qn, .inl (cI, (p - i), .inl (fun _ => 0)))] ++ va_pl L f) := hD
              refine lv_iconst (v := 0) hx hb d_QueryReader_shortSelector_137 (by decide) ?_
              refine lv_istore (lv' := [(4, .int 0), (0, .ref qr), (2, .ref q), (3, .int (nI i))]) hx hb d_QueryReader_shortSelector_138 hl (by decide) rfl (fun ls hl => ?_)
              refine w_loop (D := (dC, dI)) (cl := classes) (A := A) (H0 := s.heap) (nL := 5) 140 (σ := Nat × (Nat → Int32)) (fun ⟨j, g⟩ => j ≤ (p - i)) (fun ⟨j, g⟩ => (p - i) - j) (fun ⟨j, g⟩ => [(qr, .inr (5, [.ref h0, .int (nI o)])), (h0, .inr (8, [.ref qb, .ref qu, .int uc, .int ln, .int (nI n), .int (nI p), .int pl])), (qb, .inl (cB, 4096, .inl bf)), (qu, .inl (cI, 4096, .inl ug)), (q, .inr (7, [.int 0, .ref qn, .int 0, .int 0, .long 0, .long 0, .long 1, .null, .null])), (qn, .inl (cI, (p - i), .inl g))] ++ va_pl L f) (fun ⟨j, g⟩ => [(0, .ref qr), (2, .ref q), (3, .int (nI i)), (4, .int (nI j))]) ?_ (0, fun _ => 0) (Nat.zero_le _) hP hD hS (lv_sub hl [1, 2, 3, 0] rfl)
              rintro ⟨j, g⟩ H locs ls hI ih hP hD hS hl
              have hP : va_P (dC, dI) classes ([(qr, .inr (5, [.ref h0, .int (nI o)])), (h0, .inr (8, [.ref qb, .ref qu, .int uc, .int ln, .int (nI n), .int (nI p), .int pl])), (qb, .inl (cB, 4096, .inl bf)), (qu, .inl (cI, 4096, .inl ug)), (q, .inr (7, [.int 0, .ref qn, .int 0, .int 0, .long 0, .long 0, .long 1, .null, .null])), (qn, .inl (cI, (p - i), .inl g))] ++ va_pl L f) H := hP
              have hD : va_D A ([(qr, .inr (5, [.ref h0, .int (nI o)])), (h0, .inr (8, [.ref qb, .ref qu, .int uc, .int ln, .int (nI n), .int (nI p), .int pl])), (qb, .inl (cB, 4096, .inl bf)), (qu, .inl (cI, 4096, .inl ug)), (q, .inr (7, [.int 0, .ref qn, .int 0, .int 0, .long 0, .long 0, .long 1, .null, .null])), (qn, .inl (cI, (p - i), .inl g))] ++ va_pl L f) := hD
              have hl : lv_has ls 5 [(0, .ref qr), (2, .ref q), (3, .int (nI i)), (4, .int (nI j))] := hl
              have hj : j ≤ (p - i) := hI
              refine lv_iload hx hb d_QueryReader_shortSelector_140 (lv_at hl 3 rfl) ?_
              refine lv_aload_n hx hb d_QueryReader_shortSelector_142 rfl (lv_at hl 1 rfl) ?_
              refine va_get (D := (dC, dI)) (ci := 7) (v := .ref qn) (C := R_Selector) (T := F_Selector) (N := 9) hx hb hts in_Selector hown hK hP 4 rfl rfl 1 (by decide) (hts _ z_613) (fun _ h9 => h9) rfl d_QueryReader_shortSelector_143 ?_
              refine va_alen (v := nI (p - i)) hx hb hK hP 5 1 rfl rfl rfl d_QueryReader_shortSelector_146 ?_
              refine lv_icmp_ge (tgt := 175) hx hb d_QueryReader_shortSelector_147 (by decide) (fun c147 => ?_) (fun c147 => ?_)
              · refine lv_aload_n hx hb d_QueryReader_shortSelector_175 rfl (lv_at hl 1 rfl) ?_
                have hqnL := plD_new (X := [(qr, .inr (5, [.ref h0, .int (nI o)])), (h0, .inr (8, [.ref qb, .ref qu, .int uc, .int ln, .int (nI n), .int (nI p), .int pl])), (qb, .inl (cB, 4096, .inl bf)), (qu, .inl (cI, 4096, .inl ug)), (q, .inr (7, [.int 0, .ref qn, .int 0, .int 0, .long 0, .long 0, .long 1, .null, .null]))]) hD
                have hqn0 : E qn = 0 := Classical.byContradiction (fun h => hqnL (hO.inL h))
                have hP := plP_push (X := [(qr, .inr (5, [.ref h0, .int (nI o)])), (h0, .inr (8, [.ref qb, .ref qu, .int uc, .int ln, .int (nI n), .int (nI p), .int pl])), (qb, .inl (cB, 4096, .inl bf)), (qu, .inl (cI, 4096, .inl ug)), (q, .inr (7, [.int 0, .ref qn, .int 0, .int 0, .long 0, .long 0, .long 1, .null, .null]))]) hP hqnL
                have hD := plD_push (X := [(qr, .inr (5, [.ref h0, .int (nI o)])), (h0, .inr (8, [.ref qb, .ref qu, .int uc, .int ln, .int (nI n), .int (nI p), .int pl])), (qb, .inl (cB, 4096, .inl bf)), (qu, .inl (cI, 4096, .inl ug)), (q, .inr (7, [.int 0, .ref qn, .int 0, .int 0, .long 0, .long 0, .long 1, .null, .null]))]) hD hqnL
                have hqL := plD_new (X := [(qr, .inr (5, [.ref h0, .int (nI o)])), (h0, .inr (8, [.ref qb, .ref qu, .int uc, .int ln, .int (nI n), .int (nI p), .int pl])), (qb, .inl (cB, 4096, .inl bf)), (qu, .inl (cI, 4096, .inl ug))]) hD
                have hq0 : va_up E qn 4 q = 0 := by
                  have hG0 : QG cI cV E lv L f i n p s.heap.size [] E lv f := (QG.rf hO hin).mv (by omega) (by omega)
                  have hG1 := hG0.add (q := qn) (s := 4) (b := 0) (e := tE cI (p - i) g) hqn0 (by rw [List.append_nil]; exact hqnL) hz_qn (by decide) (by decide) (CO.T (va_up_self _ _ _) ⟨_, _, rfl, by omega⟩)
                  exact Classical.byContradiction (fun h => hqL (by have := hG1.po.inL h; exact this))
                have hqq : qn ≠ q := fun e => by rw [← e, va_up_self] at hq0; cases hq0
                have hP := plP_push (X := [(qr, .inr (5, [.ref h0, .int (nI o)])), (h0, .inr (8, [.ref qb, .ref qu, .int uc, .int ln, .int (nI n), .int (nI p), .int pl])), (qb, .inl (cB, 4096, .inl bf)), (qu, .inl (cI, 4096, .inl ug))]) hP hqL
                have hD := plD_push (X := [(qr, .inr (5, [.ref h0, .int (nI o)])), (h0, .inr (8, [.ref qb, .ref qu, .int uc, .int ln, .int (nI n), .int (nI p), .int pl])), (qb, .inl (cB, 4096, .inl bf)), (qu, .inl (cI, 4096, .inl ug))]) hD hqL
                rw [List.append_assoc] at hP hD
                have hqE : E q = 0 := by rw [va_up_ne _ _ (Ne.symm hqq)] at hq0; exact hq0
                have hQ : QPn cI cV E L f i n s.heap.size 9 0 0 q p (([] ++ [qn]) ++ [q]) (va_up (va_up E qn 4) q 9) (va_up (va_up f qn (tE cI (p - i) g)) q (lE 0 (some qn) 0 0 0 0 1 none none)) := by
                  refine ⟨hqE, va_up_self _ _ _, by omega, by omega, fun lv hO b _ => ?_⟩
                  have hG0 : QG cI cV E lv L f i n p s.heap.size [] E lv f := (QG.rf hO hin).mv (by omega) (by omega)
                  have hG1 := hG0.add (q := qn) (s := 4) (b := 0) (e := tE cI (p - i) g) hqn0 (by rw [List.append_nil]; exact hqnL) hz_qn (by decide) (by decide) (CO.T (va_up_self _ _ _) ⟨_, _, rfl, by omega⟩)
                  exact ⟨va_up (va_up lv qn 0) q b, hG1.add (q := q) (s := 9) (b := b) (e := lE 0 (some qn) 0 0 0 0 1 none none) hq0 hqL hz_q (by decide) (by decide) (CO.L (va_up_self _ _ _) ⟨_, _, _, _, _, _, _, _, _, rfl, ⟨(fun b h => by cases h; exact (va_up_ne _ _ hqq).trans (va_up_self _ _ _)), fun b h => (nomatch h), fun b h => (nomatch h), (fun _ h => by cases h), fun h0 h1 => absurd rfl h0, by decide, by decide⟩⟩), va_up_self _ _ _⟩
                have hP : va_P (dC, dI) classes ([(qr, .inr (5, [.ref h0, .int (nI o)])), (h0, .inr (8, [.ref qb, .ref qu, .int uc, .int ln, .int (nI n), .int (nI p), .int pl])), (qb, .inl (cB, 4096, .inl bf)), (qu, .inl (cI, 4096, .inl ug))] ++ va_pl ((L ++ (([] ++ [qn]) ++ [q]))) ((va_up (va_up f qn (tE cI (p - i) g)) q (lE 0 (some qn) 0 0 0 0 1 none none)))) H := hP
                have hD : va_D A ([(qr, .inr (5, [.ref h0, .int (nI o)])), (h0, .inr (8, [.ref qb, .ref qu, .int uc, .int ln, .int (nI n), .int (nI p), .int pl])), (qb, .inl (cB, 4096, .inl bf)), (qu, .inl (cI, 4096, .inl ug))] ++ va_pl ((L ++ (([] ++ [qn]) ++ [q]))) ((va_up (va_up f qn (tE cI (p - i) g)) q (lE 0 (some qn) 0 0 0 0 1 none none)))) := hD
                have hok : shC bf n (nwB nw) i = some (p, sgL ((va_up (va_up f qn (tE cI (p - i) g)) q (lE 0 (some qn) 0 0 0 0 1 none none)) q)) := by rw [va_up_self, sgL_0]; exact sh_n hns hlet hne
                refine w_same (fun hq => ?_)
                refine W.widen (k := 3) (n := 15 + (n - i)) (by show ((0 + 1) + 1) ≤ 3; omega) (by show ((0 + 9) + (p - i)) ≤ 15 + (n - i); omega) ?_
                refine vx_ret ?_
                exact W.aret (v := .ref q) hx hb hr (Or.inl ⟨_, rfl⟩) (Or.inr ⟨_, rfl⟩) (fun t9 ht hW => ⟨⟨(q, p, ([] ++ [qn]) ++ [q], va_up (va_up E qn 4) q 9, va_up (va_up f qn (tE cI (p - i) g)) q (lE 0 (some qn) 0 0 0 0 1 none none)), q, rfl, ⟨hQ, hok⟩, ⟨by rw [ht]; exact hP, va_K.moved hW.alike hK, hD⟩, by rw [ht]; exact ⟨hq.mono (by show ((0 + 1) + 1) ≤ 2; omega) (by show ((0 + 9) + (p - i)) ≤ 9 + (p - i); omega), rfl⟩⟩, hS.F ht⟩) hS.2.2 d_QueryReader_shortSelector_176
              · have hjl : j < p - i := by rw [nI_leI (by omega) (by omega)] at c147; omega
                refine lv_aload_n hx hb d_QueryReader_shortSelector_150 rfl (lv_at hl 1 rfl) ?_
                refine va_get (D := (dC, dI)) (ci := 7) (v := .ref qn) (C := R_Selector) (T := F_Selector) (N := 9) hx hb hts in_Selector hown hK hP 4 rfl rfl 1 (by decide) (hts _ z_613) (fun _ h9 => h9) rfl d_QueryReader_shortSelector_151 ?_
                refine lv_iload hx hb d_QueryReader_shortSelector_154 (lv_at hl 3 rfl) ?_
                refine lv_aload_n hx hb d_QueryReader_shortSelector_156 rfl (lv_at hl 0 rfl) ?_
                refine va_get (D := (dC, dI)) (ci := 5) (v := .ref h0) (C := R_QueryReader) (T := F_QueryReader) (N := 2) hx hb hts in_QueryReader hown hK hP 0 rfl rfl 0 (by decide) (hts _ w_100) (fun _ h9 => h9) rfl d_QueryReader_shortSelector_157 ?_
                refine va_get (D := (dC, dI)) (ci := 8) (v := .ref qb) (C := R_Tape) (T := F_Tape) (N := 7) hx hb hts in_Tape hown hK hP 1 rfl rfl 0 (by decide) (hts _ z_44) (fun _ h9 => h9) rfl d_QueryReader_shortSelector_160 ?_
                refine lv_iload_n hx hb d_QueryReader_shortSelector_163 rfl (lv_at hl 2 rfl) ?_
                refine lv_iload hx hb d_QueryReader_shortSelector_164 (lv_at hl 3 rfl) ?_
                refine lv_iadd hx hb d_QueryReader_shortSelector_166 ?_
                refine W.eq (g2 := F0 m 167 ls [.int (nI (i + j)), .ref qb, .int (nI j), .ref qn]) (by rw [show ((nI i) + (nI j)) = (nI (i + j)) from (nI_add _ _)]) ?_
                refine va_bald hx hb hK hP 2 0 rfl rfl (vp_in_nI (show i + j < 4096 by omega) (by decide)) d_QueryReader_shortSelector_167 ?_
                rw [show (nI (i + j)).toNatClampNeg = i + j from nI_clamp (by omega)]
                refine va_iast hx hb hK hP hD hS 5 1 rfl rfl (vp_in_nI hjl (by omega)) d_QueryReader_shortSelector_168 (fun H locs hP hD hS => ?_)
                rw [show (nI j).toNatClampNeg = j from nI_clamp (by omega)] at hP hD
                have hP : va_P (dC, dI) classes ([(qr, .inr (5, [.ref h0, .int (nI o)])), (h0, .inr (8, [.ref qb, .ref qu, .int uc, .int ln, .int (nI n), .int (nI p), .int pl])), (qb, .inl (cB, 4096, .inl bf)), (qu, .inl (cI, 4096, .inl ug)), (q, .inr (7, [.int 0, .ref qn, .int 0, .int 0, .long 0, .long 0, .long 1, .null, .null])), (qn, .inl (cI, (p - i), .inl (upd g j (bf (i + j)))))] ++ va_pl L f) H := hP
                have hD : va_D A ([(qr, .inr (5, [.ref h0, .int (nI o)])), (h0, .inr (8, [.ref qb, .ref qu, .int uc, .int ln, .int (nI n), .int (nI p), .int pl])), (qb, .inl (cB, 4096, .inl bf)), (qu, .inl (cI, 4096, .inl ug)), (q, .inr (7, [.int 0, .ref qn, .int 0, .int 0, .long 0, .long 0, .long 1, .null, .null])), (qn, .inl (cI, (p - i), .inl (upd g j (bf (i + j)))))] ++ va_pl L f) := hD
                refine lv_iinc (v := nI (j + 1)) (lv' := [(4, .int (nI (j + 1))), (0, .ref qr), (2, .ref q), (3, .int (nI i))]) hx hb d_QueryReader_shortSelector_169 hl (k := 3) rfl (nI_1 _) (by decide) rfl (fun ls hl => ?_)
                refine lv_goto (tgt := 140) hx hb d_QueryReader_shortSelector_172 (by decide) ?_
                exact ih (j + 1, _) _ _ _ (show j + 1 ≤ (p - i) by omega) (by show (p - i) - (j + 1) < (p - i) - j; omega) hP hD hS (lv_sub hl [1, 2, 3, 0] rfl)
            · have hnm2 : nmC bf n (n - i) i = nmC bf n (n - (p + 1)) (p + 1) := hnm.trans (nmC_s hpn (by rw [← h_h32]; exact h_r33.2.1 c103))
              refine lv_aload_n hx hb d_QueryReader_shortSelector_106 rfl (lv_at hl 0 rfl) ?_
              refine va_get (D := (dC, dI)) (ci := 5) (v := .ref h0) (C := R_QueryReader) (T := F_QueryReader) (N := 2) hx hb hts in_QueryReader hown hK hP 0 rfl rfl 0 (by decide) (hts _ w_100) (fun _ h9 => h9) rfl d_QueryReader_shortSelector_107 ?_
              refine lv_dup hx hb d_QueryReader_shortSelector_110 rfl ?_
              refine va_get (D := (dC, dI)) (ci := 8) (v := .int (nI p)) (C := R_Tape) (T := F_Tape) (N := 7) hx hb hts in_Tape hown hK hP 1 rfl rfl 5 (by decide) (hts _ z_53) (fun _ h9 => h9) rfl d_QueryReader_shortSelector_111 ?_
              refine lv_iconst (v := 1) hx hb d_QueryReader_shortSelector_114 (by decide) ?_
              refine lv_iadd hx hb d_QueryReader_shortSelector_115 ?_
              refine W.eq (g2 := F0 m 116 ls [.int (nI (p + 1)), .ref h0]) (by rw [show ((nI p) + 1) = (nI (p + 1)) from nI_1 _]) ?_
              refine va_put (D := (dC, dI)) (ci := 8) (v := .int (nI (p + 1))) (ty := .int) (C := R_Tape) (T := F_Tape) (N := 7) hx hb hts in_Tape t_Tape t_Tape_ok n_Tape hown hK hP hD hS 1 rfl rfl 5 (by decide) (hts _ z_53) (fun _ h9 => h9) rfl (by decide +kernel) rfl rfl (Nat.le_of_ble_eq_true rfl) d_QueryReader_shortSelector_116 (fun H locs hP hD hS => ?_)
              have hP : va_P (dC, dI) classes ([(qr, .inr (5, [.ref h0, .int (nI o)])), (h0, .inr (8, [.ref qb, .ref qu, .int uc, .int ln, .int (nI n), .int (nI (p + 1)), .int pl])), (qb, .inl (cB, 4096, .inl bf)), (qu, .inl (cI, 4096, .inl ug)), (q, .inr (7, [.int 0, .null, .int 0, .int 0, .long 0, .long 0, .long 1, .null, .null]))] ++ va_pl L f) H := hP
              have hD : va_D A ([(qr, .inr (5, [.ref h0, .int (nI o)])), (h0, .inr (8, [.ref qb, .ref qu, .int uc, .int ln, .int (nI n), .int (nI (p + 1)), .int pl])), (qb, .inl (cB, 4096, .inl bf)), (qu, .inl (cI, 4096, .inl ug)), (q, .inr (7, [.int 0, .null, .int 0, .int 0, .long 0, .long 0, .long 1, .null, .null]))] ++ va_pl L f) := hD
              have hP : va_P (dC, dI) classes ([(qr, .inr (5, [.ref h0, .int (nI o)])), (h0, .inr (8, [.ref qb, .ref qu, .int uc, .int ln, .int (nI n), .int (nI (p + 1)), .int pl])), (qb, .inl (cB, 4096, .inl bf)), (qu, .inl (cI, 4096, .inl ug)), (q, .inr (7, [.int 0, .null, .int 0, .int 0, .long 0, .long 0, .long 1, .null, .null]))] ++ va_pl L f) H := hP
              have hD : va_D A ([(qr, .inr (5, [.ref h0, .int (nI o)])), (h0, .inr (8, [.ref qb, .ref qu, .int uc, .int ln, .int (nI n), .int (nI (p + 1)), .int pl])), (qb, .inl (cB, 4096, .inl bf)), (qu, .inl (cI, 4096, .inl ug)), (q, .inr (7, [.int 0, .null, .int 0, .int 0, .long 0, .long 0, .long 1, .null, .null]))] ++ va_pl L f) := hD
              refine lv_goto (tgt := 76) hx hb d_QueryReader_shortSelector_119 (by decide) ?_
              exact ih (p + 1) _ _ _ ⟨⟨show i ≤ p + 1 by omega, show p + 1 ≤ n by omega⟩, hnm2⟩ (by show n - (p + 1) < n - p; omega) hP hD hS (lv_sub hl [0, 1, 2] rfl)
        · refine lv_aload_n hx hb d_QueryReader_shortSelector_68 rfl (lv_at hl 2 rfl) ?_
          refine va_get (D := (dC, dI)) (ci := 5) (v := .ref h0) (C := R_QueryReader) (T := F_QueryReader) (N := 2) hx hb hts in_QueryReader hown hK hP 0 rfl rfl 0 (by decide) (hts _ w_100) (fun _ h9 => h9) rfl d_QueryReader_shortSelector_69 ?_
          refine lv_iload_n hx hb d_QueryReader_shortSelector_72 rfl (lv_at hl 0 rfl) ?_
          have hPc := hP.sub (ws' := [(h0, .inr (8, [.ref qb, .ref qu, .int uc, .int ln, .int (nI n), .int (nI i), .int pl])), (qb, .inl (cB, 4096, .inl bf))]) [1, 2] rfl
          have hDc := hD.sub (ws' := [(h0, .inr (8, [.ref qb, .ref qu, .int uc, .int ln, .int (nI n), .int (nI i), .int pl])), (qb, .inl (cB, 4096, .inl bf))]) [1, 2] (by decide) rfl
          have hFc := va_free (wc := [(h0, .inr (8, [.ref qb, .ref qu, .int uc, .int ln, .int (nI n), .int (nI i), .int pl])), (qb, .inl (cB, 4096, .inl bf))]) hD hS hA [1, 2] rfl
          have hKc := hK.sub (tys' := [(cB, .byte)]) [0] rfl
          refine w_same (fun hq0 => ?_)
          refine vx_callv (vx_runV (As := [.int (nI i)]) (rest := []) ⟨hx, hb, hml, hown, hts⟩ (c_Tape_fail l hl9 dC dI cB h0 qb H (.ref qu) uc ln (nI n) (nI i) pl bf ((nI i))) (cwV 1 hts (gt_V (own := R_QueryReader) (C := R_Tape) (i := 28) (y := y_Tape_fail) i_Tape_fail z_535 w_371 w_372 w_2) rfl rfl rfl (by decide +kernel) ⟨Nat.le_of_ble_eq_true rfl, Nat.le_of_ble_eq_true rfl⟩) ⟨mx_blind, va_recv hK hP (ci := 8) (q0 := 1) rfl rfl, fun U hU hW => ⟨rfl, ⟨hU, by rw [hU]; exact hPc, va_K.moved hW.alike hKc, hDc.weaken (fun _ _ _ _ => trivial)⟩, hN.warm hW, by rw [hU]; exact ZX.moved' hW.alike (ZX.narrow' (ZX.kept' hZ hS.2.1) hFc)⟩⟩ rfl rfl hl.1 rfl (lv_room (Nat.le_of_ble_eq_true rfl)) d_QueryReader_shortSelector_73 ⟨by show (0 + 1) + (1) ≤ 3; omega, by show (0 + 9) + (6) ≤ 15 + (n - i); omega⟩) hS (fun q _ h => hFc q h) hFc (fun q _ h => hFc q h) (fun En ce q9 _u t9 H1 locs ht hvm hw hB hz1 hk1 hS hce hcv hcl => ?_) (fun _u t9 H1 locs ht hvm hw hB hz1 hk1 hS => ?_)
          · obtain ⟨hEn, hP1, hK1, hD1⟩ := hB
            rw [ht] at hP1
            obtain ⟨hP, hD⟩ := va_joinQ (wr := [(qr, .inr (5, [.ref h0, .int (nI o)])), (qu, .inl (cI, 4096, .inl ug)), (q, .inr (7, [.int 0, .null, .int 0, .int 0, .long 0, .long 0, .long 1, .null, .null]))]) (w1 := [(h0, .inr (8, [.ref qb, .ref qu, .int uc, .int ln, .int (nI n), .int (nI i), .int (nI i)])), (qb, .inl (cB, 4096, .inl bf))]) hP hD [1, 2] [0, 3, 4] rfl rfl (by decide) (by decide) hk1 hFc hP1 hD1
            generalize H1 = H at hP hS hce ⊢
            have hP : va_P (dC, dI) classes ([(qr, .inr (5, [.ref h0, .int (nI o)])), (qu, .inl (cI, 4096, .inl ug)), (q, .inr (7, [.int 0, .null, .int 0, .int 0, .long 0, .long 0, .long 1, .null, .null])), (h0, .inr (8, [.ref qb, .ref qu, .int uc, .int ln, .int (nI n), .int (nI i), .int (nI i)])), (qb, .inl (cB, 4096, .inl bf))] ++ va_pl L f) H := hP
            have hD : va_D A ([(qr, .inr (5, [.ref h0, .int (nI o)])), (qu, .inl (cI, 4096, .inl ug)), (q, .inr (7, [.int 0, .null, .int 0, .int 0, .long 0, .long 0, .long 1, .null, .null])), (h0, .inr (8, [.ref qb, .ref qu, .int uc, .int ln, .int (nI n), .int (nI i), .int (nI i)])), (qb, .inl (cB, 4096, .inl bf))] ++ va_pl L f) := hD
            have hP := hP.part (cx := [(qr, .inr (5, [.ref h0, .int (nI o)])), (h0, .inr (8, [.ref qb, .ref qu, .int uc, .int ln, .int (nI n), .int (nI i), .int (nI i)])), (qb, .inl (cB, 4096, .inl bf)), (qu, .inl (cI, 4096, .inl ug)), (q, .inr (7, [.int 0, .null, .int 0, .int 0, .long 0, .long 0, .long 1, .null, .null]))]) [0, 3, 4, 1, 2] rfl
            have hD := hD.part (cx := [(qr, .inr (5, [.ref h0, .int (nI o)])), (h0, .inr (8, [.ref qb, .ref qu, .int uc, .int ln, .int (nI n), .int (nI i), .int (nI i)])), (qb, .inl (cB, 4096, .inl bf)), (qu, .inl (cI, 4096, .inl ug)), (q, .inr (7, [.int 0, .null, .int 0, .int 0, .long 0, .long 0, .long 1, .null, .null]))]) [0, 3, 4, 1, 2] (by decide) rfl
            have hP := hP.part (cx := [(qr, .inr (5, [.ref h0, .int (nI o)])), (h0, .inr (8, [.ref qb, .ref qu, .int uc, .int ln, .int (nI n), .int (nI i), .int (nI i)])), (qb, .inl (cB, 4096, .inl bf)), (qu, .inl (cI, 4096, .inl ug))]) [0, 1, 2, 3] rfl
            have hD := hD.part (cx := [(qr, .inr (5, [.ref h0, .int (nI o)])), (h0, .inr (8, [.ref qb, .ref qu, .int uc, .int ln, .int (nI n), .int (nI i), .int (nI i)])), (qb, .inl (cB, 4096, .inl bf)), (qu, .inl (cI, 4096, .inl ug))]) [0, 1, 2, 3] (by decide) rfl
            have hno : shC bf n (nwB nw) i = none := sh_0 hns (dig_nl (by rw [← h_h30]; exact h_r31.2.1 c65))
            exact vx_out (fun x hx => (hex x hx).elim) hlocks hce hcv hcl (fun t9 ht2 ha => ⟨(nI i, uc, (nI i), ug, nI o), hno, ⟨hEn, by rw [ht2]; exact hP, va_K.moved ha hK, hD⟩, hS.F ht2⟩) hS.2.2 (by show (0 + 1) + (1) ≤ 3; omega) (by show (0 + 9) + (6) ≤ 15 + (n - i); omega)
          · obtain ⟨⟨hP1, hK1, hD1⟩, hz9⟩ := hB
            rw [ht] at hP1
            rw [ht] at hz9
            refine w_tight (hq0.trans hz9) ?_
            have hq0 := hq0.trans hz9
            obtain ⟨hP, hD⟩ := va_joinQ (wr := [(qr, .inr (5, [.ref h0, .int (nI o)])), (qu, .inl (cI, 4096, .inl ug)), (q, .inr (7, [.int 0, .null, .int 0, .int 0, .long 0, .long 0, .long 1, .null, .null]))]) (w1 := [(h0, .inr (8, [.ref qb, .ref qu, .int uc, .int ln, .int (nI n), .int (nI i), .int pl])), (qb, .inl (cB, 4096, .inl bf))]) hP hD [1, 2] [0, 3, 4] rfl rfl (by decide) (by decide) hk1 hFc hP1 hD1
            generalize H1 = H at hP hS hq0 ⊢
            have hP : va_P (dC, dI) classes ([(qr, .inr (5, [.ref h0, .int (nI o)])), (qu, .inl (cI, 4096, .inl ug)), (q, .inr (7, [.int 0, .null, .int 0, .int 0, .long 0, .long 0, .long 1, .null, .null])), (h0, .inr (8, [.ref qb, .ref qu, .int uc, .int ln, .int (nI n), .int (nI i), .int pl])), (qb, .inl (cB, 4096, .inl bf))] ++ va_pl L f) H := hP
            have hD : va_D A ([(qr, .inr (5, [.ref h0, .int (nI o)])), (qu, .inl (cI, 4096, .inl ug)), (q, .inr (7, [.int 0, .null, .int 0, .int 0, .long 0, .long 0, .long 1, .null, .null])), (h0, .inr (8, [.ref qb, .ref qu, .int uc, .int ln, .int (nI n), .int (nI i), .int pl])), (qb, .inl (cB, 4096, .inl bf))] ++ va_pl L f) := hD
            have hP := hP.part (cx := [(qr, .inr (5, [.ref h0, .int (nI o)])), (h0, .inr (8, [.ref qb, .ref qu, .int uc, .int ln, .int (nI n), .int (nI i), .int pl])), (qb, .inl (cB, 4096, .inl bf)), (qu, .inl (cI, 4096, .inl ug)), (q, .inr (7, [.int 0, .null, .int 0, .int 0, .long 0, .long 0, .long 1, .null, .null]))]) [0, 3, 4, 1, 2] rfl
            have hD := hD.part (cx := [(qr, .inr (5, [.ref h0, .int (nI o)])), (h0, .inr (8, [.ref qb, .ref qu, .int uc, .int ln, .int (nI n), .int (nI i), .int pl])), (qb, .inl (cB, 4096, .inl bf)), (qu, .inl (cI, 4096, .inl ug)), (q, .inr (7, [.int 0, .null, .int 0, .int 0, .long 0, .long 0, .long 1, .null, .null]))]) [0, 3, 4, 1, 2] (by decide) rfl
            exact hw.elim
