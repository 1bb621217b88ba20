theorem z_25 : (.initialized "QueryBench$Selector" : Cond) ∈ gtbl := gt_in 25 (by decide +kernel) (by decide +kernel)
theorem z_44 : (.fieldLink "QueryBench$QueryReader" 91 "QueryBench$Tape" "bytes" "[B" : Cond) ∈ gtbl := gt_in 44 (by decide +kernel) (by decide +kernel)
theorem z_50 : (.fieldLink "QueryBench$QueryReader" 36 "QueryBench$Tape" "end" "I" : Cond) ∈ gtbl := gt_in 50 (by decide +kernel) (by decide +kernel)
theorem z_603 : (.classLink "QueryBench$QueryReader" 77 "QueryBench$Selector" : Cond) ∈ gtbl := gt_in 603 (by decide +kernel) (by decide +kernel)
theorem z_604 : (.instantiable "QueryBench$Selector" 9 : Cond) ∈ gtbl := gt_in 604 (by decide +kernel) (by decide +kernel)
theorem z_605 : (.methodLink "QueryBench$QueryReader" 79 ⟨"QueryBench$Selector", "<init>", "(I)V"⟩ : Cond) ∈ gtbl := gt_in 605 (by decide +kernel) (by decide +kernel)
theorem z_606 : (.instanceMethod ⟨"QueryBench$Selector", "<init>", "(I)V"⟩ : Cond) ∈ gtbl := gt_in 606 (by decide +kernel) (by decide +kernel)
theorem z_613 : (.fieldLink "QueryBench$QueryReader" 87 "QueryBench$Selector" "name" "[I" : Cond) ∈ gtbl := gt_in 613 (by decide +kernel) (by decide +kernel)
theorem z_793 : (.methodLink "QueryBench$QueryReader" 81 ⟨"QueryBench$QueryReader", "isNameByte", "(I)Z"⟩ : Cond) ∈ gtbl := gt_in 793 (by decide +kernel) (by decide +kernel)
theorem z_794 : (.static ⟨"QueryBench$QueryReader", "isNameByte", "(I)Z"⟩ : Cond) ∈ gtbl := gt_in 794 (by decide +kernel) (by decide +kernel)
/-- new objects for every choice of levels: from bd on the newest may have the level that is asked for -/
def QX (cI cV : ClassId) (E : Nat → Nat) (L : List Nat) (f : Nat → va_E) (i n p z : Nat) (N : List Nat) (E' : Nat → Nat) (f' : Nat → va_E) (bd : Nat) (R : Nat → (Nat → Nat) → Prop) : Prop := ∀ lv : Nat → Nat, PO cI cV E lv L f → ∀ b : Nat, bd ≤ b → ∃ lv' : Nat → Nat, QG cI cV E lv L f i n p z N E' lv' f' ∧ R b lv'
/-- r is new, of sort s -/
def QPn (cI cV : ClassId) (E : Nat → Nat) (L : List Nat) (f : Nat → va_E) (i n z s bd dm r p : Nat) (N : List Nat) (E' : Nat → Nat) (f' : Nat → va_E) : Prop := E r = 0 ∧ E' r = s ∧ i + dm ≤ p ∧ p ≤ n ∧ QX cI cV E L f i n p z N E' f' bd (fun b lv' => lv' r = b)
/-- a chain from x to y, all of sort s and of one level -/
def CI (cI cV : ClassId) (E : Nat → Nat) (L : List Nat) (f : Nat → va_E) (i n z s bd x y p : Nat) (N : List Nat) (E' : Nat → Nat) (f' : Nat → va_E) : Prop := E x = 0 ∧ E y = 0 ∧ E' x = s ∧ E' y = s ∧ p ≤ n ∧ QX cI cV E L f i n p z N E' f' bd (fun b lv' => lv' x = b ∧ lv' y = b)
/-- a query's segments -/
def QQ (cI cV : ClassId) (E : Nat → Nat) (L : List Nat) (f : Nat → va_E) (i n z bd : Nat) (x y : Option Nat) (p : Nat) (N : List Nat) (E' : Nat → Nat) (f' : Nat → va_E) : Prop := oR (fun a => E a = 0 ∧ E' a = 8) x ∧ oR (fun a => E a = 0 ∧ E' a = 8) y ∧ p ≤ n ∧ QX cI cV E L f i n p z N E' f' bd (fun b lv' => oR (fun a => lv' a = b) x ∧ oR (fun a => lv' a = b) y)
section QPs
variable {cI cV : ClassId} {E lv E1 lv1 E2 E3 lv2 : Nat → Nat} {L N N2 N3 : List Nat} {f f1 f2 f3 : Nat → va_E} {i n p p1 p2 z9 z2 s bd bd2 dm r x9 y9 v : Nat} {R : Nat → (Nat → Nat) → Prop}
theorem QG.lve (h : QG cI cV E lv L f i n p z9 N E1 lv1 f1) : ∀ a, E a ≠ 0 → lv1 a = lv a := h.2.2.2.2.1
theorem QG.ge (h : QG cI cV E lv L f i n p z9 N E1 lv1 f1) (ha : E r = 0) (hb : E1 r ≠ 0) : z9 ≤ r := h.2.2.2.2.2.2.2 r ha hb
theorem QX.g (h : QX cI cV E L f i n p z9 N E1 f1 bd R) (hO : PO cI cV E lv L f) : ∃ lv', QG cI cV E lv L f i n p z9 N E1 lv' f1 := by
  obtain ⟨lv', g, -⟩ := h lv hO bd (Nat.le_refl _)
  exact ⟨lv', g⟩
theorem QPn.x (h : QPn cI cV E L f i n z9 s bd dm r p N E1 f1) : QX cI cV E L f i n p z9 N E1 f1 bd (fun b lv' => lv' r = b) := h.2.2.2.2
theorem QPn.num (h : QPn cI cV E L f i n z9 s bd dm r p N E1 f1) : i + dm ≤ p ∧ p ≤ n := ⟨h.2.2.1, h.2.2.2.1⟩
theorem QPn.new (h : QPn cI cV E L f i n z9 s bd dm r p N E1 f1) : E r = 0 := h.1
theorem QPn.so (h : QPn cI cV E L f i n z9 s bd dm r p N E1 f1) : E1 r = s := h.2.1
theorem CI.x (h : CI cI cV E L f i n z9 s bd x9 y9 p N E1 f1) : QX cI cV E L f i n p z9 N E1 f1 bd (fun b lv' => lv' x9 = b ∧ lv' y9 = b) := h.2.2.2.2.2
theorem CI.le (h : CI cI cV E L f i n z9 s bd x9 y9 p N E1 f1) : p ≤ n := h.2.2.2.2.1
end QPs
theorem pl_on {L : List Nat} {f g : Nat → va_E} (h : ∀ a, a ∈ L → g a = f a) : va_pl L g = va_pl L f := by
  unfold va_pl
  apply List.map_congr_left
  intro b hb
  rw [h b hb]
theorem plP_cut {D : va_G} {cl : List vw_C} {X : va_W} {L N : List Nat} {f g : Nat → va_E} {H : Heap} (hP : va_P D cl (X ++ va_pl (L ++ N) g) H) (h : ∀ a, a ∈ L → g a = f a) : va_P D cl (X ++ va_pl L f) H := by
  have h1 := plP_pre hP
  rw [pl_on h] at h1
  exact h1
theorem plD_cut {A : Nat → Prop} {X : va_W} {L N : List Nat} {f g : Nat → va_E} (hD : va_D A (X ++ va_pl (L ++ N) g)) (h : ∀ a, a ∈ L → g a = f a) : va_D A (X ++ va_pl L f) := by
  have h1 := plD_pre hD
  rw [pl_on h] at h1
  exact h1
/-- a new cell lies behind all that was there at the start, the pool may have grown -/
theorem newB {A : Nat → Prop} {X0 X : va_W} {L N : List Nat} {f g : Nat → va_E} {z q : Nat} {e : va_E} (hA : va_A (X0 ++ va_pl L f) z = A) (hD : va_D A ((X ++ va_pl (L ++ N) g) ++ [(q, e)])) (hs : ∀ (k : Nat) (x : Nat × va_E), X0[k]? = some x → ∃ (j : Nat) (y : va_E), X[j]? = some (x.1, y)) : z ≤ q := by
  refine newA hA hD (fun k x hk => ?_)
  by_cases hl : k < X0.length
  · rw [List.getElem?_append_left hl] at hk
    obtain ⟨j, y, hj⟩ := hs k x hk
    exact ⟨j, y, by rw [List.getElem?_append_left (List.getElem?_eq_some_iff.mp hj).1]; exact hj⟩
  · rw [List.getElem?_append_right (by omega)] at hk
    have hm : x.1 ∈ L := by
      have h1 := List.mem_of_getElem? hk
      unfold va_pl at h1
      obtain ⟨a, ha, e⟩ := List.mem_map.mp h1
      rw [← e]; exact ha
    obtain ⟨j, hj⟩ := va_pl_get (X := X) (L := L ++ N) (f := g) (List.mem_append_left _ hm)
    exact ⟨j, _, hj⟩
theorem lE_inj {kd kd' : Int32} {nm nm' : Option Nat} {hs hs' ht ht' : Int32} {st st' sp sp' se se' : Int64} {fl fl' nx nx' : Option Nat} (h : lE kd nm hs ht st sp se fl nx = lE kd' nm' hs' ht' st' sp' se' fl' nx') : kd = kd' ∧ nm = nm' ∧ se = se' ∧ fl = fl' ∧ nx = nx' := by
  have h1 := congrArg Prod.snd (Sum.inr.inj h)
  simp only [List.cons.injEq, Value.int.injEq, Value.long.injEq, and_true] at h1
  obtain ⟨a1, a2, a3, a4, a5, a6, a7, a8, a9⟩ := h1
  exact ⟨a1, rf_inj a2, a7, rf_inj a8, rf_inj a9⟩
theorem kE_inj {kd kd' : Int32} {fi fi' nx nx' qu qu' le le' ri ri' : Option Nat} (h : kE kd fi nx qu le ri = kE kd' fi' nx' qu' le' ri') : kd = kd' ∧ fi = fi' ∧ nx = nx' ∧ qu = qu' ∧ le = le' ∧ ri = ri' := by
  have h1 := congrArg Prod.snd (Sum.inr.inj h)
  simp only [List.cons.injEq, Value.int.injEq, and_true] at h1
  obtain ⟨a1, a2, a3, a4, a5, a6⟩ := h1
  exact ⟨a1, rf_inj a2, rf_inj a3, rf_inj a4, rf_inj a5, rf_inj a6⟩
theorem gE_inj {ds ds' : Int32} {fi fi' nx nx' : Option Nat} (h : gE ds fi nx = gE ds' fi' nx') : ds = ds' ∧ fi = fi' ∧ nx = nx' := by
  have h1 := congrArg Prod.snd (Sum.inr.inj h)
  simp only [List.cons.injEq, Value.int.injEq, and_true] at h1
  obtain ⟨a1, a2, a3⟩ := h1
  exact ⟨a1, rf_inj a2, rf_inj a3⟩
section Cells3
variable {cI cV : ClassId} {E lv : Nat → Nat} {L : List Nat} {f : Nat → va_E} {a : Nat}
theorem PO.selE (h : PO cI cV E lv L f) (ha : E a = 9) {kd : Int32} {nm : Option Nat} {hs ht : Int32} {st sp se : Int64} {fl nx : Option Nat} (ef : f a = lE kd nm hs ht st sp se fl nx) : LO E lv a kd nm se fl nx := by
  obtain ⟨kd', nm', hs', ht', st', sp', se', fl', nx', e1, e2⟩ := h.sel ha
  obtain ⟨x1, x2, x3, x4, x5⟩ := lE_inj (ef.symm.trans e1)
  subst x1; subst x2; subst x3; subst x4; subst x5
  exact e2
theorem PO.conE (h : PO cI cV E lv L f) (ha : E a = 10) {kd : Int32} {fi nx qu le ri : Option Nat} (ef : f a = kE kd fi nx qu le ri) : KO E lv a kd fi nx qu le ri := by
  obtain ⟨kd', fi', nx', qu', le', ri', e1, e2⟩ := h.con ha
  obtain ⟨x1, x2, x3, x4, x5, x6⟩ := kE_inj (ef.symm.trans e1)
  subst x1; subst x2; subst x3; subst x4; subst x5; subst x6
  exact e2
theorem PO.segE (h : PO cI cV E lv L f) (ha : E a = 8) {ds : Int32} {fi nx : Option Nat} (ef : f a = gE ds fi nx) : GO E lv a fi nx := by
  obtain ⟨ds', fi', nx', e1, e2⟩ := h.seg ha
  obtain ⟨x1, x2, x3⟩ := gE_inj (ef.symm.trans e1)
  subst x2; subst x3
  exact e2
end Cells3
section Chains
variable {cI cV : ClassId} {E E1 E3 : Nat → Nat} {L N N3 : List Nat} {f f1 f3 : Nat → va_E} {i n p p1 p3 z9 z2 s bd bd2 dm r x9 y9 v : Nat}
theorem CI.start (h : QPn cI cV E L f i n z9 s bd dm r p N E1 f1) : CI cI cV E L f i n z9 s bd r r p N E1 f1 := ⟨h.1, h.1, h.2.1, h.2.1, h.2.2.2.1, fun lv hO b hb => by
  obtain ⟨lv', g, e⟩ := h.x lv hO b hb
  exact ⟨lv', g, e, e⟩⟩
theorem CI.mv (h : CI cI cV E L f i n z9 s bd x9 y9 p N E1 f1) (h1 : p ≤ p1) (h2 : p1 ≤ n) : CI cI cV E L f i n z9 s bd x9 y9 p1 N E1 f1 := ⟨h.1, h.2.1, h.2.2.1, h.2.2.2.1, h2, fun lv hO b h3 => by
  obtain ⟨lv', g, e⟩ := h.x lv hO b h3
  exact ⟨lv', g.mv h1 h2, e⟩⟩
theorem QPn.mv (h : QPn cI cV E L f i n z9 s bd dm r p N E1 f1) (h1 : p ≤ p1) (h2 : p1 ≤ n) : QPn cI cV E L f i n z9 s bd dm r p1 N E1 f1 := ⟨h.1, h.2.1, Nat.le_trans h.2.2.1 h1, h2, fun lv hO b h3 => by
  obtain ⟨lv', g, e⟩ := h.x lv hO b h3
  exact ⟨lv', g.mv h1 h2, e⟩⟩
/-- a method that answers what another has answered, from a later place on -/
theorem QPn.up {i1 dm2 : Nat} (h : QPn cI cV E (L ++ []) f i1 n z2 s bd dm r p N E1 f1) (hi : i ≤ i1) (hin : i1 ≤ n) (hz : z9 ≤ z2) (hb : bd ≤ bd2) (hd : i + dm2 ≤ i1 + dm) : QPn cI cV E L f i n z9 s bd2 dm2 r p ([] ++ N) E1 f1 := ⟨h.1, h.2.1, Nat.le_trans hd h.2.2.1, h.2.2.2.1, fun lv hO b h3 => by
  have g0 : QG cI cV E lv L f i n i1 z9 [] E lv f := (QG.rf hO (Nat.le_trans hi hin)).mv hi hin
  obtain ⟨lv', g, e⟩ := h.x lv g0.po b (Nat.le_trans hb h3)
  exact ⟨lv', g0.tr g hz, e⟩⟩
theorem CI.qp (h : CI cI cV E L f i n z9 s bd x9 y9 p N E1 f1) (hd : i + dm ≤ p) : QPn cI cV E L f i n z9 s bd dm x9 p N E1 f1 := ⟨h.1, h.2.2.1, hd, h.2.2.2.2.1, fun lv hO b h3 => by
  obtain ⟨lv', g, e⟩ := h.x lv hO b h3
  exact ⟨lv', g, e.1⟩⟩
/-- the chain goes on -/
theorem CI.next9 (h : CI cI cV E L f i n z9 9 bd x9 y9 p N E1 f1) (hE1 : EX E E1) (hq : QPn cI cV E1 (L ++ N) f1 p1 n z2 9 bd2 dm v p3 N3 E3 f3) (h1 : p ≤ p1) (h2 : p1 ≤ n) (hz : z9 ≤ z2) (hy : y9 < z2) (hb : bd2 ≤ bd) {kd : Int32} {nm : Option Nat} {hs ht : Int32} {st sp se : Int64} {fl nx : Option Nat} (hyL : y9 ∉ L) (ef : f3 y9 = lE kd nm hs ht st sp se fl nx) (hE3 : EX E1 E3) : CI cI cV E L f i n z9 9 bd x9 v p3 (N ++ N3) E3 (va_up f3 y9 (lE kd nm hs ht st sp se fl (some v))) := by
  have hx1 : E1 x9 = 9 := h.2.2.1
  have hy1 : E1 y9 = 9 := h.2.2.2.1
  refine ⟨h.1, hE1.z hq.1, (hE3 x9 (by rw [hx1]; decide)).trans hx1, hq.2.1, hq.2.2.2.1, fun lv hO b hb9 => ?_⟩
  obtain ⟨lv1, g1, a1, a2⟩ := h.x lv hO b hb9
  have g1 := g1.mv h1 h2
  obtain ⟨lv2, g2, c⟩ := hq.x lv1 g1.po b (Nat.le_trans hb hb9)
  have g := g1.tr g2 hz
  have hy3 : E3 y9 = 9 := (hE3 y9 (by rw [hy1]; decide)).trans hy1
  have e1 : lv2 x9 = b := (g2.lve x9 (by rw [hx1]; decide)).trans a1
  have e2 : lv2 y9 = b := (g2.lve y9 (by rw [hy1]; decide)).trans a2
  have hl := g.po.selE hy3 ef
  have hv : z2 ≤ v := g2.ge hq.1 (by rw [hq.2.1]; decide)
  have hn : oR (fun b9 => E3 b9 = 9 ∧ lv2 b9 ≤ lv2 y9 ∧ y9 < b9) (some v) := fun b9 h9 => by
    cases h9
    exact ⟨hq.2.1, by rw [show lv2 v = b from c, e2]; exact Nat.le_refl _, by omega⟩
  exact ⟨lv2, g.upd hyL (CO.L hy3 ⟨_, _, _, _, _, _, _, _, _, rfl, hl.1, hl.2.1, hn, hl.2.2.2⟩), e1, c⟩
theorem CI.next10 (h : CI cI cV E L f i n z9 10 bd x9 y9 p N E1 f1) (hE1 : EX E E1) (hq : QPn cI cV E1 (L ++ N) f1 p1 n z2 10 bd2 dm v p3 N3 E3 f3) (h1 : p ≤ p1) (h2 : p1 ≤ n) (hz : z9 ≤ z2) (hy : y9 < z2) (hb : bd2 ≤ bd) {kd : Int32} {fi nx qu le ri : Option Nat} (hyL : y9 ∉ L) (ef : f3 y9 = kE kd fi nx qu le ri) (hE3 : EX E1 E3) : CI cI cV E L f i n z9 10 bd x9 v p3 (N ++ N3) E3 (va_up f3 y9 (kE kd fi (some v) qu le ri)) := by
  have hx1 : E1 x9 = 10 := h.2.2.1
  have hy1 : E1 y9 = 10 := h.2.2.2.1
  refine ⟨h.1, hE1.z hq.1, (hE3 x9 (by rw [hx1]; decide)).trans hx1, hq.2.1, hq.2.2.2.1, fun lv hO b hb9 => ?_⟩
  obtain ⟨lv1, g1, a1, a2⟩ := h.x lv hO b hb9
  have g1 := g1.mv h1 h2
  obtain ⟨lv2, g2, c⟩ := hq.x lv1 g1.po b (Nat.le_trans hb hb9)
  have g := g1.tr g2 hz
  have hy3 : E3 y9 = 10 := (hE3 y9 (by rw [hy1]; decide)).trans hy1
  have e1 : lv2 x9 = b := (g2.lve x9 (by rw [hx1]; decide)).trans a1
  have e2 : lv2 y9 = b := (g2.lve y9 (by rw [hy1]; decide)).trans a2
  have hl := g.po.conE hy3 ef
  have hv : z2 ≤ v := g2.ge hq.1 (by rw [hq.2.1]; decide)
  have hn : oR (fun b9 => E3 b9 = 10 ∧ lv2 b9 ≤ lv2 y9 ∧ y9 < b9) (some v) := fun b9 h9 => by
    cases h9
    exact ⟨hq.2.1, by rw [show lv2 v = b from c, e2]; exact Nat.le_refl _, by omega⟩
  exact ⟨lv2, g.upd hyL (CO.K hy3 ⟨_, _, _, _, _, _, rfl, hl.1, hn, hl.2.2⟩), e1, c⟩
theorem QQ.x {x9 y9 : Option Nat} (h : QQ cI cV E L f i n z9 bd x9 y9 p N E1 f1) : QX cI cV E L f i n p z9 N E1 f1 bd (fun b lv' => oR (fun a => lv' a = b) x9 ∧ oR (fun a => lv' a = b) y9) := h.2.2.2
theorem QQ.start (hin : p ≤ n) (hip : i ≤ p) : QQ cI cV E L f i n z9 bd none none p [] E f := ⟨fun b h => (nomatch h), fun b h => (nomatch h), hin, fun lv hO b _ => ⟨lv, (QG.rf hO (Nat.le_trans hip hin)).mv hip hin, fun b h => (nomatch h), fun b h => (nomatch h)⟩⟩
theorem QQ.mv {x9 y9 : Option Nat} (h : QQ cI cV E L f i n z9 bd x9 y9 p N E1 f1) (h1 : p ≤ p1) (h2 : p1 ≤ n) : QQ cI cV E L f i n z9 bd x9 y9 p1 N E1 f1 := ⟨h.1, h.2.1, h2, fun lv hO b h3 => by
  obtain ⟨lv', g, e⟩ := h.x lv hO b h3
  exact ⟨lv', g.mv h1 h2, e⟩⟩
/-- a segment more -/
theorem QQ.next {x9 y9 x2 : Option Nat} {f4 : Nat → va_E} (h : QQ cI cV E L f i n z9 bd x9 y9 p N E1 f1) (hE1 : EX E E1) (hq : QPn cI cV E1 (L ++ N) f1 p1 n z2 8 bd2 dm v p3 N3 E3 f3) (h1 : p ≤ p1) (h2 : p1 ≤ n) (hz : z9 ≤ z2) (hy : ∀ a, y9 = some a → a < z2 ∧ a ∉ L) (hb : bd2 ≤ bd) (hE3 : EX E1 E3) (hf : (y9 = none → x2 = some v ∧ f4 = f3) ∧ (y9 ≠ none → x2 = x9)) (hf4 : ∀ a, y9 = some a → ∃ ds fi nx, f3 a = gE ds fi nx ∧ f4 = va_up f3 a (gE ds fi (some v))) : QQ cI cV E L f i n z9 bd x2 (some v) p3 (N ++ N3) E3 f4 := by
  have hv0 : E v = 0 := hE1.z hq.1
  have hx2 : oR (fun a => E a = 0 ∧ E3 a = 8) x2 := by
    cases hyo : y9 with
    | none =>
      rw [(hf.1 hyo).1]
      intro a ha
      cases ha
      exact ⟨hv0, hq.2.1⟩
    | some a0 =>
      rw [hf.2 (by rw [hyo]; exact fun h => by cases h)]
      exact h.1.mono (fun a ha => ⟨ha.1, (hE3 a (by rw [ha.2]; decide)).trans ha.2⟩)
  refine ⟨hx2, (fun a ha => by cases ha; exact ⟨hv0, hq.2.1⟩), hq.2.2.2.1, fun lv hO b hb9 => ?_⟩
  obtain ⟨lv1, g1, a1, a2⟩ := h.x lv hO b hb9
  have g1 := g1.mv h1 h2
  obtain ⟨lv2, g2, c⟩ := hq.x lv1 g1.po b (Nat.le_trans hb hb9)
  have g := g1.tr g2 hz
  have hc : oR (fun a => lv2 a = b) (some v) := fun a ha => by cases ha; exact c
  cases hyo : y9 with
  | none =>
    obtain ⟨e1, e2⟩ := hf.1 hyo
    subst e1; subst e2
    exact ⟨lv2, g, hc, hc⟩
  | some a0 =>
    obtain ⟨ds, fi, nx, ef, e4⟩ := hf4 a0 hyo
    rw [hf.2 (by rw [hyo]; exact fun h => by cases h), e4]
    have hy1 : E1 a0 = 8 := (h.2.1 a0 hyo).2
    have hy3 : E3 a0 = 8 := (hE3 a0 (by rw [hy1]; decide)).trans hy1
    have hl := g.po.segE hy3 ef
    have hv : z2 ≤ v := g2.ge hq.1 (by rw [hq.2.1]; decide)
    have e2 : lv2 a0 = b := (g2.lve a0 (by rw [hy1]; decide)).trans (a2 a0 hyo)
    refine ⟨lv2, g.upd (hy a0 hyo).2 (CO.G hy3 ⟨_, _, _, rfl, hl.1, fun b9 h9 => ?_⟩), (fun a ha => (g2.lve a (by rw [(h.1 a ha).2]; decide)).trans (a1 a ha)), hc⟩
    cases h9
    exact ⟨hq.2.1, by rw [show lv2 v = b from c, e2]; exact Nat.le_refl _, Nat.lt_of_lt_of_le (hy a0 hyo).1 hv⟩
end Chains

/-- what is marked has come since -/
def NWm (E E1 : Nat → Nat) (S : Nat → Nat) : Prop := ∀ a, ¬ S a = 0 → E a = 0 ∧ ¬ E1 a = 0
/-- what was there is as it was -/
def KPx (E1 E2 : Nat → Nat) (f1 f2 : Nat → va_E) : Prop := ∀ a, ¬ E1 a = 0 → f2 a = f1 a ∧ E2 a = E1 a
/-- v is new, and says m; field k leads nowhere -/
def DNx {M : Type} (R : RT M) (k : Nat) (E E1 : Nat → Nat) (f : Nat → va_E) (v : Nat) (m : M) : Prop := ∃ S : Nat → Nat, R f S v m ∧ NWm E E1 S ∧ S v = 0 ∧ (k = 0 ∨ refE k (f v) = none)
/-- a new chain from v on -/
def DNc {M : Type} (R : RT M) (k : Nat) (E E1 : Nat → Nat) (f : Nat → va_E) (v : Nat) (l : List M) : Prop := ∃ S : Nat → Nat, CHD R k f S (some v) l ∧ NWm E E1 S
/-- a new chain under way, from o to y -/
def KIx {M : Type} (R : RT M) (k : Nat) (E E1 : Nat → Nat) (f : Nat → va_E) (o y : Nat) (l : List M) (m : M) : Prop := ∃ S : Nat → Nat, KI R k f S (some o) y l m ∧ NWm E E1 S
theorem KPx.rf {E : Nat → Nat} {f : Nat → va_E} : KPx E E f f := fun _ _ => ⟨rfl, rfl⟩
theorem KPx.tr {E1 E2 E3 : Nat → Nat} {f1 f2 f3 : Nat → va_E} (h : KPx E1 E2 f1 f2) (g : KPx E2 E3 f2 f3) : KPx E1 E3 f1 f3 := fun a ha => by
  obtain ⟨h1, h2⟩ := h a ha
  obtain ⟨g1, g2⟩ := g a (by rw [h2]; exact ha)
  exact ⟨g1.trans h1, g2.trans h2⟩
theorem KPx.of {cI cV : ClassId} {E1 lv E2 lv2 : Nat → Nat} {L N : List Nat} {f1 f2 : Nat → va_E} {i n p z : Nat} (hg : QG cI cV E1 lv L f1 i n p z N E2 lv2 f2) (hO : PO cI cV E1 lv L f1) : KPx E1 E2 f1 f2 := fun a ha => ⟨hg.on a (hO.inL ha), hg.ex a ha⟩
theorem KPx.up {E1 : Nat → Nat} {f1 : Nat → va_E} {q s : Nat} {e : va_E} (h : E1 q = 0) : KPx E1 (va_up E1 q s) f1 (va_up f1 q e) := fun a ha => by
  have hne : a ≠ q := fun e => ha (by rw [e]; exact h)
  exact ⟨va_up_ne _ _ hne, va_up_ne _ _ hne⟩
theorem KPx.ex {E1 E2 : Nat → Nat} {f1 f2 : Nat → va_E} (h : KPx E1 E2 f1 f2) : EX E1 E2 := fun a ha => (h a ha).2
theorem NWm.up {E E1 E2 : Nat → Nat} {S : Nat → Nat} (h : NWm E E1 S) (hx : EX E1 E2) : NWm E E2 S := fun a ha => ⟨(h a ha).1, by rw [hx a (h a ha).2]; exact (h a ha).2⟩
theorem NWm.low {E E0 E1 : Nat → Nat} {S : Nat → Nat} (h : NWm E0 E1 S) (hx : EX E E0) : NWm E E1 S := fun a ha => ⟨hx.z (h a ha).1, (h a ha).2⟩
theorem NWm.no {E E1 : Nat → Nat} {S : Nat → Nat} (h : NWm E E1 S) {q : Nat} (hq : E1 q = 0) : S q = 0 := Classical.byContradiction (fun z => (h q z).2 hq)
theorem NWm.no2 {E E1 : Nat → Nat} {S : Nat → Nat} (h : NWm E E1 S) {q : Nat} (hq : ¬ E q = 0) : S q = 0 := Classical.byContradiction (fun z => hq (h q z).1)
theorem NWm.nil {E E1 : Nat → Nat} : NWm E E1 (fun _ => 0) := fun _ h => absurd rfl h
theorem NWm.jo {E E1 : Nat → Nat} {S T : Nat → Nat} (h : NWm E E1 S) (g : NWm E E1 T) : NWm E E1 (joM S T) := fun a ha => by
  unfold joM at ha
  split at ha
  · exact g a ha
  · exact h a ha
theorem NWm.on {E E1 : Nat → Nat} {q k : Nat} (h : E q = 0) (h1 : ¬ E1 q = 0) : NWm E E1 (onM q k) := fun a ha => by
  by_cases e : a = q
  · rw [e]; exact ⟨h, h1⟩
  · exact absurd (if_neg e) ha
theorem NWm.dis {E E1 E2 : Nat → Nat} {S T : Nat → Nat} (h : NWm E E1 S) (g : NWm E1 E2 T) : DIS S T := fun a => by
  by_cases e : S a = 0
  · exact Or.inl e
  · exact Or.inr (g.no2 (h a e).2)
theorem NWm.agr {E E1 E2 : Nat → Nat} {S : Nat → Nat} {f1 f2 : Nat → va_E} (h : NWm E E1 S) (kp : KPx E1 E2 f1 f2) : AGR S f1 f2 := AGR.same (fun b hb => (kp b (h b hb).2).1)
section Keep
variable {M : Type} {R : RT M} {k : Nat} {E E0 E1 E2 : Nat → Nat} {f1 f2 : Nat → va_E} {v : Nat} {m : M} {l : List M}
theorem DNx.keep (hR : FrO R) (h : DNx R k E E1 f1 v m) (hv : ¬ E1 v = 0) (kp : KPx E1 E2 f1 f2) : DNx R k E E2 f2 v m := by
  obtain ⟨S, h1, h2, h3, h4⟩ := h
  exact ⟨S, hR _ _ _ _ _ h1 (kp v hv).1 (h2.agr kp), h2.up kp.ex, h3, h4.imp (fun z => z) (fun z => by rw [(kp v hv).1]; exact z)⟩
theorem DNx.low (h : DNx R k E0 E1 f1 v m) (hx : EX E E0) : DNx R k E E1 f1 v m := by
  obtain ⟨S, h1, h2, h3, h4⟩ := h
  exact ⟨S, h1, h2.low hx, h3, h4⟩
theorem DNx.lone (h : DNx R k E E1 f1 v m) (h0 : ¬ k = 0) (hm : MonS R) (hv : E v = 0) (hv1 : ¬ E1 v = 0) : DNc R k E E1 f1 v [m] := by
  obtain ⟨S, h1, h2, h3, h4⟩ := h
  exact ⟨_, (KI.one h1 h3 (h4.resolve_left h0)).all hm, h2.jo (NWm.on hv hv1)⟩
theorem DNc.keep {j : Nat} (hR : FrC j R) (h : DNc R k E E1 f1 v l) (kp : KPx E1 E2 f1 f2) : DNc R k E E2 f2 v l := by
  obtain ⟨S, h1, h2⟩ := h
  exact ⟨S, CHD_fr hR (h2.agr kp) _ _ h1, h2.up kp.ex⟩
theorem DNc.low (h : DNc R k E0 E1 f1 v l) (hx : EX E E0) : DNc R k E E1 f1 v l := by
  obtain ⟨S, h1, h2⟩ := h
  exact ⟨S, h1, h2.low hx⟩
theorem KIx.start (h : DNx R k E E1 f1 v m) (h0 : ¬ k = 0) : KIx R k E E1 f1 v v [] m := by
  obtain ⟨S, h1, h2, h3, h4⟩ := h
  exact ⟨S, KI.one h1 h3 (h4.resolve_left h0), h2⟩
theorem KIx.keep {o y : Nat} (hR : FrC k R) (h : KIx R k E E1 f1 o y l m) (hy : ¬ E1 y = 0) (kp : KPx E1 E2 f1 f2) : KIx R k E E2 f2 o y l m := by
  obtain ⟨S, h1, h2⟩ := h
  exact ⟨S, h1.fr hR (h2.agr kp) (kp y hy).1, h2.up kp.ex⟩
theorem KIx.fin {o y : Nat} (hm : MonS R) (h : KIx R k E E1 f1 o y l m) (hy : E y = 0) (hy1 : ¬ E1 y = 0) : DNc R k E E1 f1 o (l ++ [m]) := by
  obtain ⟨S, h1, h2⟩ := h
  exact ⟨_, h1.all hm, h2.jo (NWm.on hy hy1)⟩
/-- one more: v is put behind y -/
theorem KIx.add {o y : Nat} {E3 : Nat → Nat} {f3 f4 : Nat → va_E} {m1 : M} (hm : MonS R) (hR : FrC k R) (h0 : ¬ k = 0) (h : KIx R k E E1 f1 o y l m) (hy0 : E y = 0) (hy : ¬ E1 y = 0) (hd : DNx R k E1 E3 f3 v m1) (hv : E1 v = 0) (kp : KPx E1 E3 f1 f3) (hx : EX E E1) (hb : ∀ b, b ≠ y → f4 b = f3 b) (he : eqx k (f3 y) (f4 y)) (hl : refE k (f4 y) = some v) : KIx R k E E3 f4 o v (l ++ [m]) m1 := by
  obtain ⟨S, h1, h2⟩ := h
  obtain ⟨S1, g1, g2, g3, g4⟩ := hd
  have h3 := h1.fr hR (h2.agr kp) (kp y hy).1
  have hne : v ≠ y := fun e => hy (by rw [← e]; exact hv)
  exact ⟨_, h3.add hm hR g1 (g4.resolve_left h0) g3 (h2.no hv) hne (g2.no2 hy) (h2.dis g2) hb he hl, ((h2.up kp.ex).jo (NWm.on hy0 (by rw [kp.ex y hy]; exact hy))).jo (g2.low hx)⟩
end Keep
theorem joM_0 {S : Nat → Nat} {a b k : Nat} (h : S a = 0) (hn : a ≠ b) : joM S (onM b k) a = 0 := by
  unfold joM onM
  rw [if_pos h, if_neg hn]
theorem joM_l {S T : Nat → Nat} {a k : Nat} (h : S a = k) (hk : ¬ k = 0) : joM S T a = k := by
  unfold joM
  rw [if_neg (by rw [h]; exact hk)]
  exact h
section Make
variable {E E1 : Nat → Nat} {f1 : Nat → va_E} {q v : Nat}
/-- the chain of a segment -/
theorem DNx.seg {l : List QT} {ds : Int32} (h : DNc LD 8 E E1 f1 v l) (hq : E1 q = 0) : DNx GD 2 E (va_up E1 q 8) (va_up f1 q (gE ds (some v) none)) q (segS (decide (¬ ds = 0)) l) := by
  obtain ⟨S, h1, h2⟩ := h
  have kp := KPx.up (f1 := f1) (s := 8) (e := gE ds (some v) none) hq
  exact ⟨S, GD_in (va_up_self _ _ _) (CHD_fr LD_fr (h2.agr kp) _ _ h1), h2.up kp.ex, h2.no hq, Or.inr (by rw [va_up_self]; exact refE_rf (o := none) rfl)⟩
/-- conditions joined -/
theorem DNx.all {l : List CT} (h : DNc KD 2 E E1 f1 v l) (hq : E1 q = 0) : DNx KD 2 E (va_up E1 q 10) (va_up f1 q (kE 1 (some v) none none none none)) q (allC l) := by
  obtain ⟨S, h1, h2⟩ := h
  have kp := KPx.up (f1 := f1) (s := 10) (e := kE 1 (some v) none none none none) hq
  exact ⟨S, KD.all (va_up_self _ _ _) (CHD_fr KD_fr (h2.agr kp) _ _ h1), h2.up kp.ex, h2.no hq, Or.inr (by rw [va_up_self]; exact refE_rf (o := none) rfl)⟩
theorem DNx.any {l : List CT} (h : DNc KD 2 E E1 f1 v l) (hq : E1 q = 0) : DNx KD 2 E (va_up E1 q 10) (va_up f1 q (kE 0 (some v) none none none none)) q (anyC_ l) := by
  obtain ⟨S, h1, h2⟩ := h
  have kp := KPx.up (f1 := f1) (s := 10) (e := kE 0 (some v) none none none none) hq
  exact ⟨S, KD.any (va_up_self _ _ _) (CHD_fr KD_fr (h2.agr kp) _ _ h1), h2.up kp.ex, h2.no hq, Or.inr (by rw [va_up_self]; exact refE_rf (o := none) rfl)⟩
/-- what a new object says of another: the other is marked -/
theorem DNx.mark {M : Type} {R : RT M} {k kk : Nat} {m : M} {s : Nat} {e : va_E} (hR : FrO R) (hm : MonS R) (h : DNx R k E E1 f1 v m) (hv : E v = 0) (hv1 : ¬ E1 v = 0) (hq : E1 q = 0) : ∃ S, R (va_up f1 q e) S v m ∧ NWm E (va_up E1 q s) S ∧ S q = 0 ∧ S v = kk := by
  obtain ⟨S, h1, h2, h3, h4⟩ := h
  have kp := KPx.up (f1 := f1) (s := s) (e := e) hq
  have hne : q ≠ v := fun z => hv1 (by rw [← z]; exact hq)
  exact ⟨joM S (onM v kk), hm _ _ _ _ _ (hR _ _ _ _ _ h1 (kp v hv1).1 (h2.agr kp)) SUB.l, (h2.up kp.ex).jo (NWm.on hv (by rw [kp.ex v hv1]; exact hv1)), joM_0 (h2.no hq) hne, joM_on h3⟩
theorem DNx.onl {s : QT} (h : DNx QD 0 E E1 f1 v s) (hv : E v = 0) (hv1 : ¬ E1 v = 0) (hq : E1 q = 0) : DNx OD 0 E (va_up E1 q 11) (va_up f1 q (oE 1 none (some v) none)) q (onlO s) := by
  obtain ⟨S, h1, h2, h3, h4⟩ := h.mark (kk := 3) (s := 11) (e := oE 1 none (some v) none) QD_fr QD_mo hv hv1 hq
  exact ⟨S, OD.onl (va_up_self _ _ _) h4 h1, h2, h3, Or.inl rfl⟩
theorem DNx.tst {s : QT} (h : DNx QD 0 E E1 f1 v s) (hv : E v = 0) (hv1 : ¬ E1 v = 0) (hq : E1 q = 0) : DNx KD 2 E (va_up E1 q 10) (va_up f1 q (kE 3 none none (some v) none none)) q (tstC s) := by
  obtain ⟨S, h1, h2, h3, h4⟩ := h.mark (kk := 3) (s := 10) (e := kE 3 none none (some v) none none) QD_fr QD_mo hv hv1 hq
  exact ⟨S, KD.tst (va_up_self _ _ _) h4 h1, h2, h3, Or.inr (by rw [va_up_self]; exact refE_rf (o := none) rfl)⟩
theorem DNx.not {g : CT} (h : DNx KD 2 E E1 f1 v g) (hv : E v = 0) (hv1 : ¬ E1 v = 0) (hq : E1 q = 0) : DNx KD 2 E (va_up E1 q 10) (va_up f1 q (kE 2 (some v) none none none none)) q (notC g) := by
  obtain ⟨S, h1, h2, h3, h4⟩ := h.mark (kk := 3) (s := 10) (e := kE 2 (some v) none none none none) KD_fr.o KD_mo hv hv1 hq
  exact ⟨S, KD.not (va_up_self _ _ _) h4 h1, h2, h3, Or.inr (by rw [va_up_self]; exact refE_rf (o := none) rfl)⟩
theorem DNx.fil {g : CT} {hs ht : Int32} {st sp se : Int64} (h : DNx KD 2 E E1 f1 v g) (hv : E v = 0) (hv1 : ¬ E1 v = 0) (hq : E1 q = 0) : DNx LD 8 E (va_up E1 q 9) (va_up f1 q (lE 4 none hs ht st sp se (some v) none)) q (filS g) := by
  obtain ⟨S, h1, h2, h3, h4⟩ := h.mark (kk := 3) (s := 9) (e := lE 4 none hs ht st sp se (some v) none) KD_fr.o KD_mo hv hv1 hq
  exact ⟨S, LD.fil (va_up_self _ _ _) h4 h1, h2, h3, Or.inr (by rw [va_up_self]; exact refE_rf (o := none) rfl)⟩
/-- with a value beside it, whose number changes; it was made before what is read -/
theorem DNx.cnt {E0 : Nat → Nat} {vv : Nat} {s : QT} (h : DNx QD 0 E0 E1 f1 v s) (hx : EX E E0) (hv : E0 v = 0) (hv1 : ¬ E1 v = 0) (hq : E1 q = 0) (hw : E vv = 0) (hw0 : ¬ E0 vv = 0) (hw1 : E1 vv = E0 vv) (hn : NV f1 vv) : DNx OD 0 E (va_up E1 q 11) (va_up f1 q (oE 2 (some vv) (some v) none)) q (cntO s) := by
  obtain ⟨S, h1, h2, h3, h4⟩ := h.mark (kk := 3) (s := 11) (e := oE 2 (some vv) (some v) none) QD_fr QD_mo hv hv1 hq
  have hwq : vv ≠ q := fun z => hw0 (by rw [← hw1, z]; exact hq)
  have hs0 : S vv = 0 := h2.no2 hw0
  have hnv : NV (va_up f1 q (oE 2 (some vv) (some v) none)) vv := by
    obtain ⟨nu, tx, pa, na, ix, nm, no, sp, e⟩ := hn
    exact ⟨nu, tx, pa, na, ix, nm, no, sp, (va_up_ne _ _ hwq).trans e⟩
  exact ⟨joM S (onM vv 1), OD.cnt (va_up_self _ _ _) (joM_on hs0) hnv (joM_l h4 (by decide)) (QD_mo _ _ _ _ _ h1 SUB.l), (h2.low hx).jo (NWm.on hw (by rw [va_up_ne _ _ hwq, hw1]; exact hw0)), joM_0 h3 (Ne.symm hwq), Or.inl rfl⟩
/-- made after what is read -/
theorem DNx.len {vv : Nat} {x : OT} (h : DNx OD 0 E E1 f1 v x) (hv : E v = 0) (hv1 : ¬ E1 v = 0) (hw : E1 vv = 0) (hwE : E vv = 0) (hq : va_up E1 vv 2 q = 0) {nu : Int64} {tx pa na : Option Nat} {ix : Int32} {nm no : Option Nat} {sp : Int32} : DNx OD 0 E (va_up (va_up E1 vv 2) q 11) (va_up (va_up f1 vv (vE 3 nu tx none pa na ix nm no sp)) q (oE 3 (some vv) none (some v))) q (lenO x) := by
  have h5 := h.keep OD_fr hv1 (KPx.up (f1 := f1) (s := 2) (e := vE 3 nu tx none pa na ix nm no sp) hw)
  have hvw : v ≠ vv := fun z => hv1 (by rw [z]; exact hw)
  obtain ⟨S0, g1, g2, g3, g4⟩ := h
  have kp := (KPx.up (f1 := f1) (s := 2) (e := vE 3 nu tx none pa na ix nm no sp) hw).tr (KPx.up (s := 11) (e := oE 3 (some vv) none (some v)) hq)
  have hqv : q ≠ v := fun z => by rw [z, va_up_ne _ _ hvw] at hq; exact hv1 hq
  have hqw : q ≠ vv := fun z => by rw [z, va_up_self] at hq; exact absurd hq (by decide)
  have hE1q : E1 q = 0 := by rw [va_up_ne _ _ hqw] at hq; exact hq
  have hnv : NV (va_up (va_up f1 vv (vE 3 nu tx none pa na ix nm no sp)) q (oE 3 (some vv) none (some v))) vv := ⟨nu, tx, pa, na, ix, nm, no, sp, (va_up_ne _ _ (Ne.symm hqw)).trans (va_up_self _ _ _)⟩
  have hS1 : joM S0 (onM v 3) vv = 0 := joM_0 (g2.no hw) (Ne.symm hvw)
  refine ⟨joM (joM S0 (onM v 3)) (onM vv 1), OD.len (va_up_self _ _ _) (joM_on hS1) hnv (joM_l (joM_on g3) (by decide)) (OD_mo _ _ _ _ _ (OD_fr _ _ _ _ _ g1 (kp v hv1).1 (g2.agr kp)) (SUB.l.tr SUB.l)), ?_, joM_0 (joM_0 (g2.no hE1q) hqv) hqw, Or.inl rfl⟩
  refine ((g2.up kp.ex).jo (NWm.on hv (by rw [kp.ex v hv1]; exact hv1))).jo (NWm.on hwE ?_)
  rw [va_up_ne _ _ (Ne.symm hqw), va_up_self]
  decide
/-- a value as it is written -/
def LTv : RT LF := fun f S b x => CL f b x ∧ x.1 < 5 ∧ refE 3 (f b) = none ∧ ∀ w, x.1 = 4 → refE 2 (f b) = some w → S w = 3
theorem DNx.lit {x : LF} (h : DNx LTv 0 E E1 f1 v x) (hv : E v = 0) (hv1 : ¬ E1 v = 0) (hq : E1 q = 0) : DNx OD 0 E (va_up E1 q 11) (va_up f1 q (oE 0 (some v) none none)) q (litO x) := by
  obtain ⟨S, ⟨h1, h5, h6, h7⟩, h2, h3, -⟩ := h
  have kp := KPx.up (f1 := f1) (s := 11) (e := oE 0 (some v) none none) hq
  have hne : q ≠ v := fun z => hv1 (by rw [← z]; exact hq)
  have ev := (kp v hv1).1
  have hcl : CL (va_up f1 q (oE 0 (some v) none none)) v x := by
    obtain ⟨kd, nu, tx, me, pa, na, ix, nm, no, sp, e, k1, k2, k3, k4⟩ := h1
    refine ⟨kd, nu, tx, me, pa, na, ix, nm, no, sp, ev.trans e, k1, k2, k3, fun z => ?_⟩
    obtain ⟨w, w1, w2⟩ := k4 z
    have w3 := h7 w z (by rw [e, w1]; exact refE_rf (o := some w) rfl)
    refine ⟨w, w1, ?_⟩
    rw [txL_eq (kp w (h2 w (by rw [w3]; decide)).2).1]
    exact w2
  exact ⟨joM S (onM v 2), OD.lit (va_up_self _ _ _) (joM_on h3) hcl h5 (by rw [ev]; exact h6) (fun w z1 z2 => joM_l (h7 w z1 (by rw [ev] at z2; exact z2)) (by decide)), (h2.up kp.ex).jo (NWm.on hv (by rw [kp.ex v hv1]; exact hv1)), joM_0 (h2.no hq) hne, Or.inl rfl⟩
/-- values that are written: with no text, with one -/
theorem DNx.wr0 {kd : Int32} {nu : Int64} {x : LF} (hk : kd = ckd x.1) (h5 : x.1 < 5) (h4 : ¬ x.1 = 4) (hn : x.1 = 3 → nu = x.2.1) : DNx LTv 0 E (va_up E1 q 2) (va_up f1 q (vE kd nu none none none none 0 none none 0)) q x := ⟨fun _ => 0, ⟨⟨_, _, _, _, _, _, _, _, _, _, va_up_self _ _ _, hk, by omega, hn, fun z => absurd z h4⟩, h5, by rw [va_up_self]; exact refE_rf (o := none) rfl, fun w z => absurd z h4⟩, NWm.nil, rfl, Or.inl rfl⟩
theorem DNx.wr4 {cI : ClassId} {nu : Int64} {b n : Nat} {g : Nat → Int32} {us : List Int32} (hb : E1 b = 0) (hbE : E b = 0) (hq : va_up E1 b 4 q = 0) (hu : (List.range n).map g = us) : DNx LTv 0 E (va_up (va_up E1 b 4) q 2) (va_up (va_up f1 b (tE cI n g)) q (vE 4 nu (some b) none none none 0 none none 0)) q (4, 0, us) := by
  have hqb : b ≠ q := fun z => by rw [← z, va_up_self] at hq; exact absurd hq (by decide)
  have eb : va_up (va_up f1 b (tE cI n g)) q (vE 4 nu (some b) none none none 0 none none 0) b = tE cI n g := (va_up_ne _ _ hqb).trans (va_up_self _ _ _)
  refine ⟨onM b 3, ⟨⟨_, _, _, _, _, _, _, _, _, _, va_up_self _ _ _, rfl, show (4 : Nat) ≤ 6 by decide, fun z => absurd z (show ¬ (4 : Nat) = 3 by decide), fun _ => ⟨b, rfl, (txL_t eb).trans hu⟩⟩, show (4 : Nat) < 5 by decide, by rw [va_up_self]; exact refE_rf (o := none) rfl, fun w _ z2 => ?_⟩, NWm.on hbE (by rw [va_up_ne _ _ hqb, va_up_self]; decide), if_neg (Ne.symm hqb), Or.inl rfl⟩
  rw [va_up_self] at z2
  have h9 : refE 2 (vE 4 nu (some b) none none none 0 none none 0) = some b := refE_rf (o := some b) rfl
  obtain rfl : b = w := Option.some.inj (h9.symm.trans z2)
  exact if_pos rfl
-- selectors
theorem DNx.nam {cI : ClassId} {b n : Nat} {g : Nat → Int32} {us : List Int32} {hs ht : Int32} {st sp se : Int64} (hb : E1 b = 0) (hbE : E b = 0) (hq : va_up E1 b 4 q = 0) (hu : (List.range n).map g = us) : DNx LD 8 E (va_up (va_up E1 b 4) q 9) (va_up (va_up f1 b (tE cI n g)) q (lE 0 (some b) hs ht st sp se none none)) q (namS us) := by
  have hqb : b ≠ q := fun z => by rw [← z, va_up_self] at hq; exact absurd hq (by decide)
  have eb : va_up (va_up f1 b (tE cI n g)) q (lE 0 (some b) hs ht st sp se none none) b = tE cI n g := (va_up_ne _ _ hqb).trans (va_up_self _ _ _)
  refine ⟨onM b 3, ?_, NWm.on hbE (by rw [va_up_ne _ _ hqb, va_up_self]; decide), if_neg (Ne.symm hqb), Or.inr (by rw [va_up_self]; exact refE_rf (o := none) rfl)⟩
  have h9 := LD.nam (f := va_up (va_up f1 b (tE cI n g)) q (lE 0 (some b) hs ht st sp se none none)) (S := onM b 3) (a := q) (b := b) (va_up_self _ _ _) (if_pos rfl)
  rw [txL_t eb, hu] at h9
  exact h9
theorem DNx.each {hs ht : Int32} {st sp se : Int64} : DNx LD 8 E (va_up E1 q 9) (va_up f1 q (lE 1 none hs ht st sp se none none)) q eachS := ⟨fun _ => 0, LD.each (va_up_self _ _ _), NWm.nil, rfl, Or.inr (by rw [va_up_self]; exact refE_rf (o := none) rfl)⟩
theorem DNx.idx {hs ht : Int32} {st sp se : Int64} : DNx LD 8 E (va_up E1 q 9) (va_up f1 q (lE 2 none hs ht st sp se none none)) q (idxS st) := ⟨fun _ => 0, LD.idx (va_up_self _ _ _), NWm.nil, rfl, Or.inr (by rw [va_up_self]; exact refE_rf (o := none) rfl)⟩
theorem DNx.slc {hs ht : Int32} {st sp se : Int64} {a b : Option Int64} (ha : (if hs = 0 then none else some st) = a) (hb : (if ht = 0 then none else some sp) = b) : DNx LD 8 E (va_up E1 q 9) (va_up f1 q (lE 3 none hs ht st sp se none none)) q (slcS a b se) := ⟨fun _ => 0, by rw [← ha, ← hb]; exact LD.slc (va_up_self _ _ _), NWm.nil, rfl, Or.inr (by rw [va_up_self]; exact refE_rf (o := none) rfl)⟩
end Make
/-- a comparison: the operands are new, the second came after the first -/
theorem DNx.cmp {E0 E1 E2 : Nat → Nat} {f1 f2 : Nat → va_E} {a v q : Nat} {x y : OT} {op : Nat} {rk : Int32} (ha : DNx OD 0 E0 E1 f1 a x) (ha0 : E0 a = 0) (ha1 : ¬ E1 a = 0) (hv : DNx OD 0 E1 E2 f2 v y) (hv0 : E1 v = 0) (hv1 : ¬ E2 v = 0) (kp : KPx E1 E2 f1 f2) (hx : EX E0 E1) (hq : E2 q = 0) (ho : op ≤ 5) (hk : rk = nI (4 + op)) : DNx KD 2 E0 (va_up E2 q 10) (va_up f2 q (kE rk none none none (some a) (some v))) q (cmpC op x y) := by
  subst hk
  obtain ⟨S, h1, h2, h3, -⟩ := ha
  obtain ⟨T, g1, g2, g3, -⟩ := hv
  have kq := KPx.up (f1 := f2) (s := 10) (e := kE (nI (4 + op)) none none none (some a) (some v)) hq
  have ka := kp.tr kq
  have ha2 : E2 a = E1 a := kp.ex a ha1
  have hav : a ≠ v := fun z => ha1 (by rw [z]; exact hv0)
  have hqa : q ≠ a := fun z => ha1 (by rw [← ha2, ← z]; exact hq)
  have hqv : q ≠ v := fun z => hv1 (by rw [← z]; exact hq)
  have dST : DIS S T := h2.dis g2
  have hTa : T a = 0 := g2.no2 ha1
  have hSv : S v = 0 := h2.no hv0
  have hEx : EX E0 E2 := fun b hb => (kp.ex b (by rw [hx b hb]; exact hb)).trans (hx b hb)
  have nS := (h2.up ka.ex)
  have nT := ((g2.up kq.ex).low hx)
  have na : NWm E0 (va_up E2 q 10) (onM a 3) := NWm.on ha0 (by rw [kq.ex a (by rw [ha2]; exact ha1), ha2]; exact ha1)
  have nv : NWm E0 (va_up E2 q 10) (onM v 3) := NWm.on (hx.z hv0) (by rw [kq.ex v hv1]; exact hv1)
  have dab : DIS (joM S T) (onM a 3) := DIS.on (by unfold joM; rw [if_pos h3]; exact hTa)
  have eA : joM (joM S T) (onM a 3) a = 3 := joM_on (by unfold joM; rw [if_pos h3]; exact hTa)
  have eV0 : joM (joM S T) (onM a 3) v = 0 := joM_0 (by unfold joM; rw [if_pos hSv]; exact g3) (Ne.symm hav)
  refine ⟨joM (joM (joM S T) (onM a 3)) (onM v 3), KD.cmp (Sl := S) (Sr := T) (va_up_self _ _ _) ho (joM_l eA (by decide)) (joM_on eV0) ((SUB.l.tr SUB.l).tr SUB.l) (((SUB.r dST).tr SUB.l).tr SUB.l) dST (OD_fr _ _ _ _ _ h1 (ka a ha1).1 (h2.agr ka)) (OD_fr _ _ _ _ _ g1 (kq v hv1).1 (g2.agr kq)), ((nS.jo nT).jo na).jo nv, ?_, Or.inr (by rw [va_up_self]; exact refE_rf (o := none) rfl)⟩
  exact joM_0 (joM_0 (by unfold joM; rw [if_pos (h2.no (kp.ex.z hq))]; exact g2.no hq) hqa) hqv
/-- a query's segments -/
def QIx (E E1 : Nat → Nat) (f : Nat → va_E) (fi la : Option Nat) (l : List QT) : Prop := (fi = none ∧ la = none ∧ l = []) ∨ ∃ (o y : Nat) (l0 : List QT) (m : QT), fi = some o ∧ la = some y ∧ l = l0 ++ [m] ∧ KIx GD 2 E E1 f o y l0 m
theorem QIx.start {E E1 : Nat → Nat} {f : Nat → va_E} : QIx E E1 f none none [] := Or.inl ⟨rfl, rfl, rfl⟩
theorem QIx.next {E E1 E3 : Nat → Nat} {f1 f3 f4 : Nat → va_E} {fi la x2 : Option Nat} {l : List QT} {v : Nat} {m1 : QT} (h : QIx E E1 f1 fi la l) (hla : ∀ a, la = some a → E a = 0 ∧ ¬ E1 a = 0) (hd : DNx GD 2 E1 E3 f3 v m1) (hv : E1 v = 0) (kp : KPx E1 E3 f1 f3) (hx : EX E E1) (hf : (la = none → x2 = some v ∧ f4 = f3) ∧ (la ≠ none → x2 = fi)) (hf4 : ∀ a, la = some a → ∃ ds fi nx, f3 a = gE ds fi nx ∧ f4 = va_up f3 a (gE ds fi (some v))) : QIx E E3 f4 x2 (some v) (l ++ [m1]) := by
  rcases h with ⟨h1, h2, h3⟩ | ⟨o, y, l0, m, h1, h2, h3, h4⟩
  · obtain ⟨e1, e2⟩ := hf.1 h2
    subst e2
    subst h3
    exact Or.inr ⟨v, v, [], m1, e1, rfl, rfl, KIx.start (hd.low hx) (by decide)⟩
  · obtain ⟨ds, fi', nx, e1, e2⟩ := hf4 y h2
    obtain ⟨y0, y1⟩ := hla y h2
    have e3 : x2 = some o := (hf.2 (by rw [h2]; exact fun q => by cases q)).trans h1
    refine Or.inr ⟨o, v, l, m1, e3, rfl, rfl, ?_⟩
    rw [h3, e2]
    exact h4.add GD_mo GD_fr (by decide) y0 y1 hd hv kp hx (fun b hb => va_up_ne _ _ hb) (by rw [va_up_self]; exact Or.inr ⟨_, _, some v, e1, rfl⟩) (by rw [va_up_self]; exact refE_rf (o := some v) rfl)
theorem QIx.fin {E E1 : Nat → Nat} {f1 : Nat → va_E} {fi la : Option Nat} {l : List QT} {q : Nat} {fr sg : Int32} (h : QIx E E1 f1 fi la l) (hla : ∀ a, la = some a → E a = 0 ∧ ¬ E1 a = 0) (hq : E1 q = 0) : DNx QD 0 E (va_up E1 q 7) (va_up f1 q (qE fr sg fi la)) q (qryS (decide (¬ fr = 0)) l) := by
  have kp := KPx.up (f1 := f1) (s := 7) (e := qE fr sg fi la) hq
  rcases h with ⟨h1, h2, h3⟩ | ⟨o, y, l0, m, rfl, h2, rfl, h4⟩
  · exact ⟨fun _ => 0, QD_in (va_up_self _ _ _) (by rw [h3]; exact h1), NWm.nil, rfl, Or.inl rfl⟩
  · obtain ⟨y0, y1⟩ := hla y h2
    obtain ⟨S, g1, g2⟩ := h4.fin GD_mo y0 y1
    exact ⟨S, QD_in (va_up_self _ _ _) (CHD_fr GD_fr (g2.agr kp) _ _ g1), g2.up kp.ex, g2.no hq, Or.inl rfl⟩
-- what the calls of the family say
def OKd {M : Type} (R : RT M) (k : Nat) (F : Nat → Option (Nat × M)) : Nat → Nat → (Nat → Nat) → (Nat → Nat) → (Nat → va_E) → Nat → Prop := fun i p E E1 f v => ∃ m, F i = some (p, m) ∧ DNx R k E E1 f v m
def OKe {M : Type} (R : RT M) (k : Nat) (F : Nat → Option (Nat × Bool × M)) (sg : (Nat → va_E) → Nat → Bool) : Nat → Nat → (Nat → Nat) → (Nat → Nat) → (Nat → va_E) → Nat → Prop := fun i p E E1 f v => ∃ m, F i = some (p, sg f v, m) ∧ DNx R k E E1 f v m
def OKc {M : Type} (R : RT M) (k : Nat) (F : Nat → Option (Nat × Bool × List M)) (sg : (Nat → va_E) → Nat → Bool) : Nat → Nat → (Nat → Nat) → (Nat → Nat) → (Nat → va_E) → Nat → Prop := fun i p E E1 f v => ∃ l, F i = some (p, sg f v, l) ∧ DNc R k E E1 f v l
def NOd {α : Type} (F : Nat → Option α) : Nat → Prop := fun i => F i = none
/-- lists under way: what was read so far stands ahead of what comes -/
def LSx {α M : Type} (X Y : Option (Nat × List M)) (tl : List M) : Prop := X = Y.map (fun r => (r.1, tl ++ r.2))
theorem LSx.st {M : Type} {X : Option (Nat × List M)} : LSx (α := Unit) X X [] := by
  unfold LSx
  cases X with
  | none => rfl
  | some r => rfl
theorem LSx.s {M : Type} {X Y Z : Option (Nat × List M)} {tl : List M} {m : M} (h : LSx (α := Unit) X Y tl) (hY : Y = Z.map (fun r => (r.1, m :: r.2))) : LSx (α := Unit) X Z (tl ++ [m]) := by
  unfold LSx at h ⊢
  rw [h, hY]
  cases Z with
  | none => rfl
  | some r => show some (r.1, tl ++ m :: r.2) = some (r.1, (tl ++ [m]) ++ r.2); rw [List.append_assoc]; rfl
theorem LSx.n {M : Type} {X Y : Option (Nat × List M)} {tl : List M} (h : LSx (α := Unit) X Y tl) (hY : Y = none) : X = none := by
  unfold LSx at h
  rw [h, hY]
  rfl
theorem LSx.e {M : Type} {X Y : Option (Nat × List M)} {tl : List M} {p : Nat} (h : LSx (α := Unit) X Y tl) (hY : Y = some (p, [])) : X = some (p, tl) := by
  unfold LSx at h
  rw [h, hY]
  show some (p, tl ++ []) = some (p, tl)
  rw [List.append_nil]
/-- elements read one after the other: what has been read, and what is to come -/
def SLd {M : Type} (R : RT M) (kf : Nat) (X Y : Option (Nat × List M)) (E E1 : Nat → Nat) (f : Nat → va_E) (x y : Nat) (m0 : M) (k : Nat) : Prop := ∃ (l : List M) (m : M) (tl : List M), KIx R kf E E1 f x y l m ∧ l ++ [m] = m0 :: tl ∧ tl.length = k ∧ LSx (α := Unit) X Y tl
section Elems
variable {M : Type} {R : RT M} {kf : Nat} {X Y Z : Option (Nat × List M)} {E E1 E3 : Nat → Nat} {f1 f3 f4 : Nat → va_E} {x y v k p : Nat} {m0 m1 : M}
theorem SLd.start (hd : DNx R kf E E1 f1 v m0) (h0 : ¬ kf = 0) : SLd R kf X X E E1 f1 v v m0 0 := ⟨[], m0, [], KIx.start hd h0, rfl, rfl, LSx.st⟩
theorem SLd.next (hm : MonS R) (hR : FrC kf R) (h0 : ¬ kf = 0) (h : SLd R kf X Y E E1 f1 x y m0 k) (hy0 : E y = 0) (hy : ¬ E1 y = 0) (hd : DNx R kf E1 E3 f3 v m1) (hv : E1 v = 0) (kp : KPx E1 E3 f1 f3) (hx : EX E E1) (hb : ∀ b, b ≠ y → f4 b = f3 b) (he : eqx kf (f3 y) (f4 y)) (hl : refE kf (f4 y) = some v) (hY : Y = Z.map (fun r => (r.1, m1 :: r.2))) : SLd R kf X Z E E3 f4 x v m0 (k + 1) := by
  obtain ⟨l, m, tl, h1, h2, h3, h4⟩ := h
  refine ⟨l ++ [m], m1, tl ++ [m1], h1.add hm hR h0 hy0 hy hd hv kp hx hb he hl, ?_, by rw [List.length_append, List.length_singleton, h3], h4.s hY⟩
  rw [h2]
  rfl
theorem SLd.fin (hm : MonS R) (h : SLd R kf X Y E E1 f1 x y m0 k) (hy0 : E y = 0) (hy : ¬ E1 y = 0) (hY : Y = some (p, [])) : ∃ tl, X = some (p, tl) ∧ tl.length = k ∧ DNc R kf E E1 f1 x (m0 :: tl) := by
  obtain ⟨l, m, tl, h1, h2, h3, h4⟩ := h
  refine ⟨tl, h4.e hY, h3, ?_⟩
  rw [← h2]
  exact h1.fin hm hy0 hy
theorem SLd.n (h : SLd R kf X Y E E1 f1 x y m0 k) (hY : Y = none) : X = none := by
  obtain ⟨l, m, tl, h1, h2, h3, h4⟩ := h
  exact h4.n hY
end Elems
theorem SLI.fin2 {g : Nat → Int32} {n : Nat} {nw : Bool} {p0 x y p : Nat} {b0 : Bool} {m : Nat} {f : Nat → va_E} {t : List QT} (h : SLI g n nw p0 x y p b0 m f) (hl : t.length = m) : (b0 && t.isEmpty) = sgL (f x) := by
  rcases h with ⟨h1, -, -, h2⟩ | ⟨h1, -, h2⟩
  · rw [h1] at hl
    rw [List.eq_nil_of_length_eq_zero hl, h2]
    cases b0 <;> rfl
  · rw [h2]
    cases t with
    | nil => exact absurd hl.symm h1
    | cons a t => cases b0 <;> rfl
theorem qrD_nw0 {f : Nat → Int32} {n i : Nat} {ok : Bool} {orL : Nat → Option (Nat × CT)} {r : Option (Nat × Bool × QT)} (h : qrD f n ok orL (nwB 0) i = r) : qrD f n ok orL false i = r := by rw [nwB0] at h; exact h
theorem qrD_nw1 {f : Nat → Int32} {n i : Nat} {ok : Bool} {orL : Nat → Option (Nat × CT)} {r : Option (Nat × Bool × QT)} (h : qrD f n ok orL (nwB 1) i = r) : qrD f n ok orL true i = r := by rw [nwB1] at h; exact h
theorem nmC_all {f : Nat → Int32} {n : Nat} : ∀ (k j q : Nat), j ≤ q → q < nmC f n k j → letH (hereV f n q) ∨ digH (hereV f n q) := by
  intro k
  induction k with
  | zero => exact fun j q h1 h2 => absurd h2 (Nat.not_lt.mpr h1)
  | succ k ih =>
    intro j q h1 h2
    by_cases c : letH (hereV f n j) ∨ digH (hereV f n j)
    · by_cases e : q = j
      · rw [e]; exact c
      · have h3 : nmC f n (k + 1) j = nmC f n k (j + 1) := by simp only [nmC]; rw [if_pos c]
        rw [h3] at h2
        exact ih (j + 1) q (Nat.lt_of_le_of_ne h1 (Ne.symm e)) h2
    · have h3 : nmC f n (k + 1) j = j := nmC_e c
      rw [h3] at h2
      exact absurd h2 (Nat.not_lt.mpr h1)
/-- a letter's byte is not negative -/
theorem nm_low {bf : Nat → Int32} {n q : Nat} (hbf : byR bf) (h : letH (hereV bf n q) ∨ digH (hereV bf n q)) : hereV bf n q = bf q := by
  have h0 : q < n := by
    rcases h with h | h
    · exact letH_lt h
    · exact digH_lt h
  obtain ⟨m, hm, em⟩ := pk_andE (bf q) (m := 255) 8 (by decide)
  have e : hereV bf n q = nI m := by
    unfold hereV
    rw [if_pos h0]
    exact em
  have h1 : nI m ≤ 122 := by
    rw [e] at h
    rcases h with (h | h | h) | h
    · exact h.2
    · exact Int32.le_trans h.2 (by decide)
    · rw [h]; decide
    · exact Int32.le_trans h.2 (by decide)
  clear h
  rw [show (122 : Int32) = nI 122 from rfl, nI_leI (by omega) (by decide)] at h1
  have hb := hbf q
  rw [vp_nar_byte] at hb
  have e2 := (sc_eq hb (n := m) (by omega)).mpr em
  have e3 : (nI m).toInt8.toInt32 = nI m := by
    have key : ∀ k, k < 128 → (nI k).toInt8.toInt32 = nI k := by decide
    exact key m (by omega)
  rw [e, e2, e3]
theorem nm_units {bf g : Nat → Int32} {n i p : Nat} (hbf : byR bf) (hne : nmC bf n (n - i) i = p) (hg : ∀ a, a < p - i → g a = bf (i + a)) : (List.range (p - i)).map g = nmT_ bf n i p := by
  unfold nmT_
  apply List.map_congr_left
  intro k hk
  have hk := List.mem_range.mp hk
  rw [hg k hk]
  exact (nm_low hbf (nmC_all (n - i) i (i + k) (Nat.le_add_right _ _) (by rw [hne]; omega))).symm
/-- a query under way: the segments that have been read -/
theorem qr_map {ok : Bool} {f : Nat → Int32} {n : Nat} {orL : Nat → Option (Nat × CT)} {nw : Bool} {X : Option (Nat × Bool × QT)} {Y Z : Option (Nat × Bool × List QT)} {b : Bool} {l : List QT} {m : QT} (h : X = Y.map (fun q => (q.1, q.2.1, qryS b (l ++ q.2.2)))) (hY : Y = Z.map (fun r => (r.1, r.2.1, m :: r.2.2))) : X = Z.map (fun q => (q.1, q.2.1, qryS b ((l ++ [m]) ++ q.2.2))) := by
  rw [h, hY]
  cases Z with
  | none => rfl
  | some r =>
    show some (r.1, r.2.1, qryS b (l ++ m :: r.2.2)) = some (r.1, r.2.1, qryS b ((l ++ [m]) ++ r.2.2))
    rw [List.append_assoc]
    rfl

abbrev b_QueryReader_shortSelector : ByteArray := prog_7_method_5_code
def y_QueryReader_shortSelector : MethodName := ⟨"QueryBench$QueryReader", "shortSelector", "(Z)LQueryBench$Selector;"⟩
abbrev k_QueryReader_shortSelector : Cond := .code y_QueryReader_shortSelector b_QueryReader_shortSelector 5 (some (.object "QueryBench$Selector"))
theorem i_QueryReader_shortSelector : k_QueryReader_shortSelector ∈ gtbl := gt_in 792 (by decide +kernel) (by decide +kernel)
theorem d_QueryReader_shortSelector_0 : decode b_QueryReader_shortSelector 0 = .ok (.iload_n 1, 1) := by decide +kernel
theorem d_QueryReader_shortSelector_1 : decode b_QueryReader_shortSelector 1 = .ok (.ifCond .ne 24, 3) := by decide +kernel
theorem d_QueryReader_shortSelector_4 : decode b_QueryReader_shortSelector 4 = .ok (.aload_n 0, 1) := by decide +kernel
theorem d_QueryReader_shortSelector_5 : decode b_QueryReader_shortSelector 5 = .ok (.getfield 9, 3) := by decide +kernel
theorem d_QueryReader_shortSelector_8 : decode b_QueryReader_shortSelector 8 = .ok (.bipush 42, 2) := by decide +kernel
theorem d_QueryReader_shortSelector_10 : decode b_QueryReader_shortSelector 10 = .ok (.invokevirtual 58, 3) := by decide +kernel
theorem d_QueryReader_shortSelector_13 : decode b_QueryReader_shortSelector 13 = .ok (.ifCond .eq 12, 3) := by decide +kernel
theorem d_QueryReader_shortSelector_16 : decode b_QueryReader_shortSelector 16 = .ok (.new 77, 3) := by decide +kernel
theorem d_QueryReader_shortSelector_19 : decode b_QueryReader_shortSelector 19 = .ok (.dup, 1) := by decide +kernel
theorem d_QueryReader_shortSelector_20 : decode b_QueryReader_shortSelector 20 = .ok (.iconst 1, 1) := by decide +kernel
theorem d_QueryReader_shortSelector_21 : decode b_QueryReader_shortSelector 21 = .ok (.invokespecial 79, 3) := by decide +kernel
theorem d_QueryReader_shortSelector_24 : decode b_QueryReader_shortSelector 24 = .ok (.areturn, 1) := by decide +kernel
theorem d_QueryReader_shortSelector_25 : decode b_QueryReader_shortSelector 25 = .ok (.new 77, 3) := by decide +kernel
theorem d_QueryReader_shortSelector_28 : decode b_QueryReader_shortSelector 28 = .ok (.dup, 1) := by decide +kernel
theorem d_QueryReader_shortSelector_29 : decode b_QueryReader_shortSelector 29 = .ok (.iconst 0, 1) := by decide +kernel
theorem d_QueryReader_shortSelector_30 : decode b_QueryReader_shortSelector 30 = .ok (.invokespecial 79, 3) := by decide +kernel
theorem d_QueryReader_shortSelector_33 : decode b_QueryReader_shortSelector 33 = .ok (.astore_n 2, 1) := by decide +kernel
theorem d_QueryReader_shortSelector_34 : decode b_QueryReader_shortSelector 34 = .ok (.aload_n 0, 1) := by decide +kernel
theorem d_QueryReader_shortSelector_35 : decode b_QueryReader_shortSelector 35 = .ok (.getfield 9, 3) := by decide +kernel
theorem d_QueryReader_shortSelector_38 : decode b_QueryReader_shortSelector 38 = .ok (.getfield 25, 3) := by decide +kernel
theorem d_QueryReader_shortSelector_41 : decode b_QueryReader_shortSelector 41 = .ok (.istore_n 3, 1) := by decide +kernel
theorem d_QueryReader_shortSelector_42 : decode b_QueryReader_shortSelector 42 = .ok (.aload_n 0, 1) := by decide +kernel
theorem d_QueryReader_shortSelector_43 : decode b_QueryReader_shortSelector 43 = .ok (.getfield 9, 3) := by decide +kernel
theorem d_QueryReader_shortSelector_46 : decode b_QueryReader_shortSelector 46 = .ok (.invokevirtual 19, 3) := by decide +kernel
theorem d_QueryReader_shortSelector_49 : decode b_QueryReader_shortSelector 49 = .ok (.invokestatic 81, 3) := by decide +kernel
theorem d_QueryReader_shortSelector_52 : decode b_QueryReader_shortSelector 52 = .ok (.ifCond .eq 16, 3) := by decide +kernel
theorem d_QueryReader_shortSelector_55 : decode b_QueryReader_shortSelector 55 = .ok (.aload_n 0, 1) := by decide +kernel
theorem d_QueryReader_shortSelector_56 : decode b_QueryReader_shortSelector 56 = .ok (.getfield 9, 3) := by decide +kernel
theorem d_QueryReader_shortSelector_59 : decode b_QueryReader_shortSelector 59 = .ok (.invokevirtual 19, 3) := by decide +kernel
theorem d_QueryReader_shortSelector_62 : decode b_QueryReader_shortSelector 62 = .ok (.invokestatic 84, 3) := by decide +kernel
theorem d_QueryReader_shortSelector_65 : decode b_QueryReader_shortSelector 65 = .ok (.ifCond .eq 11, 3) := by decide +kernel
theorem d_QueryReader_shortSelector_68 : decode b_QueryReader_shortSelector 68 = .ok (.aload_n 0, 1) := by decide +kernel
theorem d_QueryReader_shortSelector_69 : decode b_QueryReader_shortSelector 69 = .ok (.getfield 9, 3) := by decide +kernel
theorem d_QueryReader_shortSelector_72 : decode b_QueryReader_shortSelector 72 = .ok (.iload_n 3, 1) := by decide +kernel
theorem d_QueryReader_shortSelector_73 : decode b_QueryReader_shortSelector 73 = .ok (.invokevirtual 28, 3) := by decide +kernel
theorem d_QueryReader_shortSelector_76 : decode b_QueryReader_shortSelector 76 = .ok (.aload_n 0, 1) := by decide +kernel
theorem d_QueryReader_shortSelector_77 : decode b_QueryReader_shortSelector 77 = .ok (.getfield 9, 3) := by decide +kernel
theorem d_QueryReader_shortSelector_80 : decode b_QueryReader_shortSelector 80 = .ok (.getfield 25, 3) := by decide +kernel
theorem d_QueryReader_shortSelector_83 : decode b_QueryReader_shortSelector 83 = .ok (.aload_n 0, 1) := by decide +kernel
theorem d_QueryReader_shortSelector_84 : decode b_QueryReader_shortSelector 84 = .ok (.getfield 9, 3) := by decide +kernel
theorem d_QueryReader_shortSelector_87 : decode b_QueryReader_shortSelector 87 = .ok (.getfield 36, 3) := by decide +kernel
theorem d_QueryReader_shortSelector_90 : decode b_QueryReader_shortSelector 90 = .ok (.if_icmp .ge 32, 3) := by decide +kernel
theorem d_QueryReader_shortSelector_93 : decode b_QueryReader_shortSelector 93 = .ok (.aload_n 0, 1) := by decide +kernel
theorem d_QueryReader_shortSelector_94 : decode b_QueryReader_shortSelector 94 = .ok (.getfield 9, 3) := by decide +kernel
theorem d_QueryReader_shortSelector_97 : decode b_QueryReader_shortSelector 97 = .ok (.invokevirtual 19, 3) := by decide +kernel
theorem d_QueryReader_shortSelector_100 : decode b_QueryReader_shortSelector 100 = .ok (.invokestatic 81, 3) := by decide +kernel
theorem d_QueryReader_shortSelector_103 : decode b_QueryReader_shortSelector 103 = .ok (.ifCond .eq 19, 3) := by decide +kernel
theorem d_QueryReader_shortSelector_106 : decode b_QueryReader_shortSelector 106 = .ok (.aload_n 0, 1) := by decide +kernel
theorem d_QueryReader_shortSelector_107 : decode b_QueryReader_shortSelector 107 = .ok (.getfield 9, 3) := by decide +kernel
theorem d_QueryReader_shortSelector_110 : decode b_QueryReader_shortSelector 110 = .ok (.dup, 1) := by decide +kernel
theorem d_QueryReader_shortSelector_111 : decode b_QueryReader_shortSelector 111 = .ok (.getfield 25, 3) := by decide +kernel
theorem d_QueryReader_shortSelector_114 : decode b_QueryReader_shortSelector 114 = .ok (.iconst 1, 1) := by decide +kernel
theorem d_QueryReader_shortSelector_115 : decode b_QueryReader_shortSelector 115 = .ok (.iadd, 1) := by decide +kernel
theorem d_QueryReader_shortSelector_116 : decode b_QueryReader_shortSelector 116 = .ok (.putfield 25, 3) := by decide +kernel
theorem d_QueryReader_shortSelector_119 : decode b_QueryReader_shortSelector 119 = .ok (.goto (-43), 3) := by decide +kernel
theorem d_QueryReader_shortSelector_122 : decode b_QueryReader_shortSelector 122 = .ok (.aload_n 2, 1) := by decide +kernel
theorem d_QueryReader_shortSelector_123 : decode b_QueryReader_shortSelector 123 = .ok (.aload_n 0, 1) := by decide +kernel
theorem d_QueryReader_shortSelector_124 : decode b_QueryReader_shortSelector 124 = .ok (.getfield 9, 3) := by decide +kernel
theorem d_QueryReader_shortSelector_127 : decode b_QueryReader_shortSelector 127 = .ok (.getfield 25, 3) := by decide +kernel
theorem d_QueryReader_shortSelector_130 : decode b_QueryReader_shortSelector 130 = .ok (.iload_n 3, 1) := by decide +kernel
theorem d_QueryReader_shortSelector_131 : decode b_QueryReader_shortSelector 131 = .ok (.isub, 1) := by decide +kernel
theorem d_QueryReader_shortSelector_132 : decode b_QueryReader_shortSelector 132 = .ok (.newarray .int, 2) := by decide +kernel
theorem d_QueryReader_shortSelector_134 : decode b_QueryReader_shortSelector 134 = .ok (.putfield 87, 3) := by decide +kernel
theorem d_QueryReader_shortSelector_137 : decode b_QueryReader_shortSelector 137 = .ok (.iconst 0, 1) := by decide +kernel
theorem d_QueryReader_shortSelector_138 : decode b_QueryReader_shortSelector 138 = .ok (.istore 4, 2) := by decide +kernel
theorem d_QueryReader_shortSelector_140 : decode b_QueryReader_shortSelector 140 = .ok (.iload 4, 2) := by decide +kernel
theorem d_QueryReader_shortSelector_142 : decode b_QueryReader_shortSelector 142 = .ok (.aload_n 2, 1) := by decide +kernel
theorem d_QueryReader_shortSelector_143 : decode b_QueryReader_shortSelector 143 = .ok (.getfield 87, 3) := by decide +kernel
theorem d_QueryReader_shortSelector_146 : decode b_QueryReader_shortSelector 146 = .ok (.arraylength, 1) := by decide +kernel
theorem d_QueryReader_shortSelector_147 : decode b_QueryReader_shortSelector 147 = .ok (.if_icmp .ge 28, 3) := by decide +kernel
theorem d_QueryReader_shortSelector_150 : decode b_QueryReader_shortSelector 150 = .ok (.aload_n 2, 1) := by decide +kernel
theorem d_QueryReader_shortSelector_151 : decode b_QueryReader_shortSelector 151 = .ok (.getfield 87, 3) := by decide +kernel
theorem d_QueryReader_shortSelector_154 : decode b_QueryReader_shortSelector 154 = .ok (.iload 4, 2) := by decide +kernel
theorem d_QueryReader_shortSelector_156 : decode b_QueryReader_shortSelector 156 = .ok (.aload_n 0, 1) := by decide +kernel
theorem d_QueryReader_shortSelector_157 : decode b_QueryReader_shortSelector 157 = .ok (.getfield 9, 3) := by decide +kernel
theorem d_QueryReader_shortSelector_160 : decode b_QueryReader_shortSelector 160 = .ok (.getfield 91, 3) := by decide +kernel
theorem d_QueryReader_shortSelector_163 : decode b_QueryReader_shortSelector 163 = .ok (.iload_n 3, 1) := by decide +kernel
theorem d_QueryReader_shortSelector_164 : decode b_QueryReader_shortSelector 164 = .ok (.iload 4, 2) := by decide +kernel
theorem d_QueryReader_shortSelector_166 : decode b_QueryReader_shortSelector 166 = .ok (.iadd, 1) := by decide +kernel
theorem d_QueryReader_shortSelector_167 : decode b_QueryReader_shortSelector 167 = .ok (.baload, 1) := by decide +kernel
theorem d_QueryReader_shortSelector_168 : decode b_QueryReader_shortSelector 168 = .ok (.iastore, 1) := by decide +kernel
theorem d_QueryReader_shortSelector_169 : decode b_QueryReader_shortSelector 169 = .ok (.iinc 4 1, 3) := by decide +kernel
theorem d_QueryReader_shortSelector_172 : decode b_QueryReader_shortSelector 172 = .ok (.goto (-32), 3) := by decide +kernel
theorem d_QueryReader_shortSelector_175 : decode b_QueryReader_shortSelector 175 = .ok (.aload_n 2, 1) := by decide +kernel
theorem d_QueryReader_shortSelector_176 : decode b_QueryReader_shortSelector 176 = .ok (.areturn, 1) := by decide +kernel
set_option maxHeartbeats 4000000 in
set_option maxRecDepth 100000 in
/-- QueryReader.shortSelector -/
theorem c_QueryReader_shortSelector (l : Launch) (hl9 : l.stackTraces = false) (dC : Nat → ClassId) (dI : Nat → Nat → Nat) (sz : Heap) (cI cV : ClassId) (E lv : Nat → Nat) (L : List Nat) (f : Nat → va_E) (hO : PO cI cV E lv L f) (cB : ClassId) (h0 qb qu : Nat) (uc ln pl : Int32) (bf ug : Nat → Int32) (n i : Nat) (hn0 : n ≤ 4096) (hin : i ≤ n) (qr o : Nat) (nw : Int32) (hbf : byR bf) : vx_Met l y_QueryReader_shortSelector (k_QueryReader_shortSelector :: gtbl) ({ frames := 10, cells := 3, slots := 15 + (n - i), locals := 170 }) (va_Pc [.ref qr, .int nw] (mx dC dI ([(qr, .inr (5, [.ref h0, .int (nI o)])), (h0, .inr (8, [.ref qb, .ref qu, .int uc, .int ln, .int (nI n), .int (nI i), .int pl])), (qb, .inl (cB, 4096, .inl bf)), (qu, .inl (cI, 4096, .inl ug))] ++ va_pl L f) [(cB, .byte), (cI, .int), (cV, .object "QueryBench$Value")] sz)) (va_Qr (fun (u : Nat × Nat × List Nat × (Nat → Nat) × (Nat → va_E)) => QPn cI cV E L f i n sz.size 9 0 0 u.1 u.2.1 u.2.2.1 u.2.2.2.1 u.2.2.2.2 ∧ ∃ m : QT, shD bf n (nwB nw) i = some (u.2.1, sgL (u.2.2.2.2 u.1), [m]) ∧ DNx LD 8 E u.2.2.2.1 u.2.2.2.2 u.1 m) (fun u a9 t9 => mz dC dI ([(qr, .inr (5, [.ref h0, .int (nI o)])), (h0, .inr (8, [.ref qb, .ref qu, .int uc, .int ln, .int (nI n), .int (nI u.2.1), .int pl])), (qb, .inl (cB, 4096, .inl bf)), (qu, .inl (cI, 4096, .inl ug))] ++ va_pl ((L ++ u.2.2.1)) u.2.2.2.2) [(cB, .byte), (cI, .int), (cV, .object "QueryBench$Value")] (va_A ([(qr, .inr (5, [.ref h0, .int (nI o)])), (h0, .inr (8, [.ref qb, .ref qu, .int uc, .int ln, .int (nI n), .int (nI i), .int pl])), (qb, .inl (cB, 4096, .inl bf)), (qu, .inl (cI, 4096, .inl ug))] ++ va_pl L f) sz.size) t9 ∧ szk sz t9.heap (2) (9 + (u.2.1 - i)) ∧ a9 = u.1) (va_A ([(qr, .inr (5, [.ref h0, .int (nI o)])), (h0, .inr (8, [.ref qb, .ref qu, .int uc, .int ln, .int (nI n), .int (nI i), .int pl])), (qb, .inl (cB, 4096, .inl bf)), (qu, .inl (cI, 4096, .inl ug))] ++ va_pl L f) sz.size)) (vx_X (fun (u : Int32 × Int32 × Int32 × (Nat → Int32) × Int32) => shD bf n (nwB nw) i = none) (fun En u t9 => En = UOX ∧ mz dC dI ([(qr, .inr (5, [.ref h0, .int u.2.2.2.2])), (h0, .inr (8, [.ref qb, .ref qu, .int u.2.1, .int ln, .int (nI n), .int u.1, .int u.2.2.1])), (qb, .inl (cB, 4096, .inl bf)), (qu, .inl (cI, 4096, .inl u.2.2.2.1))] ++ va_pl L f) [(cB, .byte), (cI, .int), (cV, .object "QueryBench$Value")] (va_A ([(qr, .inr (5, [.ref h0, .int (nI o)])), (h0, .inr (8, [.ref qb, .ref qu, .int uc, .int ln, .int (nI n), .int (nI i), .int pl])), (qb, .inl (cB, 4096, .inl bf)), (qu, .inl (cI, 4096, .inl ug))] ++ va_pl L f) sz.size) t9) (va_A ([(qr, .inr (5, [.ref h0, .int (nI o)])), (h0, .inr (8, [.ref qb, .ref qu, .int uc, .int ln, .int (nI n), .int (nI i), .int pl])), (qb, .inl (cB, 4096, .inl bf)), (qu, .inl (cI, 4096, .inl ug))] ++ va_pl L f) sz.size)) (3) (15 + (n - i)) (va_A ([(qr, .inr (5, [.ref h0, .int (nI o)])), (h0, .inr (8, [.ref qb, .ref qu, .int uc, .int ln, .int (nI n), .int (nI i), .int pl])), (qb, .inl (cB, 4096, .inl bf)), (qu, .inl (cI, 4096, .inl ug))] ++ va_pl L f) sz.size) := by
  refine vx_ofW (cc := b_QueryReader_shortSelector) (maxL := 5) (ret := (some (.object "QueryBench$Selector"))) (by decide) rfl ?_
  intro p e s m args below meth c s₁ B hml hex hv
  obtain ⟨rfl, ⟨hsz, hP, hK, hD0⟩, hN, hZ⟩ := hv
  have hx := B.exec
  have hb := B.bytes
  have hr := B.returns
  have hts0 := atoms_spec (ws := k_QueryReader_shortSelector :: gtbl) B.pre
  have hts := fun w h => hts0 w (List.mem_cons_of_mem _ h)
  have hown : s.vm.findClass R_QueryReader = some m.cls := findClass_of_methodNamed B.named
  have hlocks := B.notSynchronized
  subst hsz
  have hD := hD0.self (sz := s.heap.size)
  generalize hAe : va_A ([(qr, .inr (5, [.ref h0, .int (nI o)])), (h0, .inr (8, [.ref qb, .ref qu, .int uc, .int ln, .int (nI n), .int (nI i), .int pl])), (qb, .inl (cB, 4096, .inl bf)), (qu, .inl (cI, 4096, .inl ug))] ++ va_pl L f) s.heap.size = A at hD hZ ⊢
  have hA : ∀ q : Nat, s.heap.size ≤ q → A q := fun q h => by rw [← hAe]; exact Or.inr h
  have hS : va_S A s.heap s.heap [] := va_S.rf
  have hP : va_P (dC, dI) classes ([(qr, .inr (5, [.ref h0, .int (nI o)])), (h0, .inr (8, [.ref qb, .ref qu, .int uc, .int ln, .int (nI n), .int (nI i), .int pl])), (qb, .inl (cB, 4096, .inl bf)), (qu, .inl (cI, 4096, .inl ug))] ++ va_pl L f) s.heap := hP
  have hl := lv_entry ([.ref qr, .int nw]) (n := 5) (Nat.le_of_ble_eq_true rfl)
  rw [lg_entry_eq]
  generalize (lg_sl ([.ref qr, .int nw]) ++ List.replicate (5 - (lg_sl ([.ref qr, .int nw])).length) Slot.unset).toArray = ls at hl ⊢
  have hl : lv_has ls 5 [(0, .ref qr), (1, .int nw)] := hl
  refine lv_iload_n hx hb d_QueryReader_shortSelector_0 rfl (lv_at hl 1 rfl) ?_
  refine lv_if_ne (tgt := 25) hx hb d_QueryReader_shortSelector_1 (by decide) (fun c1 => ?_) (fun c1 => ?_)
  · have hns : ¬ (nwB nw = false ∧ hereV bf n i = 42) := fun q => by rw [nwB_1 c1] at q; exact absurd q.1 (by decide)
    refine va_new (ci := 7) (fs := [.int 0, .null, .int 0, .int 0, .long 0, .long 0, .long 0, .null, .null]) (C := R_Selector) (T := F_Selector) (N := 9) hx hb hts in_Selector t_Selector t_Selector_ok hown (hts _ z_603) (hts _ z_604) (hts _ z_25) hK hP hD hS hA rfl (fun j hj => by rcases (show j = 0 ∨ j = 1 ∨ j = 2 ∨ j = 3 ∨ j = 4 ∨ j = 5 ∨ j = 6 ∨ j = 7 ∨ j = 8 by omega) with rfl | rfl | rfl | rfl | rfl | rfl | rfl | rfl | rfl <;> rfl) (by show 0 + 1 ≤ 3; omega) (by show 0 + 9 ≤ 15 + (n - i); omega) d_QueryReader_shortSelector_25 (fun q H hP hD hS => ?_)
    have hz_q := newA hAe hD (fun k x hk => by rcases k with _ | _ | _ | _ | k; (· cases hk; exact ⟨0, _, rfl⟩); (· cases hk; exact ⟨1, _, rfl⟩); (· cases hk; exact ⟨2, _, rfl⟩); (· cases hk; exact ⟨3, _, rfl⟩); (· exact ⟨k + 4, x.2, hk⟩))
    have hP := hP.swap
    have hD := hD.swap
    have hP : va_P (dC, dI) classes ([(qr, .inr (5, [.ref h0, .int (nI o)])), (h0, .inr (8, [.ref qb, .ref qu, .int uc, .int ln, .int (nI n), .int (nI i), .int pl])), (qb, .inl (cB, 4096, .inl bf)), (qu, .inl (cI, 4096, .inl ug)), (q, .inr (7, [.int 0, .null, .int 0, .int 0, .long 0, .long 0, .long 0, .null, .null]))] ++ va_pl L f) H := hP
    have hD : va_D A ([(qr, .inr (5, [.ref h0, .int (nI o)])), (h0, .inr (8, [.ref qb, .ref qu, .int uc, .int ln, .int (nI n), .int (nI i), .int pl])), (qb, .inl (cB, 4096, .inl bf)), (qu, .inl (cI, 4096, .inl ug)), (q, .inr (7, [.int 0, .null, .int 0, .int 0, .long 0, .long 0, .long 0, .null, .null]))] ++ va_pl L f) := hD
    refine lv_dup hx hb d_QueryReader_shortSelector_28 rfl ?_
    refine lv_iconst (v := 0) hx hb d_QueryReader_shortSelector_29 (by decide) ?_
    have hPc := hP.sub (ws' := [(q, .inr (7, [.int 0, .null, .int 0, .int 0, .long 0, .long 0, .long 0, .null, .null]))]) [4] rfl
    have hDc := hD.sub (ws' := [(q, .inr (7, [.int 0, .null, .int 0, .int 0, .long 0, .long 0, .long 0, .null, .null]))]) [4] (by decide) rfl
    have hFc := va_free (wc := [(q, .inr (7, [.int 0, .null, .int 0, .int 0, .long 0, .long 0, .long 0, .null, .null]))]) hD hS hA [4] rfl
    have hKc := hK.sub (tys' := []) [] rfl
    refine w_same (fun hq0 => ?_)
    refine va_callv (va_runI (As := [.int 0]) (rest := [.ref q]) ⟨hx, hb, hml, hown, hts⟩ (c_Selector_init l dC dI H q 0) (cwI 1 hts (gt_code i_Selector_init) rfl rfl rfl (hts _ z_25) (hts _ z_605) (hts _ z_606) rfl (by decide +kernel) ⟨Nat.le_of_ble_eq_true rfl, Nat.le_of_ble_eq_true rfl⟩) ⟨mp_blind, fun U hU hW => ⟨rfl, hU, by rw [hU]; exact hPc, va_K.moved hW.alike hKc, hDc.weaken (fun _ _ _ _ => trivial)⟩⟩ rfl rfl hl.1 rfl (lv_room (Nat.le_of_ble_eq_true rfl)) d_QueryReader_shortSelector_30 ⟨by show (0 + 1) + (0) ≤ 3; omega, by show (0 + 9) + (0) ≤ 15 + (n - i); omega⟩) hS (fun q _ h => hFc q h) hFc (fun _u t9 H1 locs ht hvm hw hB hz1 hk1 hS => ?_)
    obtain ⟨⟨hP1, hK1, hD1⟩, hz9⟩ := hB
    rw [ht] at hP1
    rw [ht] at hz9
    have hq0 : szk s.heap H1 ((0 + 1)) ((0 + 9)) := (hq0.trans hz9).mono (Nat.le_of_eq (Nat.add_zero _)) (Nat.le_of_eq (Nat.add_zero _))
    refine w_tight hq0 ?_
    obtain ⟨hP, hD⟩ := va_joinQ (wr := [(qr, .inr (5, [.ref h0, .int (nI o)])), (h0, .inr (8, [.ref qb, .ref qu, .int uc, .int ln, .int (nI n), .int (nI i), .int pl])), (qb, .inl (cB, 4096, .inl bf)), (qu, .inl (cI, 4096, .inl ug))]) (w1 := [(q, .inr (7, [.int 0, .null, .int 0, .int 0, .long 0, .long 0, .long 1, .null, .null]))]) hP hD [4] [0, 1, 2, 3] rfl rfl (by decide) (by decide) hk1 hFc hP1 hD1
    generalize H1 = H at hP hS hq0 ⊢
    have hP : va_P (dC, dI) classes ([(qr, .inr (5, [.ref h0, .int (nI o)])), (h0, .inr (8, [.ref qb, .ref qu, .int uc, .int ln, .int (nI n), .int (nI i), .int pl])), (qb, .inl (cB, 4096, .inl bf)), (qu, .inl (cI, 4096, .inl ug)), (q, .inr (7, [.int 0, .null, .int 0, .int 0, .long 0, .long 0, .long 1, .null, .null]))] ++ va_pl L f) H := hP
    have hD : va_D A ([(qr, .inr (5, [.ref h0, .int (nI o)])), (h0, .inr (8, [.ref qb, .ref qu, .int uc, .int ln, .int (nI n), .int (nI i), .int pl])), (qb, .inl (cB, 4096, .inl bf)), (qu, .inl (cI, 4096, .inl ug)), (q, .inr (7, [.int 0, .null, .int 0, .int 0, .long 0, .long 0, .long 1, .null, .null]))] ++ va_pl L f) := hD
    refine lv_astore_n (lv' := [(2, .ref q), (0, .ref qr), (1, .int nw)]) hx hb d_QueryReader_shortSelector_33 rfl hl (by decide) rfl (fun ls hl => ?_)
    refine lv_aload_n hx hb d_QueryReader_shortSelector_34 rfl (lv_at hl 1 rfl) ?_
    refine va_get (D := (dC, dI)) (ci := 5) (v := .ref h0) (C := R_QueryReader) (T := F_QueryReader) (N := 2) hx hb hts in_QueryReader hown hK hP 0 rfl rfl 0 (by decide) (hts _ w_100) (fun _ h9 => h9) rfl d_QueryReader_shortSelector_35 ?_
    refine va_get (D := (dC, dI)) (ci := 8) (v := .int (nI i)) (C := R_Tape) (T := F_Tape) (N := 7) hx hb hts in_Tape hown hK hP 1 rfl rfl 5 (by decide) (hts _ z_53) (fun _ h9 => h9) rfl d_QueryReader_shortSelector_38 ?_
    refine lv_istore_n (lv' := [(3, .int (nI i)), (2, .ref q), (0, .ref qr), (1, .int nw)]) hx hb d_QueryReader_shortSelector_41 rfl hl (by decide) rfl (fun ls hl => ?_)
    refine lv_aload_n hx hb d_QueryReader_shortSelector_42 rfl (lv_at hl 2 rfl) ?_
    refine va_get (D := (dC, dI)) (ci := 5) (v := .ref h0) (C := R_QueryReader) (T := F_QueryReader) (N := 2) hx hb hts in_QueryReader hown hK hP 0 rfl rfl 0 (by decide) (hts _ w_100) (fun _ h9 => h9) rfl d_QueryReader_shortSelector_43 ?_
    have hPc := hP.sub (ws' := [(h0, .inr (8, [.ref qb, .ref qu, .int uc, .int ln, .int (nI n), .int (nI i), .int pl])), (qb, .inl (cB, 4096, .inl bf))]) [1, 2] rfl
    have hDc := hD.sub (ws' := [(h0, .inr (8, [.ref qb, .ref qu, .int uc, .int ln, .int (nI n), .int (nI i), .int pl])), (qb, .inl (cB, 4096, .inl bf))]) [1, 2] (by decide) rfl
    have hFc := va_free (wc := [(h0, .inr (8, [.ref qb, .ref qu, .int uc, .int ln, .int (nI n), .int (nI i), .int pl])), (qb, .inl (cB, 4096, .inl bf))]) hD hS hA [1, 2] rfl
    have hKc := hK.sub (tys' := [(cB, .byte)]) [0] rfl
    refine va_calli (va_runV (As := []) (rest := []) ⟨hx, hb, hml, hown, hts⟩ (c_Tape_here l dC dI cB h0 qb H (.ref qu) uc ln pl bf n i hn0 (by omega)) (cwV 0 hts (gt_V (own := R_QueryReader) (C := R_Tape) (i := 19) (y := y_Tape_here) i_Tape_here z_534 w_363 w_364 w_2) rfl rfl rfl (by decide +kernel) ⟨Nat.le_of_ble_eq_true rfl, Nat.le_of_ble_eq_true rfl⟩) ⟨mp_blind, va_recv hK hP (ci := 8) (q0 := 1) rfl rfl, fun U hU hW => ⟨rfl, hU, by rw [hU]; exact hPc, va_K.moved hW.alike hKc, hDc.weaken (fun _ _ _ _ => trivial)⟩⟩ rfl rfl hl.1 rfl (lv_room (Nat.le_of_ble_eq_true rfl)) d_QueryReader_shortSelector_46 ⟨by show (0 + 1) + (0) ≤ 3; omega, by show (0 + 9) + (0) ≤ 15 + (n - i); omega⟩) hS (fun q _ h => hFc q h) hFc (fun h21 _u t9 H1 locs ht hvm hw hB hz1 hk1 hS => ?_)
    obtain ⟨hP1, hK1, hD1⟩ := hB
    rw [ht] at hP1
    obtain ⟨hP, hD⟩ := va_joinQ (wr := [(qr, .inr (5, [.ref h0, .int (nI o)])), (qu, .inl (cI, 4096, .inl ug)), (q, .inr (7, [.int 0, .null, .int 0, .int 0, .long 0, .long 0, .long 1, .null, .null]))]) (w1 := [(h0, .inr (8, [.ref qb, .ref qu, .int uc, .int ln, .int (nI n), .int (nI i), .int pl])), (qb, .inl (cB, 4096, .inl bf))]) hP hD [1, 2] [0, 3, 4] rfl rfl (by decide) (by decide) hk1 hFc hP1 hD1
    generalize H1 = H at hP hS ⊢
    have hP : va_P (dC, dI) classes ([(qr, .inr (5, [.ref h0, .int (nI o)])), (qu, .inl (cI, 4096, .inl ug)), (q, .inr (7, [.int 0, .null, .int 0, .int 0, .long 0, .long 0, .long 1, .null, .null])), (h0, .inr (8, [.ref qb, .ref qu, .int uc, .int ln, .int (nI n), .int (nI i), .int pl])), (qb, .inl (cB, 4096, .inl bf))] ++ va_pl L f) H := hP
    have hD : va_D A ([(qr, .inr (5, [.ref h0, .int (nI o)])), (qu, .inl (cI, 4096, .inl ug)), (q, .inr (7, [.int 0, .null, .int 0, .int 0, .long 0, .long 0, .long 1, .null, .null])), (h0, .inr (8, [.ref qb, .ref qu, .int uc, .int ln, .int (nI n), .int (nI i), .int pl])), (qb, .inl (cB, 4096, .inl bf))] ++ va_pl L f) := hD
    have hP := hP.part (cx := [(qr, .inr (5, [.ref h0, .int (nI o)])), (h0, .inr (8, [.ref qb, .ref qu, .int uc, .int ln, .int (nI n), .int (nI i), .int pl])), (qb, .inl (cB, 4096, .inl bf)), (qu, .inl (cI, 4096, .inl ug)), (q, .inr (7, [.int 0, .null, .int 0, .int 0, .long 0, .long 0, .long 1, .null, .null]))]) [0, 3, 4, 1, 2] rfl
    have hD := hD.part (cx := [(qr, .inr (5, [.ref h0, .int (nI o)])), (h0, .inr (8, [.ref qb, .ref qu, .int uc, .int ln, .int (nI n), .int (nI i), .int pl])), (qb, .inl (cB, 4096, .inl bf)), (qu, .inl (cI, 4096, .inl ug)), (q, .inr (7, [.int 0, .null, .int 0, .int 0, .long 0, .long 0, .long 1, .null, .null]))]) [0, 3, 4, 1, 2] (by decide) rfl
    have h_h21 : h21 = hereV bf n i := hw
    refine vp_callSi (va_Run.run (va_runS (As := [.int h21]) (rest := []) ⟨hx, hb, hml, hown, hts⟩ (c_QueryReader_isNameByte l dC dI H h21) (va_cwS 1 hts (gt_S (own := R_QueryReader) (i := 81) (y := y_QueryReader_isNameByte) i_QueryReader_isNameByte z_793 z_794 w_4) rfl rfl rfl (by decide +kernel) ⟨Nat.le_of_ble_eq_true rfl, Nat.le_of_ble_eq_true rfl⟩) ⟨mT_blind, fun U hU hW => ⟨rfl, hN.warm hW⟩⟩ rfl rfl hl.1 rfl (lv_room (Nat.le_of_ble_eq_true rfl)) d_QueryReader_shortSelector_49 ⟨by show (0 + 1) + (0) ≤ 3; omega, by show (0 + 9) + (0) ≤ 15 + (n - i); omega⟩)) (fun r22 h_r22 => ?_)
    refine lv_if_eq (tgt := 68) hx hb d_QueryReader_shortSelector_52 (by decide) (fun c52 => ?_) (fun c52 => ?_)
    · refine lv_aload_n hx hb d_QueryReader_shortSelector_68 rfl (lv_at hl 2 rfl) ?_
      refine va_get (D := (dC, dI)) (ci := 5) (v := .ref h0) (C := R_QueryReader) (T := F_QueryReader) (N := 2) hx hb hts in_QueryReader hown hK hP 0 rfl rfl 0 (by decide) (hts _ w_100) (fun _ h9 => h9) rfl d_QueryReader_shortSelector_69 ?_
      refine lv_iload_n hx hb d_QueryReader_shortSelector_72 rfl (lv_at hl 0 rfl) ?_
      have hPc := hP.sub (ws' := [(h0, .inr (8, [.ref qb, .ref qu, .int uc, .int ln, .int (nI n), .int (nI i), .int pl])), (qb, .inl (cB, 4096, .inl bf))]) [1, 2] rfl
      have hDc := hD.sub (ws' := [(h0, .inr (8, [.ref qb, .ref qu, .int uc, .int ln, .int (nI n), .int (nI i), .int pl])), (qb, .inl (cB, 4096, .inl bf))]) [1, 2] (by decide) rfl
      have hFc := va_free (wc := [(h0, .inr (8, [.ref qb, .ref qu, .int uc, .int ln, .int (nI n), .int (nI i), .int pl])), (qb, .inl (cB, 4096, .inl bf))]) hD hS hA [1, 2] rfl
      have hKc := hK.sub (tys' := [(cB, .byte)]) [0] rfl
      refine w_same (fun hq0 => ?_)
      refine vx_callv (vx_runV (As := [.int (nI i)]) (rest := []) ⟨hx, hb, hml, hown, hts⟩ (c_Tape_fail l hl9 dC dI cB h0 qb H (.ref qu) uc ln (nI n) (nI i) pl bf ((nI i))) (cwV 1 hts (gt_V (own := R_QueryReader) (C := R_Tape) (i := 28) (y := y_Tape_fail) i_Tape_fail z_535 w_371 w_372 w_2) rfl rfl rfl (by decide +kernel) ⟨Nat.le_of_ble_eq_true rfl, Nat.le_of_ble_eq_true rfl⟩) ⟨mx_blind, va_recv hK hP (ci := 8) (q0 := 1) rfl rfl, fun U hU hW => ⟨rfl, ⟨hU, by rw [hU]; exact hPc, va_K.moved hW.alike hKc, hDc.weaken (fun _ _ _ _ => trivial)⟩, hN.warm hW, by rw [hU]; exact ZX.moved' hW.alike (ZX.narrow' (ZX.kept' hZ hS.2.1) hFc)⟩⟩ rfl rfl hl.1 rfl (lv_room (Nat.le_of_ble_eq_true rfl)) d_QueryReader_shortSelector_73 ⟨by show (0 + 1) + (1) ≤ 3; omega, by show (0 + 9) + (6) ≤ 15 + (n - i); omega⟩) hS (fun q _ h => hFc q h) hFc (fun q _ h => hFc q h) (fun En ce q9 _u t9 H1 locs ht hvm hw hB hz1 hk1 hS hce hcv hcl => ?_) (fun _u t9 H1 locs ht hvm hw hB hz1 hk1 hS => ?_)
      · obtain ⟨hEn, hP1, hK1, hD1⟩ := hB
        rw [ht] at hP1
        obtain ⟨hP, hD⟩ := va_joinQ (wr := [(qr, .inr (5, [.ref h0, .int (nI o)])), (qu, .inl (cI, 4096, .inl ug)), (q, .inr (7, [.int 0, .null, .int 0, .int 0, .long 0, .long 0, .long 1, .null, .null]))]) (w1 := [(h0, .inr (8, [.ref qb, .ref qu, .int uc, .int ln, .int (nI n), .int (nI i), .int (nI i)])), (qb, .inl (cB, 4096, .inl bf))]) hP hD [1, 2] [0, 3, 4] rfl rfl (by decide) (by decide) hk1 hFc hP1 hD1
        generalize H1 = H at hP hS hce ⊢
        have hP : va_P (dC, dI) classes ([(qr, .inr (5, [.ref h0, .int (nI o)])), (qu, .inl (cI, 4096, .inl ug)), (q, .inr (7, [.int 0, .null, .int 0, .int 0, .long 0, .long 0, .long 1, .null, .null])), (h0, .inr (8, [.ref qb, .ref qu, .int uc, .int ln, .int (nI n), .int (nI i), .int (nI i)])), (qb, .inl (cB, 4096, .inl bf))] ++ va_pl L f) H := hP
        have hD : va_D A ([(qr, .inr (5, [.ref h0, .int (nI o)])), (qu, .inl (cI, 4096, .inl ug)), (q, .inr (7, [.int 0, .null, .int 0, .int 0, .long 0, .long 0, .long 1, .null, .null])), (h0, .inr (8, [.ref qb, .ref qu, .int uc, .int ln, .int (nI n), .int (nI i), .int (nI i)])), (qb, .inl (cB, 4096, .inl bf))] ++ va_pl L f) := hD
        have hP := hP.part (cx := [(qr, .inr (5, [.ref h0, .int (nI o)])), (h0, .inr (8, [.ref qb, .ref qu, .int uc, .int ln, .int (nI n), .int (nI i), .int (nI i)])), (qb, .inl (cB, 4096, .inl bf)), (qu, .inl (cI, 4096, .inl ug)), (q, .inr (7, [.int 0, .null, .int 0, .int 0, .long 0, .long 0, .long 1, .null, .null]))]) [0, 3, 4, 1, 2] rfl
        have hD := hD.part (cx := [(qr, .inr (5, [.ref h0, .int (nI o)])), (h0, .inr (8, [.ref qb, .ref qu, .int uc, .int ln, .int (nI n), .int (nI i), .int (nI i)])), (qb, .inl (cB, 4096, .inl bf)), (qu, .inl (cI, 4096, .inl ug)), (q, .inr (7, [.int 0, .null, .int 0, .int 0, .long 0, .long 0, .long 1, .null, .null]))]) [0, 3, 4, 1, 2] (by decide) rfl
        have hP := hP.part (cx := [(qr, .inr (5, [.ref h0, .int (nI o)])), (h0, .inr (8, [.ref qb, .ref qu, .int uc, .int ln, .int (nI n), .int (nI i), .int (nI i)])), (qb, .inl (cB, 4096, .inl bf)), (qu, .inl (cI, 4096, .inl ug))]) [0, 1, 2, 3] rfl
        have hD := hD.part (cx := [(qr, .inr (5, [.ref h0, .int (nI o)])), (h0, .inr (8, [.ref qb, .ref qu, .int uc, .int ln, .int (nI n), .int (nI i), .int (nI i)])), (qb, .inl (cB, 4096, .inl bf)), (qu, .inl (cI, 4096, .inl ug))]) [0, 1, 2, 3] (by decide) rfl
        have hno : shD bf n (nwB nw) i = none := shD_0 hns (fun q => h_r22.2.2 c52 (Or.inl (by rw [h_h21]; exact q)))
        exact vx_out (fun x hx => (hex x hx).elim) hlocks hce hcv hcl (fun t9 ht2 ha => ⟨(nI i, uc, (nI i), ug, nI o), hno, ⟨hEn, by rw [ht2]; exact hP, va_K.moved ha hK, hD⟩, hS.F ht2⟩) hS.2.2 (by show (0 + 1) + (1) ≤ 3; omega) (by show (0 + 9) + (6) ≤ 15 + (n - i); omega)
      · obtain ⟨⟨hP1, hK1, hD1⟩, hz9⟩ := hB
        rw [ht] at hP1
        rw [ht] at hz9
        refine w_tight (hq0.trans hz9) ?_
        have hq0 := hq0.trans hz9
        obtain ⟨hP, hD⟩ := va_joinQ (wr := [(qr, .inr (5, [.ref h0, .int (nI o)])), (qu, .inl (cI, 4096, .inl ug)), (q, .inr (7, [.int 0, .null, .int 0, .int 0, .long 0, .long 0, .long 1, .null, .null]))]) (w1 := [(h0, .inr (8, [.ref qb, .ref qu, .int uc, .int ln, .int (nI n), .int (nI i), .int pl])), (qb, .inl (cB, 4096, .inl bf))]) hP hD [1, 2] [0, 3, 4] rfl rfl (by decide) (by decide) hk1 hFc hP1 hD1
        generalize H1 = H at hP hS hq0 ⊢
        have hP : va_P (dC, dI) classes ([(qr, .inr (5, [.ref h0, .int (nI o)])), (qu, .inl (cI, 4096, .inl ug)), (q, .inr (7, [.int 0, .null, .int 0, .int 0, .long 0, .long 0, .long 1, .null, .null])), (h0, .inr (8, [.ref qb, .ref qu, .int uc, .int ln, .int (nI n), .int (nI i), .int pl])), (qb, .inl (cB, 4096, .inl bf))] ++ va_pl L f) H := hP
        have hD : va_D A ([(qr, .inr (5, [.ref h0, .int (nI o)])), (qu, .inl (cI, 4096, .inl ug)), (q, .inr (7, [.int 0, .null, .int 0, .int 0, .long 0, .long 0, .long 1, .null, .null])), (h0, .inr (8, [.ref qb, .ref qu, .int uc, .int ln, .int (nI n), .int (nI i), .int pl])), (qb, .inl (cB, 4096, .inl bf))] ++ va_pl L f) := hD
        have hP := hP.part (cx := [(qr, .inr (5, [.ref h0, .int (nI o)])), (h0, .inr (8, [.ref qb, .ref qu, .int uc, .int ln, .int (nI n), .int (nI i), .int pl])), (qb, .inl (cB, 4096, .inl bf)), (qu, .inl (cI, 4096, .inl ug)), (q, .inr (7, [.int 0, .null, .int 0, .int 0, .long 0, .long 0, .long 1, .null, .null]))]) [0, 3, 4, 1, 2] rfl
        have hD := hD.part (cx := [(qr, .inr (5, [.ref h0, .int (nI o)])), (h0, .inr (8, [.ref qb, .ref qu, .int uc, .int ln, .int (nI n), .int (nI i), .int pl])), (qb, .inl (cB, 4096, .inl bf)), (qu, .inl (cI, 4096, .inl ug)), (q, .inr (7, [.int 0, .null, .int 0, .int 0, .long 0, .long 0, .long 1, .null, .null]))]) [0, 3, 4, 1, 2] (by decide) rfl
        exact hw.elim
    · have hnb : letH (hereV bf n i) ∨ digH (hereV bf n i) := by rw [← h_h21]; exact h_r22.2.1 c52
      refine lv_aload_n hx hb d_QueryReader_shortSelector_55 rfl (lv_at hl 2 rfl) ?_
      refine va_get (D := (dC, dI)) (ci := 5) (v := .ref h0) (C := R_QueryReader) (T := F_QueryReader) (N := 2) hx hb hts in_QueryReader hown hK hP 0 rfl rfl 0 (by decide) (hts _ w_100) (fun _ h9 => h9) rfl d_QueryReader_shortSelector_56 ?_
      have hPc := hP.sub (ws' := [(h0, .inr (8, [.ref qb, .ref qu, .int uc, .int ln, .int (nI n), .int (nI i), .int pl])), (qb, .inl (cB, 4096, .inl bf))]) [1, 2] rfl
      have hDc := hD.sub (ws' := [(h0, .inr (8, [.ref qb, .ref qu, .int uc, .int ln, .int (nI n), .int (nI i), .int pl])), (qb, .inl (cB, 4096, .inl bf))]) [1, 2] (by decide) rfl
      have hFc := va_free (wc := [(h0, .inr (8, [.ref qb, .ref qu, .int uc, .int ln, .int (nI n), .int (nI i), .int pl])), (qb, .inl (cB, 4096, .inl bf))]) hD hS hA [1, 2] rfl
      have hKc := hK.sub (tys' := [(cB, .byte)]) [0] rfl
      refine va_calli (va_runV (As := []) (rest := []) ⟨hx, hb, hml, hown, hts⟩ (c_Tape_here l dC dI cB h0 qb H (.ref qu) uc ln pl bf n i hn0 (by omega)) (cwV 0 hts (gt_V (own := R_QueryReader) (C := R_Tape) (i := 19) (y := y_Tape_here) i_Tape_here z_534 w_363 w_364 w_2) rfl rfl rfl (by decide +kernel) ⟨Nat.le_of_ble_eq_true rfl, Nat.le_of_ble_eq_true rfl⟩) ⟨mp_blind, va_recv hK hP (ci := 8) (q0 := 1) rfl rfl, fun U hU hW => ⟨rfl, hU, by rw [hU]; exact hPc, va_K.moved hW.alike hKc, hDc.weaken (fun _ _ _ _ => trivial)⟩⟩ rfl rfl hl.1 rfl (lv_room (Nat.le_of_ble_eq_true rfl)) d_QueryReader_shortSelector_59 ⟨by show (0 + 1) + (0) ≤ 3; omega, by show (0 + 9) + (0) ≤ 15 + (n - i); omega⟩) hS (fun q _ h => hFc q h) hFc (fun h23 _u t9 H1 locs ht hvm hw hB hz1 hk1 hS => ?_)
      obtain ⟨hP1, hK1, hD1⟩ := hB
      rw [ht] at hP1
      obtain ⟨hP, hD⟩ := va_joinQ (wr := [(qr, .inr (5, [.ref h0, .int (nI o)])), (qu, .inl (cI, 4096, .inl ug)), (q, .inr (7, [.int 0, .null, .int 0, .int 0, .long 0, .long 0, .long 1, .null, .null]))]) (w1 := [(h0, .inr (8, [.ref qb, .ref qu, .int uc, .int ln, .int (nI n), .int (nI i), .int pl])), (qb, .inl (cB, 4096, .inl bf))]) hP hD [1, 2] [0, 3, 4] rfl rfl (by decide) (by decide) hk1 hFc hP1 hD1
      generalize H1 = H at hP hS ⊢
      have hP : va_P (dC, dI) classes ([(qr, .inr (5, [.ref h0, .int (nI o)])), (qu, .inl (cI, 4096, .inl ug)), (q, .inr (7, [.int 0, .null, .int 0, .int 0, .long 0, .long 0, .long 1, .null, .null])), (h0, .inr (8, [.ref qb, .ref qu, .int uc, .int ln, .int (nI n), .int (nI i), .int pl])), (qb, .inl (cB, 4096, .inl bf))] ++ va_pl L f) H := hP
      have hD : va_D A ([(qr, .inr (5, [.ref h0, .int (nI o)])), (qu, .inl (cI, 4096, .inl ug)), (q, .inr (7, [.int 0, .null, .int 0, .int 0, .long 0, .long 0, .long 1, .null, .null])), (h0, .inr (8, [.ref qb, .ref qu, .int uc, .int ln, .int (nI n), .int (nI i), .int pl])), (qb, .inl (cB, 4096, .inl bf))] ++ va_pl L f) := hD
      have hP := hP.part (cx := [(qr, .inr (5, [.ref h0, .int (nI o)])), (h0, .inr (8, [.ref qb, .ref qu, .int uc, .int ln, .int (nI n), .int (nI i), .int pl])), (qb, .inl (cB, 4096, .inl bf)), (qu, .inl (cI, 4096, .inl ug)), (q, .inr (7, [.int 0, .null, .int 0, .int 0, .long 0, .long 0, .long 1, .null, .null]))]) [0, 3, 4, 1, 2] rfl
      have hD := hD.part (cx := [(qr, .inr (5, [.ref h0, .int (nI o)])), (h0, .inr (8, [.ref qb, .ref qu, .int uc, .int ln, .int (nI n), .int (nI i), .int pl])), (qb, .inl (cB, 4096, .inl bf)), (qu, .inl (cI, 4096, .inl ug)), (q, .inr (7, [.int 0, .null, .int 0, .int 0, .long 0, .long 0, .long 1, .null, .null]))]) [0, 3, 4, 1, 2] (by decide) rfl
      have h_h23 : h23 = hereV bf n i := hw
      refine vp_callSi (va_Run.run (va_runSN (As := [.int h23]) (rest := []) ⟨hx, hb, hml, hown, hts⟩ (g_QB_isDigit l dC dI H h23) (⟨va_cnB (host := "QueryBench") 1 hts (gt_code i_QB_isDigit) rfl rfl rfl (hN _ nz_780) (hts _ w_1) (by decide +kernel) ⟨Nat.le_of_ble_eq_true rfl, Nat.le_of_ble_eq_true rfl⟩, hts _ w_510, trivial⟩) ⟨mT_blind, fun U hU hW => ⟨rfl, hN.warm hW⟩⟩ rfl rfl hl.1 rfl (lv_room (Nat.le_of_ble_eq_true rfl)) d_QueryReader_shortSelector_62 ⟨by show (0 + 1) + (0) ≤ 3; omega, by show (0 + 9) + (0) ≤ 15 + (n - i); omega⟩)) (fun r24 h_r24 => ?_)
      refine lv_if_eq (tgt := 76) hx hb d_QueryReader_shortSelector_65 (by decide) (fun c65 => ?_) (fun c65 => ?_)
      · have hlet : letH (hereV bf n i) := hnb.resolve_right (by rw [← h_h23]; exact h_r24.2.2 c65)
        refine w_loop (D := (dC, dI)) (cl := classes) (A := A) (H0 := s.heap) (nL := 5) 76 (σ := Nat) (fun p => (i ≤ p ∧ p ≤ n) ∧ nmC bf n (n - i) i = nmC bf n (n - p) p) (fun p => n - p) (fun p => [(qr, .inr (5, [.ref h0, .int (nI o)])), (h0, .inr (8, [.ref qb, .ref qu, .int uc, .int ln, .int (nI n), .int (nI p), .int pl])), (qb, .inl (cB, 4096, .inl bf)), (qu, .inl (cI, 4096, .inl ug)), (q, .inr (7, [.int 0, .null, .int 0, .int 0, .long 0, .long 0, .long 1, .null, .null]))] ++ va_pl L f) (fun p => [(0, .ref qr), (2, .ref q), (3, .int (nI i))]) ?_ i ⟨⟨Nat.le_refl _, by omega⟩, rfl⟩ hP hD hS (lv_sub hl [2, 1, 0] rfl)
        rintro p H locs ls hI ih hP hD hS hl
        have hP : va_P (dC, dI) classes ([(qr, .inr (5, [.ref h0, .int (nI o)])), (h0, .inr (8, [.ref qb, .ref qu, .int uc, .int ln, .int (nI n), .int (nI p), .int pl])), (qb, .inl (cB, 4096, .inl bf)), (qu, .inl (cI, 4096, .inl ug)), (q, .inr (7, [.int 0, .null, .int 0, .int 0, .long 0, .long 0, .long 1, .null, .null]))] ++ va_pl L f) H := hP
        have hD : va_D A ([(qr, .inr (5, [.ref h0, .int (nI o)])), (h0, .inr (8, [.ref qb, .ref qu, .int uc, .int ln, .int (nI n), .int (nI p), .int pl])), (qb, .inl (cB, 4096, .inl bf)), (qu, .inl (cI, 4096, .inl ug)), (q, .inr (7, [.int 0, .null, .int 0, .int 0, .long 0, .long 0, .long 1, .null, .null]))] ++ va_pl L f) := hD
        have hl : lv_has ls 5 [(0, .ref qr), (2, .ref q), (3, .int (nI i))] := hl
        obtain ⟨⟨hp1, hp2⟩, hnm⟩ := hI
        have hnm : nmC bf n (n - i) i = nmC bf n (n - p) p := hnm
        have hp1 : i ≤ p := hp1
        have hp2 : p ≤ n := hp2
        refine lv_aload_n hx hb d_QueryReader_shortSelector_76 rfl (lv_at hl 0 rfl) ?_
        refine va_get (D := (dC, dI)) (ci := 5) (v := .ref h0) (C := R_QueryReader) (T := F_QueryReader) (N := 2) hx hb hts in_QueryReader hown hK hP 0 rfl rfl 0 (by decide) (hts _ w_100) (fun _ h9 => h9) rfl d_QueryReader_shortSelector_77 ?_
        refine va_get (D := (dC, dI)) (ci := 8) (v := .int (nI p)) (C := R_Tape) (T := F_Tape) (N := 7) hx hb hts in_Tape hown hK hP 1 rfl rfl 5 (by decide) (hts _ z_53) (fun _ h9 => h9) rfl d_QueryReader_shortSelector_80 ?_
        refine lv_aload_n hx hb d_QueryReader_shortSelector_83 rfl (lv_at hl 0 rfl) ?_
        refine va_get (D := (dC, dI)) (ci := 5) (v := .ref h0) (C := R_QueryReader) (T := F_QueryReader) (N := 2) hx hb hts in_QueryReader hown hK hP 0 rfl rfl 0 (by decide) (hts _ w_100) (fun _ h9 => h9) rfl d_QueryReader_shortSelector_84 ?_
        refine va_get (D := (dC, dI)) (ci := 8) (v := .int (nI n)) (C := R_Tape) (T := F_Tape) (N := 7) hx hb hts in_Tape hown hK hP 1 rfl rfl 4 (by decide) (hts _ z_50) (fun _ h9 => h9) rfl d_QueryReader_shortSelector_87 ?_
        refine lv_icmp_ge (tgt := 122) hx hb d_QueryReader_shortSelector_90 (by decide) (fun c90 => ?_) (fun c90 => ?_)
        · have hne : nmC bf n (n - i) i = p := hnm.trans (nmC_n (by rw [nI_leI (by omega) (by omega)] at c90; omega))
          refine lv_aload_n hx hb d_QueryReader_shortSelector_122 rfl (lv_at hl 1 rfl) ?_
          refine lv_aload_n hx hb d_QueryReader_shortSelector_123 rfl (lv_at hl 0 rfl) ?_
          refine va_get (D := (dC, dI)) (ci := 5) (v := .ref h0) (C := R_QueryReader) (T := F_QueryReader) (N := 2) hx hb hts in_QueryReader hown hK hP 0 rfl rfl 0 (by decide) (hts _ w_100) (fun _ h9 => h9) rfl d_QueryReader_shortSelector_124 ?_
          refine va_get (D := (dC, dI)) (ci := 8) (v := .int (nI p)) (C := R_Tape) (T := F_Tape) (N := 7) hx hb hts in_Tape hown hK hP 1 rfl rfl 5 (by decide) (hts _ z_53) (fun _ h9 => h9) rfl d_QueryReader_shortSelector_127 ?_
          refine lv_iload_n hx hb d_QueryReader_shortSelector_130 rfl (lv_at hl 2 rfl) ?_
          refine lv_isub hx hb d_QueryReader_shortSelector_131 ?_
          refine W.eq (g2 := F0 m 132 ls [.int (nI (p - i)), .ref q]) (by rw [show ((nI p) - (nI i)) = (nI (p - i)) from (pk_sub (by omega))]) ?_
          refine va_newa (atype := .int) (ty := .int) (N' := (p - i)) (a0 := ((p - i), .inl (fun _ => 0))) hx hb (hts _ w_73) rfl hK hP hD hS hA (fun _ => rfl) (nI_pos (by omega)) (nI_clamp (by omega)) (by show (p - i) * 4 ≤ 536870912; omega) (by show (0 + 1) + 1 ≤ 3; omega) (by show (0 + 9) + (p - i) ≤ 15 + (n - i); omega) d_QueryReader_shortSelector_132 (fun qn cA H hK hP hD hS => ?_)
          obtain rfl : cI = cA := Option.some.inj ((hK.2 1 _ rfl).2.symm.trans (hK.2 3 _ rfl).2)
          have hK := hK.sub (tys' := [(cB, .byte), (cI, .int), (cV, .object "QueryBench$Value")]) [0, 1, 2] rfl
          have hz_qn := newA hAe hD (fun k x hk => by rcases k with _ | _ | _ | _ | k; (· cases hk; exact ⟨0, _, rfl⟩); (· cases hk; exact ⟨1, _, rfl⟩); (· cases hk; exact ⟨2, _, rfl⟩); (· cases hk; exact ⟨3, _, rfl⟩); (· exact ⟨k + 5, x.2, hk⟩))
          have hP := hP.swap
          have hD := hD.swap
          have hP : va_P (dC, dI) classes ([(qr, .inr (5, [.ref h0, .int (nI o)])), (h0, .inr (8, [.ref qb, .ref qu, .int uc, .int ln, .int (nI n), .int (nI p), .int pl])), (qb, .inl (cB, 4096, .inl bf)), (qu, .inl (cI, 4096, .inl ug)), (q, .inr (7, [.int 0, .null, .int 0, .int 0, .long 0, .long 0, .long 1, .null, .null])), (qn, .inl (cI, (p - i), .inl (fun _ => 0)))] ++ va_pl L f) H := hP
          have hD : va_D A ([(qr, .inr (5, [.ref h0, .int (nI o)])), (h0, .inr (8, [.ref qb, .ref qu, .int uc, .int ln, .int (nI n), .int (nI p), .int pl])), (qb, .inl (cB, 4096, .inl bf)), (qu, .inl (cI, 4096, .inl ug)), (q, .inr (7, [.int 0, .null, .int 0, .int 0, .long 0, .long 0, .long 1, .null, .null])), (qn, .inl (cI, (p - i), .inl (fun _ => 0)))] ++ va_pl L f) := hD
          refine va_put (D := (dC, dI)) (ci := 7) (v := .ref qn) (ty := .array .int) (C := R_Selector) (T := F_Selector) (N := 9) hx hb hts in_Selector t_Selector t_Selector_ok n_Selector hown hK hP hD hS 4 rfl rfl 1 (by decide) (hts _ z_613) (fun _ h9 => h9) rfl (by decide +kernel) rfl rfl (Nat.le_of_ble_eq_true rfl) d_QueryReader_shortSelector_134 (fun H locs hP hD hS => ?_)
          have hP : va_P (dC, dI) classes ([(qr, .inr (5, [.ref h0, .int (nI o)])), (h0, .inr (8, [.ref qb, .ref qu, .int uc, .int ln, .int (nI n), .int (nI p), .int pl])), (qb, .inl (cB, 4096, .inl bf)), (qu, .inl (cI, 4096, .inl ug)), (q, .inr (7, [.int 0, .ref qn, .int 0, .int 0, .long 0, .long 0, .long 1, .null, .null])), (qn, .inl (cI, (p - i), .inl (fun _ => 0)))] ++ va_pl L f) H := hP
          have hD : va_D A ([(qr, .inr (5, [.ref h0, .int (nI o)])), (h0, .inr (8, [.ref qb, .ref qu, .int uc, .int ln, .int (nI n), .int (nI p), .int pl])), (qb, .inl (cB, 4096, .inl bf)), (qu, .inl (cI, 4096, .inl ug)), (q, .inr (7, [.int 0, .ref qn, .int 0, .int 0, .long 0, .long 0, .long 1, .null, .null])), (qn, .inl (cI, (p - i), .inl (fun _ => 0)))] ++ va_pl L f) := hD
          refine lv_iconst (v := 0) hx hb d_QueryReader_shortSelector_137 (by decide) ?_
          refine lv_istore (lv' := [(4, .int 0), (0, .ref qr), (2, .ref q), (3, .int (nI i))]) hx hb d_QueryReader_shortSelector_138 hl (by decide) rfl (fun ls hl => ?_)
          refine w_loop (D := (dC, dI)) (cl := classes) (A := A) (H0 := s.heap) (nL := 5) 140 (σ := Nat × (Nat → Int32)) (fun ⟨j, g⟩ => j ≤ (p - i) ∧ ∀ a, a < j → g a = bf (i + a)) (fun ⟨j, g⟩ => (p - i) - j) (fun ⟨j, g⟩ => [(qr, .inr (5, [.ref h0, .int (nI o)])), (h0, .inr (8, [.ref qb, .ref qu, .int uc, .int ln, .int (nI n), .int (nI p), .int pl])), (qb, .inl (cB, 4096, .inl bf)), (qu, .inl (cI, 4096, .inl ug)), (q, .inr (7, [.int 0, .ref qn, .int 0, .int 0, .long 0, .long 0, .long 1, .null, .null])), (qn, .inl (cI, (p - i), .inl g))] ++ va_pl L f) (fun ⟨j, g⟩ => [(0, .ref qr), (2, .ref q), (3, .int (nI i)), (4, .int (nI j))]) ?_ (0, fun _ => 0) ⟨Nat.zero_le _, fun a h => absurd h (Nat.not_lt_zero _)⟩ hP hD hS (lv_sub hl [1, 2, 3, 0] rfl)
          rintro ⟨j, g⟩ H locs ls hI ih hP hD hS hl
          have hP : va_P (dC, dI) classes ([(qr, .inr (5, [.ref h0, .int (nI o)])), (h0, .inr (8, [.ref qb, .ref qu, .int uc, .int ln, .int (nI n), .int (nI p), .int pl])), (qb, .inl (cB, 4096, .inl bf)), (qu, .inl (cI, 4096, .inl ug)), (q, .inr (7, [.int 0, .ref qn, .int 0, .int 0, .long 0, .long 0, .long 1, .null, .null])), (qn, .inl (cI, (p - i), .inl g))] ++ va_pl L f) H := hP
          have hD : va_D A ([(qr, .inr (5, [.ref h0, .int (nI o)])), (h0, .inr (8, [.ref qb, .ref qu, .int uc, .int ln, .int (nI n), .int (nI p), .int pl])), (qb, .inl (cB, 4096, .inl bf)), (qu, .inl (cI, 4096, .inl ug)), (q, .inr (7, [.int 0, .ref qn, .int 0, .int 0, .long 0, .long 0, .long 1, .null, .null])), (qn, .inl (cI, (p - i), .inl g))] ++ va_pl L f) := hD
          have hl : lv_has ls 5 [(0, .ref qr), (2, .ref q), (3, .int (nI i)), (4, .int (nI j))] := hl
          obtain ⟨hj, hgu⟩ := hI
          have hj : j ≤ (p - i) := hj
          refine lv_iload hx hb d_QueryReader_shortSelector_140 (lv_at hl 3 rfl) ?_
          refine lv_aload_n hx hb d_QueryReader_shortSelector_142 rfl (lv_at hl 1 rfl) ?_
          refine va_get (D := (dC, dI)) (ci := 7) (v := .ref qn) (C := R_Selector) (T := F_Selector) (N := 9) hx hb hts in_Selector hown hK hP 4 rfl rfl 1 (by decide) (hts _ z_613) (fun _ h9 => h9) rfl d_QueryReader_shortSelector_143 ?_
          refine va_alen (v := nI (p - i)) hx hb hK hP 5 1 rfl rfl rfl d_QueryReader_shortSelector_146 ?_
          refine lv_icmp_ge (tgt := 175) hx hb d_QueryReader_shortSelector_147 (by decide) (fun c147 => ?_) (fun c147 => ?_)
          · refine lv_aload_n hx hb d_QueryReader_shortSelector_175 rfl (lv_at hl 1 rfl) ?_
            have hgu9 : ∀ a, a < p - i → g a = bf (i + a) := fun a ha => hgu a (by rw [nI_leI (by omega) (by omega)] at c147; omega)
            have hqnL := plD_new (X := [(qr, .inr (5, [.ref h0, .int (nI o)])), (h0, .inr (8, [.ref qb, .ref qu, .int uc, .int ln, .int (nI n), .int (nI p), .int pl])), (qb, .inl (cB, 4096, .inl bf)), (qu, .inl (cI, 4096, .inl ug)), (q, .inr (7, [.int 0, .ref qn, .int 0, .int 0, .long 0, .long 0, .long 1, .null, .null]))]) hD
            have hqn0 : E qn = 0 := Classical.byContradiction (fun h => hqnL (hO.inL h))
            have hP := plP_push (X := [(qr, .inr (5, [.ref h0, .int (nI o)])), (h0, .inr (8, [.ref qb, .ref qu, .int uc, .int ln, .int (nI n), .int (nI p), .int pl])), (qb, .inl (cB, 4096, .inl bf)), (qu, .inl (cI, 4096, .inl ug)), (q, .inr (7, [.int 0, .ref qn, .int 0, .int 0, .long 0, .long 0, .long 1, .null, .null]))]) hP hqnL
            have hD := plD_push (X := [(qr, .inr (5, [.ref h0, .int (nI o)])), (h0, .inr (8, [.ref qb, .ref qu, .int uc, .int ln, .int (nI n), .int (nI p), .int pl])), (qb, .inl (cB, 4096, .inl bf)), (qu, .inl (cI, 4096, .inl ug)), (q, .inr (7, [.int 0, .ref qn, .int 0, .int 0, .long 0, .long 0, .long 1, .null, .null]))]) hD hqnL
            have hqL := plD_new (X := [(qr, .inr (5, [.ref h0, .int (nI o)])), (h0, .inr (8, [.ref qb, .ref qu, .int uc, .int ln, .int (nI n), .int (nI p), .int pl])), (qb, .inl (cB, 4096, .inl bf)), (qu, .inl (cI, 4096, .inl ug))]) hD
            have hq0 : va_up E qn 4 q = 0 := by
              have hG0 : QG cI cV E lv L f i n p s.heap.size [] E lv f := (QG.rf hO hin).mv (by omega) (by omega)
              have hG1 := hG0.add (q := qn) (s := 4) (b := 0) (e := tE cI (p - i) g) hqn0 (by rw [List.append_nil]; exact hqnL) hz_qn (by decide) (by decide) (CO.T (va_up_self _ _ _) ⟨_, _, rfl, by omega⟩)
              exact Classical.byContradiction (fun h => hqL (by have := hG1.po.inL h; exact this))
            have hqq : qn ≠ q := fun e => by rw [← e, va_up_self] at hq0; cases hq0
            have hP := plP_push (X := [(qr, .inr (5, [.ref h0, .int (nI o)])), (h0, .inr (8, [.ref qb, .ref qu, .int uc, .int ln, .int (nI n), .int (nI p), .int pl])), (qb, .inl (cB, 4096, .inl bf)), (qu, .inl (cI, 4096, .inl ug))]) hP hqL
            have hD := plD_push (X := [(qr, .inr (5, [.ref h0, .int (nI o)])), (h0, .inr (8, [.ref qb, .ref qu, .int uc, .int ln, .int (nI n), .int (nI p), .int pl])), (qb, .inl (cB, 4096, .inl bf)), (qu, .inl (cI, 4096, .inl ug))]) hD hqL
            rw [List.append_assoc] at hP hD
            have hqE : E q = 0 := by rw [va_up_ne _ _ (Ne.symm hqq)] at hq0; exact hq0
            have hQ : QPn cI cV E L f i n s.heap.size 9 0 0 q p (([] ++ [qn]) ++ [q]) (va_up (va_up E qn 4) q 9) (va_up (va_up f qn (tE cI (p - i) g)) q (lE 0 (some qn) 0 0 0 0 1 none none)) := by
              refine ⟨hqE, va_up_self _ _ _, by omega, by omega, fun lv hO b _ => ?_⟩
              have hG0 : QG cI cV E lv L f i n p s.heap.size [] E lv f := (QG.rf hO hin).mv (by omega) (by omega)
              have hG1 := hG0.add (q := qn) (s := 4) (b := 0) (e := tE cI (p - i) g) hqn0 (by rw [List.append_nil]; exact hqnL) hz_qn (by decide) (by decide) (CO.T (va_up_self _ _ _) ⟨_, _, rfl, by omega⟩)
              exact ⟨va_up (va_up lv qn 0) q b, hG1.add (q := q) (s := 9) (b := b) (e := lE 0 (some qn) 0 0 0 0 1 none none) hq0 hqL hz_q (by decide) (by decide) (CO.L (va_up_self _ _ _) ⟨_, _, _, _, _, _, _, _, _, rfl, ⟨(fun b h => by cases h; exact (va_up_ne _ _ hqq).trans (va_up_self _ _ _)), fun b h => (nomatch h), fun b h => (nomatch h), (fun _ h => by cases h), fun h0 h1 => absurd rfl h0, by decide, by decide⟩⟩), va_up_self _ _ _⟩
            have hP : va_P (dC, dI) classes ([(qr, .inr (5, [.ref h0, .int (nI o)])), (h0, .inr (8, [.ref qb, .ref qu, .int uc, .int ln, .int (nI n), .int (nI p), .int pl])), (qb, .inl (cB, 4096, .inl bf)), (qu, .inl (cI, 4096, .inl ug))] ++ va_pl ((L ++ (([] ++ [qn]) ++ [q]))) ((va_up (va_up f qn (tE cI (p - i) g)) q (lE 0 (some qn) 0 0 0 0 1 none none)))) H := hP
            have hD : va_D A ([(qr, .inr (5, [.ref h0, .int (nI o)])), (h0, .inr (8, [.ref qb, .ref qu, .int uc, .int ln, .int (nI n), .int (nI p), .int pl])), (qb, .inl (cB, 4096, .inl bf)), (qu, .inl (cI, 4096, .inl ug))] ++ va_pl ((L ++ (([] ++ [qn]) ++ [q]))) ((va_up (va_up f qn (tE cI (p - i) g)) q (lE 0 (some qn) 0 0 0 0 1 none none)))) := hD
            have hok : shD bf n (nwB nw) i = some (p, sgL ((va_up (va_up f qn (tE cI (p - i) g)) q (lE 0 (some qn) 0 0 0 0 1 none none)) q), [namS (nmT_ bf n i p)]) := by rw [va_up_self, sgL_0]; exact shD_n hns hlet hne rfl
            have hdn : DNx LD 8 E (va_up (va_up E qn 4) q 9) (va_up (va_up f qn (tE cI (p - i) g)) q (lE 0 (some qn) 0 0 0 0 1 none none)) q (namS (nmT_ bf n i p)) := DNx.nam hqn0 hqn0 hq0 (nm_units hbf hne hgu9)
            refine w_same (fun hq => ?_)
            refine W.widen (k := 3) (n := 15 + (n - i)) (by show ((0 + 1) + 1) ≤ 3; omega) (by show ((0 + 9) + (p - i)) ≤ 15 + (n - i); omega) ?_
            refine vx_ret ?_
            exact W.aret (v := .ref q) hx hb hr (Or.inl ⟨_, rfl⟩) (Or.inr ⟨_, rfl⟩) (fun t9 ht hW => ⟨⟨(q, p, ([] ++ [qn]) ++ [q], va_up (va_up E qn 4) q 9, va_up (va_up f qn (tE cI (p - i) g)) q (lE 0 (some qn) 0 0 0 0 1 none none)), q, rfl, ⟨hQ, _, hok, hdn⟩, ⟨by rw [ht]; exact hP, va_K.moved hW.alike hK, hD⟩, by rw [ht]; exact ⟨hq.mono (by show ((0 + 1) + 1) ≤ 2; omega) (by show ((0 + 9) + (p - i)) ≤ 9 + (p - i); omega), rfl⟩⟩, hS.F ht⟩) hS.2.2 d_QueryReader_shortSelector_176
          · have hjl : j < p - i := by rw [nI_leI (by omega) (by omega)] at c147; omega
            refine lv_aload_n hx hb d_QueryReader_shortSelector_150 rfl (lv_at hl 1 rfl) ?_
            refine va_get (D := (dC, dI)) (ci := 7) (v := .ref qn) (C := R_Selector) (T := F_Selector) (N := 9) hx hb hts in_Selector hown hK hP 4 rfl rfl 1 (by decide) (hts _ z_613) (fun _ h9 => h9) rfl d_QueryReader_shortSelector_151 ?_
            refine lv_iload hx hb d_QueryReader_shortSelector_154 (lv_at hl 3 rfl) ?_
            refine lv_aload_n hx hb d_QueryReader_shortSelector_156 rfl (lv_at hl 0 rfl) ?_
            refine va_get (D := (dC, dI)) (ci := 5) (v := .ref h0) (C := R_QueryReader) (T := F_QueryReader) (N := 2) hx hb hts in_QueryReader hown hK hP 0 rfl rfl 0 (by decide) (hts _ w_100) (fun _ h9 => h9) rfl d_QueryReader_shortSelector_157 ?_
            refine va_get (D := (dC, dI)) (ci := 8) (v := .ref qb) (C := R_Tape) (T := F_Tape) (N := 7) hx hb hts in_Tape hown hK hP 1 rfl rfl 0 (by decide) (hts _ z_44) (fun _ h9 => h9) rfl d_QueryReader_shortSelector_160 ?_
            refine lv_iload_n hx hb d_QueryReader_shortSelector_163 rfl (lv_at hl 2 rfl) ?_
            refine lv_iload hx hb d_QueryReader_shortSelector_164 (lv_at hl 3 rfl) ?_
            refine lv_iadd hx hb d_QueryReader_shortSelector_166 ?_
            refine W.eq (g2 := F0 m 167 ls [.int (nI (i + j)), .ref qb, .int (nI j), .ref qn]) (by rw [show ((nI i) + (nI j)) = (nI (i + j)) from (nI_add _ _)]) ?_
            refine va_bald hx hb hK hP 2 0 rfl rfl (vp_in_nI (show i + j < 4096 by omega) (by decide)) d_QueryReader_shortSelector_167 ?_
            rw [show (nI (i + j)).toNatClampNeg = i + j from nI_clamp (by omega)]
            refine va_iast hx hb hK hP hD hS 5 1 rfl rfl (vp_in_nI hjl (by omega)) d_QueryReader_shortSelector_168 (fun H locs hP hD hS => ?_)
            rw [show (nI j).toNatClampNeg = j from nI_clamp (by omega)] at hP hD
            have hP : va_P (dC, dI) classes ([(qr, .inr (5, [.ref h0, .int (nI o)])), (h0, .inr (8, [.ref qb, .ref qu, .int uc, .int ln, .int (nI n), .int (nI p), .int pl])), (qb, .inl (cB, 4096, .inl bf)), (qu, .inl (cI, 4096, .inl ug)), (q, .inr (7, [.int 0, .ref qn, .int 0, .int 0, .long 0, .long 0, .long 1, .null, .null])), (qn, .inl (cI, (p - i), .inl (upd g j (bf (i + j)))))] ++ va_pl L f) H := hP
            have hD : va_D A ([(qr, .inr (5, [.ref h0, .int (nI o)])), (h0, .inr (8, [.ref qb, .ref qu, .int uc, .int ln, .int (nI n), .int (nI p), .int pl])), (qb, .inl (cB, 4096, .inl bf)), (qu, .inl (cI, 4096, .inl ug)), (q, .inr (7, [.int 0, .ref qn, .int 0, .int 0, .long 0, .long 0, .long 1, .null, .null])), (qn, .inl (cI, (p - i), .inl (upd g j (bf (i + j)))))] ++ va_pl L f) := hD
            refine lv_iinc (v := nI (j + 1)) (lv' := [(4, .int (nI (j + 1))), (0, .ref qr), (2, .ref q), (3, .int (nI i))]) hx hb d_QueryReader_shortSelector_169 hl (k := 3) rfl (nI_1 _) (by decide) rfl (fun ls hl => ?_)
            refine lv_goto (tgt := 140) hx hb d_QueryReader_shortSelector_172 (by decide) ?_
            exact ih (j + 1, upd g j (bf (i + j))) _ _ _ ⟨show j + 1 ≤ (p - i) by omega, fun a ha => by by_cases e9 : a = j; (· rw [e9]; exact pk_us); (· rw [pk_un e9]; exact hgu a (by omega))⟩ (by show (p - i) - (j + 1) < (p - i) - j; omega) hP hD hS (lv_sub hl [1, 2, 3, 0] rfl)
        · have hpn : p < n := by rw [nI_leI (by omega) (by omega)] at c90; omega
          refine lv_aload_n hx hb d_QueryReader_shortSelector_93 rfl (lv_at hl 0 rfl) ?_
          refine va_get (D := (dC, dI)) (ci := 5) (v := .ref h0) (C := R_QueryReader) (T := F_QueryReader) (N := 2) hx hb hts in_QueryReader hown hK hP 0 rfl rfl 0 (by decide) (hts _ w_100) (fun _ h9 => h9) rfl d_QueryReader_shortSelector_94 ?_
          have hPc := hP.sub (ws' := [(h0, .inr (8, [.ref qb, .ref qu, .int uc, .int ln, .int (nI n), .int (nI p), .int pl])), (qb, .inl (cB, 4096, .inl bf))]) [1, 2] rfl
          have hDc := hD.sub (ws' := [(h0, .inr (8, [.ref qb, .ref qu, .int uc, .int ln, .int (nI n), .int (nI p), .int pl])), (qb, .inl (cB, 4096, .inl bf))]) [1, 2] (by decide) rfl
          have hFc := va_free (wc := [(h0, .inr (8, [.ref qb, .ref qu, .int uc, .int ln, .int (nI n), .int (nI p), .int pl])), (qb, .inl (cB, 4096, .inl bf))]) hD hS hA [1, 2] rfl
          have hKc := hK.sub (tys' := [(cB, .byte)]) [0] rfl
          refine va_calli (va_runV (As := []) (rest := []) ⟨hx, hb, hml, hown, hts⟩ (c_Tape_here l dC dI cB h0 qb H (.ref qu) uc ln pl bf n p hn0 (by omega)) (cwV 0 hts (gt_V (own := R_QueryReader) (C := R_Tape) (i := 19) (y := y_Tape_here) i_Tape_here z_534 w_363 w_364 w_2) rfl rfl rfl (by decide +kernel) ⟨Nat.le_of_ble_eq_true rfl, Nat.le_of_ble_eq_true rfl⟩) ⟨mp_blind, va_recv hK hP (ci := 8) (q0 := 1) rfl rfl, fun U hU hW => ⟨rfl, hU, by rw [hU]; exact hPc, va_K.moved hW.alike hKc, hDc.weaken (fun _ _ _ _ => trivial)⟩⟩ rfl rfl hl.1 rfl (lv_room (Nat.le_of_ble_eq_true rfl)) d_QueryReader_shortSelector_97 ⟨by show (0 + 1) + (0) ≤ 3; omega, by show (0 + 9) + (0) ≤ 15 + (n - i); omega⟩) hS (fun q _ h => hFc q h) hFc (fun h25 _u t9 H1 locs ht hvm hw hB hz1 hk1 hS => ?_)
          obtain ⟨hP1, hK1, hD1⟩ := hB
          rw [ht] at hP1
          obtain ⟨hP, hD⟩ := va_joinQ (wr := [(qr, .inr (5, [.ref h0, .int (nI o)])), (qu, .inl (cI, 4096, .inl ug)), (q, .inr (7, [.int 0, .null, .int 0, .int 0, .long 0, .long 0, .long 1, .null, .null]))]) (w1 := [(h0, .inr (8, [.ref qb, .ref qu, .int uc, .int ln, .int (nI n), .int (nI p), .int pl])), (qb, .inl (cB, 4096, .inl bf))]) hP hD [1, 2] [0, 3, 4] rfl rfl (by decide) (by decide) hk1 hFc hP1 hD1
          generalize H1 = H at hP hS ⊢
          have hP : va_P (dC, dI) classes ([(qr, .inr (5, [.ref h0, .int (nI o)])), (qu, .inl (cI, 4096, .inl ug)), (q, .inr (7, [.int 0, .null, .int 0, .int 0, .long 0, .long 0, .long 1, .null, .null])), (h0, .inr (8, [.ref qb, .ref qu, .int uc, .int ln, .int (nI n), .int (nI p), .int pl])), (qb, .inl (cB, 4096, .inl bf))] ++ va_pl L f) H := hP
          have hD : va_D A ([(qr, .inr (5, [.ref h0, .int (nI o)])), (qu, .inl (cI, 4096, .inl ug)), (q, .inr (7, [.int 0, .null, .int 0, .int 0, .long 0, .long 0, .long 1, .null, .null])), (h0, .inr (8, [.ref qb, .ref qu, .int uc, .int ln, .int (nI n), .int (nI p), .int pl])), (qb, .inl (cB, 4096, .inl bf))] ++ va_pl L f) := hD
          have hP := hP.part (cx := [(qr, .inr (5, [.ref h0, .int (nI o)])), (h0, .inr (8, [.ref qb, .ref qu, .int uc, .int ln, .int (nI n), .int (nI p), .int pl])), (qb, .inl (cB, 4096, .inl bf)), (qu, .inl (cI, 4096, .inl ug)), (q, .inr (7, [.int 0, .null, .int 0, .int 0, .long 0, .long 0, .long 1, .null, .null]))]) [0, 3, 4, 1, 2] rfl
          have hD := hD.part (cx := [(qr, .inr (5, [.ref h0, .int (nI o)])), (h0, .inr (8, [.ref qb, .ref qu, .int uc, .int ln, .int (nI n), .int (nI p), .int pl])), (qb, .inl (cB, 4096, .inl bf)), (qu, .inl (cI, 4096, .inl ug)), (q, .inr (7, [.int 0, .null, .int 0, .int 0, .long 0, .long 0, .long 1, .null, .null]))]) [0, 3, 4, 1, 2] (by decide) rfl
          have h_h25 : h25 = hereV bf n p := hw
          refine vp_callSi (va_Run.run (va_runS (As := [.int h25]) (rest := []) ⟨hx, hb, hml, hown, hts⟩ (c_QueryReader_isNameByte l dC dI H h25) (va_cwS 1 hts (gt_S (own := R_QueryReader) (i := 81) (y := y_QueryReader_isNameByte) i_QueryReader_isNameByte z_793 z_794 w_4) rfl rfl rfl (by decide +kernel) ⟨Nat.le_of_ble_eq_true rfl, Nat.le_of_ble_eq_true rfl⟩) ⟨mT_blind, fun U hU hW => ⟨rfl, hN.warm hW⟩⟩ rfl rfl hl.1 rfl (lv_room (Nat.le_of_ble_eq_true rfl)) d_QueryReader_shortSelector_100 ⟨by show (0 + 1) + (0) ≤ 3; omega, by show (0 + 9) + (0) ≤ 15 + (n - i); omega⟩)) (fun r26 h_r26 => ?_)
          refine lv_if_eq (tgt := 122) hx hb d_QueryReader_shortSelector_103 (by decide) (fun c103 => ?_) (fun c103 => ?_)
          · have hne : nmC bf n (n - i) i = p := hnm.trans (nmC_e (by rw [← h_h25]; exact h_r26.2.2 c103))
            refine lv_aload_n hx hb d_QueryReader_shortSelector_122 rfl (lv_at hl 1 rfl) ?_
            refine lv_aload_n hx hb d_QueryReader_shortSelector_123 rfl (lv_at hl 0 rfl) ?_
            refine va_get (D := (dC, dI)) (ci := 5) (v := .ref h0) (C := R_QueryReader) (T := F_QueryReader) (N := 2) hx hb hts in_QueryReader hown hK hP 0 rfl rfl 0 (by decide) (hts _ w_100) (fun _ h9 => h9) rfl d_QueryReader_shortSelector_124 ?_
            refine va_get (D := (dC, dI)) (ci := 8) (v := .int (nI p)) (C := R_Tape) (T := F_Tape) (N := 7) hx hb hts in_Tape hown hK hP 1 rfl rfl 5 (by decide) (hts _ z_53) (fun _ h9 => h9) rfl d_QueryReader_shortSelector_127 ?_
            refine lv_iload_n hx hb d_QueryReader_shortSelector_130 rfl (lv_at hl 2 rfl) ?_
            refine lv_isub hx hb d_QueryReader_shortSelector_131 ?_
            refine W.eq (g2 := F0 m 132 ls [.int (nI (p - i)), .ref q]) (by rw [show ((nI p) - (nI i)) = (nI (p - i)) from (pk_sub (by omega))]) ?_
            refine va_newa (atype := .int) (ty := .int) (N' := (p - i)) (a0 := ((p - i), .inl (fun _ => 0))) hx hb (hts _ w_73) rfl hK hP hD hS hA (fun _ => rfl) (nI_pos (by omega)) (nI_clamp (by omega)) (by show (p - i) * 4 ≤ 536870912; omega) (by show (0 + 1) + 1 ≤ 3; omega) (by show (0 + 9) + (p - i) ≤ 15 + (n - i); omega) d_QueryReader_shortSelector_132 (fun qn cA H hK hP hD hS => ?_)
            obtain rfl : cI = cA := Option.some.inj ((hK.2 1 _ rfl).2.symm.trans (hK.2 3 _ rfl).2)
            have hK := hK.sub (tys' := [(cB, .byte), (cI, .int), (cV, .object "QueryBench$Value")]) [0, 1, 2] rfl
            have hz_qn := newA hAe hD (fun k x hk => by rcases k with _ | _ | _ | _ | k; (· cases hk; exact ⟨0, _, rfl⟩); (· cases hk; exact ⟨1, _, rfl⟩); (· cases hk; exact ⟨2, _, rfl⟩); (· cases hk; exact ⟨3, _, rfl⟩); (· exact ⟨k + 5, x.2, hk⟩))
            have hP := hP.swap
            have hD := hD.swap
            have hP : va_P (dC, dI) classes ([(qr, .inr (5, [.ref h0, .int (nI o)])), (h0, .inr (8, [.ref qb, .ref qu, .int uc, .int ln, .int (nI n), .int (nI p), .int pl])), (qb, .inl (cB, 4096, .inl bf)), (qu, .inl (cI, 4096, .inl ug)), (q, .inr (7, [.int 0, .null, .int 0, .int 0, .long 0, .long 0, .long 1, .null, .null])), (qn, .inl (cI, (p - i), .inl (fun _ => 0)))] ++ va_pl L f) H := hP
            have hD : va_D A ([(qr, .inr (5, [.ref h0, .int (nI o)])), (h0, .inr (8, [.ref qb, .ref qu, .int uc, .int ln, .int (nI n), .int (nI p), .int pl])), (qb, .inl (cB, 4096, .inl bf)), (qu, .inl (cI, 4096, .inl ug)), (q, .inr (7, [.int 0, .null, .int 0, .int 0, .long 0, .long 0, .long 1, .null, .null])), (qn, .inl (cI, (p - i), .inl (fun _ => 0)))] ++ va_pl L f) := hD
            refine va_put (D := (dC, dI)) (ci := 7) (v := .ref qn) (ty := .array .int) (C := R_Selector) (T := F_Selector) (N := 9) hx hb hts in_Selector t_Selector t_Selector_ok n_Selector hown hK hP hD hS 4 rfl rfl 1 (by decide) (hts _ z_613) (fun _ h9 => h9) rfl (by decide +kernel) rfl rfl (Nat.le_of_ble_eq_true rfl) d_QueryReader_shortSelector_134 (fun H locs hP hD hS => ?_)
            have hP : va_P (dC, dI) classes ([(qr, .inr (5, [.ref h0, .int (nI o)])), (h0, .inr (8, [.ref qb, .ref qu, .int uc, .int ln, .int (nI n), .int (nI p), .int pl])), (qb, .inl (cB, 4096, .inl bf)), (qu, .inl (cI, 4096, .inl ug)), (q, .inr (7, [.int 0, .ref qn, .int 0, .int 0, .long 0, .long 0, .long 1, .null, .null])), (qn, .inl (cI, (p - i), .inl (fun _ => 0)))] ++ va_pl L f) H := hP
            have hD : va_D A ([(qr, .inr (5, [.ref h0, .int (nI o)])), (h0, .inr (8, [.ref qb, .ref qu, .int uc, .int ln, .int (nI n), .int (nI p), .int pl])), (qb, .inl (cB, 4096, .inl bf)), (qu, .inl (cI, 4096, .inl ug)), (q, .inr (7, [.int 0, .ref qn, .int 0, .int 0, .long 0, .long 0, .long 1, .null, .null])), (qn, .inl (cI, (p - i), .inl (fun _ => 0)))] ++ va_pl L f) := hD
            refine lv_iconst (v := 0) hx hb d_QueryReader_shortSelector_137 (by decide) ?_
            refine lv_istore (lv' := [(4, .int 0), (0, .ref qr), (2, .ref q), (3, .int (nI i))]) hx hb d_QueryReader_shortSelector_138 hl (by decide) rfl (fun ls hl => ?_)
            refine w_loop (D := (dC, dI)) (cl := classes) (A := A) (H0 := s.heap) (nL := 5) 140 (σ := Nat × (Nat → Int32)) (fun ⟨j, g⟩ => j ≤ (p - i) ∧ ∀ a, a < j → g a = bf (i + a)) (fun ⟨j, g⟩ => (p - i) - j) (fun ⟨j, g⟩ => [(qr, .inr (5, [.ref h0, .int (nI o)])), (h0, .inr (8, [.ref qb, .ref qu, .int uc, .int ln, .int (nI n), .int (nI p), .int pl])), (qb, .inl (cB, 4096, .inl bf)), (qu, .inl (cI, 4096, .inl ug)), (q, .inr (7, [.int 0, .ref qn, .int 0, .int 0, .long 0, .long 0, .long 1, .null, .null])), (qn, .inl (cI, (p - i), .inl g))] ++ va_pl L f) (fun ⟨j, g⟩ => [(0, .ref qr), (2, .ref q), (3, .int (nI i)), (4, .int (nI j))]) ?_ (0, fun _ => 0) ⟨Nat.zero_le _, fun a h => absurd h (Nat.not_lt_zero _)⟩ hP hD hS (lv_sub hl [1, 2, 3, 0] rfl)
            rintro ⟨j, g⟩ H locs ls hI ih hP hD hS hl
            have hP : va_P (dC, dI) classes ([(qr, .inr (5, [.ref h0, .int (nI o)])), (h0, .inr (8, [.ref qb, .ref qu, .int uc, .int ln, .int (nI n), .int (nI p), .int pl])), (qb, .inl (cB, 4096, .inl bf)), (qu, .inl (cI, 4096, .inl ug)), (q, .inr (7, [.int 0, .ref qn, .int 0, .int 0, .long 0, .long 0, .long 1, .null, .null])), (qn, .inl (cI, (p - i), .inl g))] ++ va_pl L f) H := hP
            have hD : va_D A ([(qr, .inr (5, [.ref h0, .int (nI o)])), (h0, .inr (8, [.ref qb, .ref qu, .int uc, .int ln, .int (nI n), .int (nI p), .int pl])), (qb, .inl (cB, 4096, .inl bf)), (qu, .inl (cI, 4096, .inl ug)), (q, .inr (7, [.int 0, .ref qn, .int 0, .int 0, .long 0, .long 0, .long 1, .null, .null])), (qn, .inl (cI, (p - i), .inl g))] ++ va_pl L f) := hD
            have hl : lv_has ls 5 [(0, .ref qr), (2, .ref q), (3, .int (nI i)), (4, .int (nI j))] := hl
            obtain ⟨hj, hgu⟩ := hI
            have hj : j ≤ (p - i) := hj
            refine lv_iload hx hb d_QueryReader_shortSelector_140 (lv_at hl 3 rfl) ?_
            refine lv_aload_n hx hb d_QueryReader_shortSelector_142 rfl (lv_at hl 1 rfl) ?_
            refine va_get (D := (dC, dI)) (ci := 7) (v := .ref qn) (C := R_Selector) (T := F_Selector) (N := 9) hx hb hts in_Selector hown hK hP 4 rfl rfl 1 (by decide) (hts _ z_613) (fun _ h9 => h9) rfl d_QueryReader_shortSelector_143 ?_
            refine va_alen (v := nI (p - i)) hx hb hK hP 5 1 rfl rfl rfl d_QueryReader_shortSelector_146 ?_
            refine lv_icmp_ge (tgt := 175) hx hb d_QueryReader_shortSelector_147 (by decide) (fun c147 => ?_) (fun c147 => ?_)
            · refine lv_aload_n hx hb d_QueryReader_shortSelector_175 rfl (lv_at hl 1 rfl) ?_
              have hgu9 : ∀ a, a < p - i → g a = bf (i + a) := fun a ha => hgu a (by rw [nI_leI (by omega) (by omega)] at c147; omega)
              have hqnL := plD_new (X := [(qr, .inr (5, [.ref h0, .int (nI o)])), (h0, .inr (8, [.ref qb, .ref qu, .int uc, .int ln, .int (nI n), .int (nI p), .int pl])), (qb, .inl (cB, 4096, .inl bf)), (qu, .inl (cI, 4096, .inl ug)), (q, .inr (7, [.int 0, .ref qn, .int 0, .int 0, .long 0, .long 0, .long 1, .null, .null]))]) hD
              have hqn0 : E qn = 0 := Classical.byContradiction (fun h => hqnL (hO.inL h))
              have hP := plP_push (X := [(qr, .inr (5, [.ref h0, .int (nI o)])), (h0, .inr (8, [.ref qb, .ref qu, .int uc, .int ln, .int (nI n), .int (nI p), .int pl])), (qb, .inl (cB, 4096, .inl bf)), (qu, .inl (cI, 4096, .inl ug)), (q, .inr (7, [.int 0, .ref qn, .int 0, .int 0, .long 0, .long 0, .long 1, .null, .null]))]) hP hqnL
              have hD := plD_push (X := [(qr, .inr (5, [.ref h0, .int (nI o)])), (h0, .inr (8, [.ref qb, .ref qu, .int uc, .int ln, .int (nI n), .int (nI p), .int pl])), (qb, .inl (cB, 4096, .inl bf)), (qu, .inl (cI, 4096, .inl ug)), (q, .inr (7, [.int 0, .ref qn, .int 0, .int 0, .long 0, .long 0, .long 1, .null, .null]))]) hD hqnL
              have hqL := plD_new (X := [(qr, .inr (5, [.ref h0, .int (nI o)])), (h0, .inr (8, [.ref qb, .ref qu, .int uc, .int ln, .int (nI n), .int (nI p), .int pl])), (qb, .inl (cB, 4096, .inl bf)), (qu, .inl (cI, 4096, .inl ug))]) hD
              have hq0 : va_up E qn 4 q = 0 := by
                have hG0 : QG cI cV E lv L f i n p s.heap.size [] E lv f := (QG.rf hO hin).mv (by omega) (by omega)
                have hG1 := hG0.add (q := qn) (s := 4) (b := 0) (e := tE cI (p - i) g) hqn0 (by rw [List.append_nil]; exact hqnL) hz_qn (by decide) (by decide) (CO.T (va_up_self _ _ _) ⟨_, _, rfl, by omega⟩)
                exact Classical.byContradiction (fun h => hqL (by have := hG1.po.inL h; exact this))
              have hqq : qn ≠ q := fun e => by rw [← e, va_up_self] at hq0; cases hq0
              have hP := plP_push (X := [(qr, .inr (5, [.ref h0, .int (nI o)])), (h0, .inr (8, [.ref qb, .ref qu, .int uc, .int ln, .int (nI n), .int (nI p), .int pl])), (qb, .inl (cB, 4096, .inl bf)), (qu, .inl (cI, 4096, .inl ug))]) hP hqL
              have hD := plD_push (X := [(qr, .inr (5, [.ref h0, .int (nI o)])), (h0, .inr (8, [.ref qb, .ref qu, .int uc, .int ln, .int (nI n), .int (nI p), .int pl])), (qb, .inl (cB, 4096, .inl bf)), (qu, .inl (cI, 4096, .inl ug))]) hD hqL
              rw [List.append_assoc] at hP hD
              have hqE : E q = 0 := by rw [va_up_ne _ _ (Ne.symm hqq)] at hq0; exact hq0
              have hQ : QPn cI cV E L f i n s.heap.size 9 0 0 q p (([] ++ [qn]) ++ [q]) (va_up (va_up E qn 4) q 9) (va_up (va_up f qn (tE cI (p - i) g)) q (lE 0 (some qn) 0 0 0 0 1 none none)) := by
                refine ⟨hqE, va_up_self _ _ _, by omega, by omega, fun lv hO b _ => ?_⟩
                have hG0 : QG cI cV E lv L f i n p s.heap.size [] E lv f := (QG.rf hO hin).mv (by omega) (by omega)
                have hG1 := hG0.add (q := qn) (s := 4) (b := 0) (e := tE cI (p - i) g) hqn0 (by rw [List.append_nil]; exact hqnL) hz_qn (by decide) (by decide) (CO.T (va_up_self _ _ _) ⟨_, _, rfl, by omega⟩)
                exact ⟨va_up (va_up lv qn 0) q b, hG1.add (q := q) (s := 9) (b := b) (e := lE 0 (some qn) 0 0 0 0 1 none none) hq0 hqL hz_q (by decide) (by decide) (CO.L (va_up_self _ _ _) ⟨_, _, _, _, _, _, _, _, _, rfl, ⟨(fun b h => by cases h; exact (va_up_ne _ _ hqq).trans (va_up_self _ _ _)), fun b h => (nomatch h), fun b h => (nomatch h), (fun _ h => by cases h), fun h0 h1 => absurd rfl h0, by decide, by decide⟩⟩), va_up_self _ _ _⟩
              have hP : va_P (dC, dI) classes ([(qr, .inr (5, [.ref h0, .int (nI o)])), (h0, .inr (8, [.ref qb, .ref qu, .int uc, .int ln, .int (nI n), .int (nI p), .int pl])), (qb, .inl (cB, 4096, .inl bf)), (qu, .inl (cI, 4096, .inl ug))] ++ va_pl ((L ++ (([] ++ [qn]) ++ [q]))) ((va_up (va_up f qn (tE cI (p - i) g)) q (lE 0 (some qn) 0 0 0 0 1 none none)))) H := hP
              have hD : va_D A ([(qr, .inr (5, [.ref h0, .int (nI o)])), (h0, .inr (8, [.ref qb, .ref qu, .int uc, .int ln, .int (nI n), .int (nI p), .int pl])), (qb, .inl (cB, 4096, .inl bf)), (qu, .inl (cI, 4096, .inl ug))] ++ va_pl ((L ++ (([] ++ [qn]) ++ [q]))) ((va_up (va_up f qn (tE cI (p - i) g)) q (lE 0 (some qn) 0 0 0 0 1 none none)))) := hD
              have hok : shD bf n (nwB nw) i = some (p, sgL ((va_up (va_up f qn (tE cI (p - i) g)) q (lE 0 (some qn) 0 0 0 0 1 none none)) q), [namS (nmT_ bf n i p)]) := by rw [va_up_self, sgL_0]; exact shD_n hns hlet hne rfl
              have hdn : DNx LD 8 E (va_up (va_up E qn 4) q 9) (va_up (va_up f qn (tE cI (p - i) g)) q (lE 0 (some qn) 0 0 0 0 1 none none)) q (namS (nmT_ bf n i p)) := DNx.nam hqn0 hqn0 hq0 (nm_units hbf hne hgu9)
              refine w_same (fun hq => ?_)
              refine W.widen (k := 3) (n := 15 + (n - i)) (by show ((0 + 1) + 1) ≤ 3; omega) (by show ((0 + 9) + (p - i)) ≤ 15 + (n - i); omega) ?_
              refine vx_ret ?_
              exact W.aret (v := .ref q) hx hb hr (Or.inl ⟨_, rfl⟩) (Or.inr ⟨_, rfl⟩) (fun t9 ht hW => ⟨⟨(q, p, ([] ++ [qn]) ++ [q], va_up (va_up E qn 4) q 9, va_up (va_up f qn (tE cI (p - i) g)) q (lE 0 (some qn) 0 0 0 0 1 none none)), q, rfl, ⟨hQ, _, hok, hdn⟩, ⟨by rw [ht]; exact hP, va_K.moved hW.alike hK, hD⟩, by rw [ht]; exact ⟨hq.mono (by show ((0 + 1) + 1) ≤ 2; omega) (by show ((0 + 9) + (p - i)) ≤ 9 + (p - i); omega), rfl⟩⟩, hS.F ht⟩) hS.2.2 d_QueryReader_shortSelector_176
            · have hjl : j < p - i := by rw [nI_leI (by omega) (by omega)] at c147; omega
              refine lv_aload_n hx hb d_QueryReader_shortSelector_150 rfl (lv_at hl 1 rfl) ?_
              refine va_get (D := (dC, dI)) (ci := 7) (v := .ref qn) (C := R_Selector) (T := F_Selector) (N := 9) hx hb hts in_Selector hown hK hP 4 rfl rfl 1 (by decide) (hts _ z_613) (fun _ h9 => h9) rfl d_QueryReader_shortSelector_151 ?_
              refine lv_iload hx hb d_QueryReader_shortSelector_154 (lv_at hl 3 rfl) ?_
              refine lv_aload_n hx hb d_QueryReader_shortSelector_156 rfl (lv_at hl 0 rfl) ?_
              refine va_get (D := (dC, dI)) (ci := 5) (v := .ref h0) (C := R_QueryReader) (T := F_QueryReader) (N := 2) hx hb hts in_QueryReader hown hK hP 0 rfl rfl 0 (by decide) (hts _ w_100) (fun _ h9 => h9) rfl d_QueryReader_shortSelector_157 ?_
              refine va_get (D := (dC, dI)) (ci := 8) (v := .ref qb) (C := R_Tape) (T := F_Tape) (N := 7) hx hb hts in_Tape hown hK hP 1 rfl rfl 0 (by decide) (hts _ z_44) (fun _ h9 => h9) rfl d_QueryReader_shortSelector_160 ?_
              refine lv_iload_n hx hb d_QueryReader_shortSelector_163 rfl (lv_at hl 2 rfl) ?_
              refine lv_iload hx hb d_QueryReader_shortSelector_164 (lv_at hl 3 rfl) ?_
              refine lv_iadd hx hb d_QueryReader_shortSelector_166 ?_
              refine W.eq (g2 := F0 m 167 ls [.int (nI (i + j)), .ref qb, .int (nI j), .ref qn]) (by rw [show ((nI i) + (nI j)) = (nI (i + j)) from (nI_add _ _)]) ?_
              refine va_bald hx hb hK hP 2 0 rfl rfl (vp_in_nI (show i + j < 4096 by omega) (by decide)) d_QueryReader_shortSelector_167 ?_
              rw [show (nI (i + j)).toNatClampNeg = i + j from nI_clamp (by omega)]
              refine va_iast hx hb hK hP hD hS 5 1 rfl rfl (vp_in_nI hjl (by omega)) d_QueryReader_shortSelector_168 (fun H locs hP hD hS => ?_)
              rw [show (nI j).toNatClampNeg = j from nI_clamp (by omega)] at hP hD
              have hP : va_P (dC, dI) classes ([(qr, .inr (5, [.ref h0, .int (nI o)])), (h0, .inr (8, [.ref qb, .ref qu, .int uc, .int ln, .int (nI n), .int (nI p), .int pl])), (qb, .inl (cB, 4096, .inl bf)), (qu, .inl (cI, 4096, .inl ug)), (q, .inr (7, [.int 0, .ref qn, .int 0, .int 0, .long 0, .long 0, .long 1, .null, .null])), (qn, .inl (cI, (p - i), .inl (upd g j (bf (i + j)))))] ++ va_pl L f) H := hP
              have hD : va_D A ([(qr, .inr (5, [.ref h0, .int (nI o)])), (h0, .inr (8, [.ref qb, .ref qu, .int uc, .int ln, .int (nI n), .int (nI p), .int pl])), (qb, .inl (cB, 4096, .inl bf)), (qu, .inl (cI, 4096, .inl ug)), (q, .inr (7, [.int 0, .ref qn, .int 0, .int 0, .long 0, .long 0, .long 1, .null, .null])), (qn, .inl (cI, (p - i), .inl (upd g j (bf (i + j)))))] ++ va_pl L f) := hD
              refine lv_iinc (v := nI (j + 1)) (lv' := [(4, .int (nI (j + 1))), (0, .ref qr), (2, .ref q), (3, .int (nI i))]) hx hb d_QueryReader_shortSelector_169 hl (k := 3) rfl (nI_1 _) (by decide) rfl (fun ls hl => ?_)
              refine lv_goto (tgt := 140) hx hb d_QueryReader_shortSelector_172 (by decide) ?_
              exact ih (j + 1, upd g j (bf (i + j))) _ _ _ ⟨show j + 1 ≤ (p - i) by omega, fun a ha => by by_cases e9 : a = j; (· rw [e9]; exact pk_us); (· rw [pk_un e9]; exact hgu a (by omega))⟩ (by show (p - i) - (j + 1) < (p - i) - j; omega) hP hD hS (lv_sub hl [1, 2, 3, 0] rfl)
          · have hnm2 : nmC bf n (n - i) i = nmC bf n (n - (p + 1)) (p + 1) := hnm.trans (nmC_s hpn (by rw [← h_h25]; exact h_r26.2.1 c103))
            refine lv_aload_n hx hb d_QueryReader_shortSelector_106 rfl (lv_at hl 0 rfl) ?_
            refine va_get (D := (dC, dI)) (ci := 5) (v := .ref h0) (C := R_QueryReader) (T := F_QueryReader) (N := 2) hx hb hts in_QueryReader hown hK hP 0 rfl rfl 0 (by decide) (hts _ w_100) (fun _ h9 => h9) rfl d_QueryReader_shortSelector_107 ?_
            refine lv_dup hx hb d_QueryReader_shortSelector_110 rfl ?_
            refine va_get (D := (dC, dI)) (ci := 8) (v := .int (nI p)) (C := R_Tape) (T := F_Tape) (N := 7) hx hb hts in_Tape hown hK hP 1 rfl rfl 5 (by decide) (hts _ z_53) (fun _ h9 => h9) rfl d_QueryReader_shortSelector_111 ?_
            refine lv_iconst (v := 1) hx hb d_QueryReader_shortSelector_114 (by decide) ?_
            refine lv_iadd hx hb d_QueryReader_shortSelector_115 ?_
            refine W.eq (g2 := F0 m 116 ls [.int (nI (p + 1)), .ref h0]) (by rw [show ((nI p) + 1) = (nI (p + 1)) from nI_1 _]) ?_
            refine va_put (D := (dC, dI)) (ci := 8) (v := .int (nI (p + 1))) (ty := .int) (C := R_Tape) (T := F_Tape) (N := 7) hx hb hts in_Tape t_Tape t_Tape_ok n_Tape hown hK hP hD hS 1 rfl rfl 5 (by decide) (hts _ z_53) (fun _ h9 => h9) rfl (by decide +kernel) rfl rfl (Nat.le_of_ble_eq_true rfl) d_QueryReader_shortSelector_116 (fun H locs hP hD hS => ?_)
            have hP : va_P (dC, dI) classes ([(qr, .inr (5, [.ref h0, .int (nI o)])), (h0, .inr (8, [.ref qb, .ref qu, .int uc, .int ln, .int (nI n), .int (nI (p + 1)), .int pl])), (qb, .inl (cB, 4096, .inl bf)), (qu, .inl (cI, 4096, .inl ug)), (q, .inr (7, [.int 0, .null, .int 0, .int 0, .long 0, .long 0, .long 1, .null, .null]))] ++ va_pl L f) H := hP
            have hD : va_D A ([(qr, .inr (5, [.ref h0, .int (nI o)])), (h0, .inr (8, [.ref qb, .ref qu, .int uc, .int ln, .int (nI n), .int (nI (p + 1)), .int pl])), (qb, .inl (cB, 4096, .inl bf)), (qu, .inl (cI, 4096, .inl ug)), (q, .inr (7, [.int 0, .null, .int 0, .int 0, .long 0, .long 0, .long 1, .null, .null]))] ++ va_pl L f) := hD
            have hP : va_P (dC, dI) classes ([(qr, .inr (5, [.ref h0, .int (nI o)])), (h0, .inr (8, [.ref qb, .ref qu, .int uc, .int ln, .int (nI n), .int (nI (p + 1)), .int pl])), (qb, .inl (cB, 4096, .inl bf)), (qu, .inl (cI, 4096, .inl ug)), (q, .inr (7, [.int 0, .null, .int 0, .int 0, .long 0, .long 0, .long 1, .null, .null]))] ++ va_pl L f) H := hP
            have hD : va_D A ([(qr, .inr (5, [.ref h0, .int (nI o)])), (h0, .inr (8, [.ref qb, .ref qu, .int uc, .int ln, .int (nI n), .int (nI (p + 1)), .int pl])), (qb, .inl (cB, 4096, .inl bf)), (qu, .inl (cI, 4096, .inl ug)), (q, .inr (7, [.int 0, .null, .int 0, .int 0, .long 0, .long 0, .long 1, .null, .null]))] ++ va_pl L f) := hD
            refine lv_goto (tgt := 76) hx hb d_QueryReader_shortSelector_119 (by decide) ?_
            exact ih (p + 1) _ _ _ ⟨⟨show i ≤ p + 1 by omega, show p + 1 ≤ n by omega⟩, hnm2⟩ (by show n - (p + 1) < n - p; omega) hP hD hS (lv_sub hl [0, 1, 2] rfl)
      · refine lv_aload_n hx hb d_QueryReader_shortSelector_68 rfl (lv_at hl 2 rfl) ?_
        refine va_get (D := (dC, dI)) (ci := 5) (v := .ref h0) (C := R_QueryReader) (T := F_QueryReader) (N := 2) hx hb hts in_QueryReader hown hK hP 0 rfl rfl 0 (by decide) (hts _ w_100) (fun _ h9 => h9) rfl d_QueryReader_shortSelector_69 ?_
        refine lv_iload_n hx hb d_QueryReader_shortSelector_72 rfl (lv_at hl 0 rfl) ?_
        have hPc := hP.sub (ws' := [(h0, .inr (8, [.ref qb, .ref qu, .int uc, .int ln, .int (nI n), .int (nI i), .int pl])), (qb, .inl (cB, 4096, .inl bf))]) [1, 2] rfl
        have hDc := hD.sub (ws' := [(h0, .inr (8, [.ref qb, .ref qu, .int uc, .int ln, .int (nI n), .int (nI i), .int pl])), (qb, .inl (cB, 4096, .inl bf))]) [1, 2] (by decide) rfl
        have hFc := va_free (wc := [(h0, .inr (8, [.ref qb, .ref qu, .int uc, .int ln, .int (nI n), .int (nI i), .int pl])), (qb, .inl (cB, 4096, .inl bf))]) hD hS hA [1, 2] rfl
        have hKc := hK.sub (tys' := [(cB, .byte)]) [0] rfl
        refine w_same (fun hq0 => ?_)
        refine vx_callv (vx_runV (As := [.int (nI i)]) (rest := []) ⟨hx, hb, hml, hown, hts⟩ (c_Tape_fail l hl9 dC dI cB h0 qb H (.ref qu) uc ln (nI n) (nI i) pl bf ((nI i))) (cwV 1 hts (gt_V (own := R_QueryReader) (C := R_Tape) (i := 28) (y := y_Tape_fail) i_Tape_fail z_535 w_371 w_372 w_2) rfl rfl rfl (by decide +kernel) ⟨Nat.le_of_ble_eq_true rfl, Nat.le_of_ble_eq_true rfl⟩) ⟨mx_blind, va_recv hK hP (ci := 8) (q0 := 1) rfl rfl, fun U hU hW => ⟨rfl, ⟨hU, by rw [hU]; exact hPc, va_K.moved hW.alike hKc, hDc.weaken (fun _ _ _ _ => trivial)⟩, hN.warm hW, by rw [hU]; exact ZX.moved' hW.alike (ZX.narrow' (ZX.kept' hZ hS.2.1) hFc)⟩⟩ rfl rfl hl.1 rfl (lv_room (Nat.le_of_ble_eq_true rfl)) d_QueryReader_shortSelector_73 ⟨by show (0 + 1) + (1) ≤ 3; omega, by show (0 + 9) + (6) ≤ 15 + (n - i); omega⟩) hS (fun q _ h => hFc q h) hFc (fun q _ h => hFc q h) (fun En ce q9 _u t9 H1 locs ht hvm hw hB hz1 hk1 hS hce hcv hcl => ?_) (fun _u t9 H1 locs ht hvm hw hB hz1 hk1 hS => ?_)
        · obtain ⟨hEn, hP1, hK1, hD1⟩ := hB
          rw [ht] at hP1
          obtain ⟨hP, hD⟩ := va_joinQ (wr := [(qr, .inr (5, [.ref h0, .int (nI o)])), (qu, .inl (cI, 4096, .inl ug)), (q, .inr (7, [.int 0, .null, .int 0, .int 0, .long 0, .long 0, .long 1, .null, .null]))]) (w1 := [(h0, .inr (8, [.ref qb, .ref qu, .int uc, .int ln, .int (nI n), .int (nI i), .int (nI i)])), (qb, .inl (cB, 4096, .inl bf))]) hP hD [1, 2] [0, 3, 4] rfl rfl (by decide) (by decide) hk1 hFc hP1 hD1
          generalize H1 = H at hP hS hce ⊢
          have hP : va_P (dC, dI) classes ([(qr, .inr (5, [.ref h0, .int (nI o)])), (qu, .inl (cI, 4096, .inl ug)), (q, .inr (7, [.int 0, .null, .int 0, .int 0, .long 0, .long 0, .long 1, .null, .null])), (h0, .inr (8, [.ref qb, .ref qu, .int uc, .int ln, .int (nI n), .int (nI i), .int (nI i)])), (qb, .inl (cB, 4096, .inl bf))] ++ va_pl L f) H := hP
          have hD : va_D A ([(qr, .inr (5, [.ref h0, .int (nI o)])), (qu, .inl (cI, 4096, .inl ug)), (q, .inr (7, [.int 0, .null, .int 0, .int 0, .long 0, .long 0, .long 1, .null, .null])), (h0, .inr (8, [.ref qb, .ref qu, .int uc, .int ln, .int (nI n), .int (nI i), .int (nI i)])), (qb, .inl (cB, 4096, .inl bf))] ++ va_pl L f) := hD
          have hP := hP.part (cx := [(qr, .inr (5, [.ref h0, .int (nI o)])), (h0, .inr (8, [.ref qb, .ref qu, .int uc, .int ln, .int (nI n), .int (nI i), .int (nI i)])), (qb, .inl (cB, 4096, .inl bf)), (qu, .inl (cI, 4096, .inl ug)), (q, .inr (7, [.int 0, .null, .int 0, .int 0, .long 0, .long 0, .long 1, .null, .null]))]) [0, 3, 4, 1, 2] rfl
          have hD := hD.part (cx := [(qr, .inr (5, [.ref h0, .int (nI o)])), (h0, .inr (8, [.ref qb, .ref qu, .int uc, .int ln, .int (nI n), .int (nI i), .int (nI i)])), (qb, .inl (cB, 4096, .inl bf)), (qu, .inl (cI, 4096, .inl ug)), (q, .inr (7, [.int 0, .null, .int 0, .int 0, .long 0, .long 0, .long 1, .null, .null]))]) [0, 3, 4, 1, 2] (by decide) rfl
          have hP := hP.part (cx := [(qr, .inr (5, [.ref h0, .int (nI o)])), (h0, .inr (8, [.ref qb, .ref qu, .int uc, .int ln, .int (nI n), .int (nI i), .int (nI i)])), (qb, .inl (cB, 4096, .inl bf)), (qu, .inl (cI, 4096, .inl ug))]) [0, 1, 2, 3] rfl
          have hD := hD.part (cx := [(qr, .inr (5, [.ref h0, .int (nI o)])), (h0, .inr (8, [.ref qb, .ref qu, .int uc, .int ln, .int (nI n), .int (nI i), .int (nI i)])), (qb, .inl (cB, 4096, .inl bf)), (qu, .inl (cI, 4096, .inl ug))]) [0, 1, 2, 3] (by decide) rfl
          have hno : shD bf n (nwB nw) i = none := shD_0 hns (dig_nl (by rw [← h_h23]; exact h_r24.2.1 c65))
          exact vx_out (fun x hx => (hex x hx).elim) hlocks hce hcv hcl (fun t9 ht2 ha => ⟨(nI i, uc, (nI i), ug, nI o), hno, ⟨hEn, by rw [ht2]; exact hP, va_K.moved ha hK, hD⟩, hS.F ht2⟩) hS.2.2 (by show (0 + 1) + (1) ≤ 3; omega) (by show (0 + 9) + (6) ≤ 15 + (n - i); omega)
        · obtain ⟨⟨hP1, hK1, hD1⟩, hz9⟩ := hB
          rw [ht] at hP1
          rw [ht] at hz9
          refine w_tight (hq0.trans hz9) ?_
          have hq0 := hq0.trans hz9
          obtain ⟨hP, hD⟩ := va_joinQ (wr := [(qr, .inr (5, [.ref h0, .int (nI o)])), (qu, .inl (cI, 4096, .inl ug)), (q, .inr (7, [.int 0, .null, .int 0, .int 0, .long 0, .long 0, .long 1, .null, .null]))]) (w1 := [(h0, .inr (8, [.ref qb, .ref qu, .int uc, .int ln, .int (nI n), .int (nI i), .int pl])), (qb, .inl (cB, 4096, .inl bf))]) hP hD [1, 2] [0, 3, 4] rfl rfl (by decide) (by decide) hk1 hFc hP1 hD1
          generalize H1 = H at hP hS hq0 ⊢
          have hP : va_P (dC, dI) classes ([(qr, .inr (5, [.ref h0, .int (nI o)])), (qu, .inl (cI, 4096, .inl ug)), (q, .inr (7, [.int 0, .null, .int 0, .int 0, .long 0, .long 0, .long 1, .null, .null])), (h0, .inr (8, [.ref qb, .ref qu, .int uc, .int ln, .int (nI n), .int (nI i), .int pl])), (qb, .inl (cB, 4096, .inl bf))] ++ va_pl L f) H := hP
          have hD : va_D A ([(qr, .inr (5, [.ref h0, .int (nI o)])), (qu, .inl (cI, 4096, .inl ug)), (q, .inr (7, [.int 0, .null, .int 0, .int 0, .long 0, .long 0, .long 1, .null, .null])), (h0, .inr (8, [.ref qb, .ref qu, .int uc, .int ln, .int (nI n), .int (nI i), .int pl])), (qb, .inl (cB, 4096, .inl bf))] ++ va_pl L f) := hD
          have hP := hP.part (cx := [(qr, .inr (5, [.ref h0, .int (nI o)])), (h0, .inr (8, [.ref qb, .ref qu, .int uc, .int ln, .int (nI n), .int (nI i), .int pl])), (qb, .inl (cB, 4096, .inl bf)), (qu, .inl (cI, 4096, .inl ug)), (q, .inr (7, [.int 0, .null, .int 0, .int 0, .long 0, .long 0, .long 1, .null, .null]))]) [0, 3, 4, 1, 2] rfl
          have hD := hD.part (cx := [(qr, .inr (5, [.ref h0, .int (nI o)])), (h0, .inr (8, [.ref qb, .ref qu, .int uc, .int ln, .int (nI n), .int (nI i), .int pl])), (qb, .inl (cB, 4096, .inl bf)), (qu, .inl (cI, 4096, .inl ug)), (q, .inr (7, [.int 0, .null, .int 0, .int 0, .long 0, .long 0, .long 1, .null, .null]))]) [0, 3, 4, 1, 2] (by decide) rfl
          exact hw.elim
  · refine lv_aload_n hx hb d_QueryReader_shortSelector_4 rfl (lv_at hl 0 rfl) ?_
    refine va_get (D := (dC, dI)) (ci := 5) (v := .ref h0) (C := R_QueryReader) (T := F_QueryReader) (N := 2) hx hb hts in_QueryReader hown hK hP 0 rfl rfl 0 (by decide) (hts _ w_100) (fun _ h9 => h9) rfl d_QueryReader_shortSelector_5 ?_
    refine lv_bipush (v := 42) hx hb d_QueryReader_shortSelector_8 (by decide) ?_
    have hPc := hP.sub (ws' := [(h0, .inr (8, [.ref qb, .ref qu, .int uc, .int ln, .int (nI n), .int (nI i), .int pl])), (qb, .inl (cB, 4096, .inl bf))]) [1, 2] rfl
    have hDc := hD.sub (ws' := [(h0, .inr (8, [.ref qb, .ref qu, .int uc, .int ln, .int (nI n), .int (nI i), .int pl])), (qb, .inl (cB, 4096, .inl bf))]) [1, 2] (by decide) rfl
    have hFc := va_free (wc := [(h0, .inr (8, [.ref qb, .ref qu, .int uc, .int ln, .int (nI n), .int (nI i), .int pl])), (qb, .inl (cB, 4096, .inl bf))]) hD hS hA [1, 2] rfl
    have hKc := hK.sub (tys' := [(cB, .byte)]) [0] rfl
    refine va_calli (va_runV (As := [.int 42]) (rest := []) ⟨hx, hb, hml, hown, hts⟩ (c_Tape_takeIf l dC dI cB h0 qb s.heap (.ref qu) uc ln pl bf n i 42 hn0 (by omega)) (cwV 1 hts (gt_V (own := R_QueryReader) (C := R_Tape) (i := 58) (y := y_Tape_takeIf) i_Tape_takeIf z_589 z_393 z_394 w_2) rfl rfl rfl (by decide +kernel) ⟨Nat.le_of_ble_eq_true rfl, Nat.le_of_ble_eq_true rfl⟩) ⟨mp_blind, va_recv hK hP (ci := 8) (q0 := 1) rfl rfl, fun U hU hW => ⟨rfl, hU, by rw [hU]; exact hPc, va_K.moved hW.alike hKc, hDc.weaken (fun _ _ _ _ => trivial)⟩⟩ rfl rfl hl.1 rfl (lv_room (Nat.le_of_ble_eq_true rfl)) d_QueryReader_shortSelector_10 ⟨by show 0 + (0) ≤ 3; omega, by show 0 + (0) ≤ 15 + (n - i); omega⟩) hS (fun q _ h => hFc q h) hFc (fun r27 u27 t9 H1 locs ht hvm hw hB hz1 hk1 hS => ?_)
    obtain ⟨hP1, hK1, hD1⟩ := hB
    rw [ht] at hP1
    obtain ⟨hP, hD⟩ := va_joinQ (wr := [(qr, .inr (5, [.ref h0, .int (nI o)])), (qu, .inl (cI, 4096, .inl ug))]) (w1 := [(h0, .inr (8, [.ref qb, .ref qu, .int uc, .int ln, .int (nI n), .int (nI u27), .int pl])), (qb, .inl (cB, 4096, .inl bf))]) hP hD [1, 2] [0, 3] rfl rfl (by decide) (by decide) hk1 hFc hP1 hD1
    generalize H1 = H at hP hS ⊢
    have hP : va_P (dC, dI) classes ([(qr, .inr (5, [.ref h0, .int (nI o)])), (qu, .inl (cI, 4096, .inl ug)), (h0, .inr (8, [.ref qb, .ref qu, .int uc, .int ln, .int (nI n), .int (nI u27), .int pl])), (qb, .inl (cB, 4096, .inl bf))] ++ va_pl L f) H := hP
    have hD : va_D A ([(qr, .inr (5, [.ref h0, .int (nI o)])), (qu, .inl (cI, 4096, .inl ug)), (h0, .inr (8, [.ref qb, .ref qu, .int uc, .int ln, .int (nI n), .int (nI u27), .int pl])), (qb, .inl (cB, 4096, .inl bf))] ++ va_pl L f) := hD
    have hP := hP.part (cx := [(qr, .inr (5, [.ref h0, .int (nI o)])), (h0, .inr (8, [.ref qb, .ref qu, .int uc, .int ln, .int (nI n), .int (nI u27), .int pl])), (qb, .inl (cB, 4096, .inl bf)), (qu, .inl (cI, 4096, .inl ug))]) [0, 2, 3, 1] rfl
    have hD := hD.part (cx := [(qr, .inr (5, [.ref h0, .int (nI o)])), (h0, .inr (8, [.ref qb, .ref qu, .int uc, .int ln, .int (nI n), .int (nI u27), .int pl])), (qb, .inl (cB, 4096, .inl bf)), (qu, .inl (cI, 4096, .inl ug))]) [0, 2, 3, 1] (by decide) rfl
    rcases hw with ⟨ht27, hr27, hu27⟩ | ⟨ht27, hr27, hu27⟩
    · have hu27 : u27 = i + 1 := hu27
      subst hr27
      rw [hu27] at hP hD
      have hl27 := here_lc ht27 (by decide)
      have hP : va_P (dC, dI) classes ([(qr, .inr (5, [.ref h0, .int (nI o)])), (h0, .inr (8, [.ref qb, .ref qu, .int uc, .int ln, .int (nI n), .int (nI (i + 1)), .int pl])), (qb, .inl (cB, 4096, .inl bf)), (qu, .inl (cI, 4096, .inl ug))] ++ va_pl L f) H := hP
      have hD : va_D A ([(qr, .inr (5, [.ref h0, .int (nI o)])), (h0, .inr (8, [.ref qb, .ref qu, .int uc, .int ln, .int (nI n), .int (nI (i + 1)), .int pl])), (qb, .inl (cB, 4096, .inl bf)), (qu, .inl (cI, 4096, .inl ug))] ++ va_pl L f) := hD
      refine lv_if_eq (tgt := 25) hx hb d_QueryReader_shortSelector_13 (by decide) (fun h => absurd h (by decide)) (fun _ => ?_)
      refine va_new (ci := 7) (fs := [.int 0, .null, .int 0, .int 0, .long 0, .long 0, .long 0, .null, .null]) (C := R_Selector) (T := F_Selector) (N := 9) hx hb hts in_Selector t_Selector t_Selector_ok hown (hts _ z_603) (hts _ z_604) (hts _ z_25) hK hP hD hS hA rfl (fun j hj => by rcases (show j = 0 ∨ j = 1 ∨ j = 2 ∨ j = 3 ∨ j = 4 ∨ j = 5 ∨ j = 6 ∨ j = 7 ∨ j = 8 by omega) with rfl | rfl | rfl | rfl | rfl | rfl | rfl | rfl | rfl <;> rfl) (by show 0 + 1 ≤ 3; omega) (by show 0 + 9 ≤ 15 + (n - i); omega) d_QueryReader_shortSelector_16 (fun q H hP hD hS => ?_)
      have hz_q := newA hAe hD (fun k x hk => by rcases k with _ | _ | _ | _ | k; (· cases hk; exact ⟨0, _, rfl⟩); (· cases hk; exact ⟨1, _, rfl⟩); (· cases hk; exact ⟨2, _, rfl⟩); (· cases hk; exact ⟨3, _, rfl⟩); (· exact ⟨k + 4, x.2, hk⟩))
      have hP := hP.swap
      have hD := hD.swap
      have hP : va_P (dC, dI) classes ([(qr, .inr (5, [.ref h0, .int (nI o)])), (h0, .inr (8, [.ref qb, .ref qu, .int uc, .int ln, .int (nI n), .int (nI (i + 1)), .int pl])), (qb, .inl (cB, 4096, .inl bf)), (qu, .inl (cI, 4096, .inl ug)), (q, .inr (7, [.int 0, .null, .int 0, .int 0, .long 0, .long 0, .long 0, .null, .null]))] ++ va_pl L f) H := hP
      have hD : va_D A ([(qr, .inr (5, [.ref h0, .int (nI o)])), (h0, .inr (8, [.ref qb, .ref qu, .int uc, .int ln, .int (nI n), .int (nI (i + 1)), .int pl])), (qb, .inl (cB, 4096, .inl bf)), (qu, .inl (cI, 4096, .inl ug)), (q, .inr (7, [.int 0, .null, .int 0, .int 0, .long 0, .long 0, .long 0, .null, .null]))] ++ va_pl L f) := hD
      refine lv_dup hx hb d_QueryReader_shortSelector_19 rfl ?_
      refine lv_iconst (v := 1) hx hb d_QueryReader_shortSelector_20 (by decide) ?_
      have hPc := hP.sub (ws' := [(q, .inr (7, [.int 0, .null, .int 0, .int 0, .long 0, .long 0, .long 0, .null, .null]))]) [4] rfl
      have hDc := hD.sub (ws' := [(q, .inr (7, [.int 0, .null, .int 0, .int 0, .long 0, .long 0, .long 0, .null, .null]))]) [4] (by decide) rfl
      have hFc := va_free (wc := [(q, .inr (7, [.int 0, .null, .int 0, .int 0, .long 0, .long 0, .long 0, .null, .null]))]) hD hS hA [4] rfl
      have hKc := hK.sub (tys' := []) [] rfl
      refine w_same (fun hq0 => ?_)
      refine va_callv (va_runI (As := [.int 1]) (rest := [.ref q]) ⟨hx, hb, hml, hown, hts⟩ (c_Selector_init l dC dI H q 1) (cwI 1 hts (gt_code i_Selector_init) rfl rfl rfl (hts _ z_25) (hts _ z_605) (hts _ z_606) rfl (by decide +kernel) ⟨Nat.le_of_ble_eq_true rfl, Nat.le_of_ble_eq_true rfl⟩) ⟨mp_blind, fun U hU hW => ⟨rfl, hU, by rw [hU]; exact hPc, va_K.moved hW.alike hKc, hDc.weaken (fun _ _ _ _ => trivial)⟩⟩ rfl rfl hl.1 rfl (lv_room (Nat.le_of_ble_eq_true rfl)) d_QueryReader_shortSelector_21 ⟨by show (0 + 1) + (0) ≤ 3; omega, by show (0 + 9) + (0) ≤ 15 + (n - i); omega⟩) hS (fun q _ h => hFc q h) hFc (fun _u t9 H1 locs ht hvm hw hB hz1 hk1 hS => ?_)
      obtain ⟨⟨hP1, hK1, hD1⟩, hz9⟩ := hB
      rw [ht] at hP1
      rw [ht] at hz9
      have hq0 : szk s.heap H1 ((0 + 1)) ((0 + 9)) := (hq0.trans hz9).mono (Nat.le_of_eq (Nat.add_zero _)) (Nat.le_of_eq (Nat.add_zero _))
      refine w_tight hq0 ?_
      obtain ⟨hP, hD⟩ := va_joinQ (wr := [(qr, .inr (5, [.ref h0, .int (nI o)])), (h0, .inr (8, [.ref qb, .ref qu, .int uc, .int ln, .int (nI n), .int (nI (i + 1)), .int pl])), (qb, .inl (cB, 4096, .inl bf)), (qu, .inl (cI, 4096, .inl ug))]) (w1 := [(q, .inr (7, [.int 1, .null, .int 0, .int 0, .long 0, .long 0, .long 1, .null, .null]))]) hP hD [4] [0, 1, 2, 3] rfl rfl (by decide) (by decide) hk1 hFc hP1 hD1
      generalize H1 = H at hP hS hq0 ⊢
      have hP : va_P (dC, dI) classes ([(qr, .inr (5, [.ref h0, .int (nI o)])), (h0, .inr (8, [.ref qb, .ref qu, .int uc, .int ln, .int (nI n), .int (nI (i + 1)), .int pl])), (qb, .inl (cB, 4096, .inl bf)), (qu, .inl (cI, 4096, .inl ug)), (q, .inr (7, [.int 1, .null, .int 0, .int 0, .long 0, .long 0, .long 1, .null, .null]))] ++ va_pl L f) H := hP
      have hD : va_D A ([(qr, .inr (5, [.ref h0, .int (nI o)])), (h0, .inr (8, [.ref qb, .ref qu, .int uc, .int ln, .int (nI n), .int (nI (i + 1)), .int pl])), (qb, .inl (cB, 4096, .inl bf)), (qu, .inl (cI, 4096, .inl ug)), (q, .inr (7, [.int 1, .null, .int 0, .int 0, .long 0, .long 0, .long 1, .null, .null]))] ++ va_pl L f) := hD
      have hqL := plD_new (X := [(qr, .inr (5, [.ref h0, .int (nI o)])), (h0, .inr (8, [.ref qb, .ref qu, .int uc, .int ln, .int (nI n), .int (nI (i + 1)), .int pl])), (qb, .inl (cB, 4096, .inl bf)), (qu, .inl (cI, 4096, .inl ug))]) hD
      have hq0 : E q = 0 := Classical.byContradiction (fun h => hqL (hO.inL h))
      have hP := plP_push (X := [(qr, .inr (5, [.ref h0, .int (nI o)])), (h0, .inr (8, [.ref qb, .ref qu, .int uc, .int ln, .int (nI n), .int (nI (i + 1)), .int pl])), (qb, .inl (cB, 4096, .inl bf)), (qu, .inl (cI, 4096, .inl ug))]) hP hqL
      have hD := plD_push (X := [(qr, .inr (5, [.ref h0, .int (nI o)])), (h0, .inr (8, [.ref qb, .ref qu, .int uc, .int ln, .int (nI n), .int (nI (i + 1)), .int pl])), (qb, .inl (cB, 4096, .inl bf)), (qu, .inl (cI, 4096, .inl ug))]) hD hqL
      have hqE : E q = 0 := hq0
      have hQ : QPn cI cV E L f i n s.heap.size 9 0 0 q (i + 1) ([] ++ [q]) (va_up E q 9) (va_up f q (lE 1 none 0 0 0 0 1 none none)) := by
        refine ⟨hqE, va_up_self _ _ _, by omega, by omega, fun lv hO b _ => ?_⟩
        have hG0 : QG cI cV E lv L f i n (i + 1) s.heap.size [] E lv f := (QG.rf hO hin).mv (by omega) (by omega)
        exact ⟨va_up lv q b, hG0.add (q := q) (s := 9) (b := b) (e := lE 1 none 0 0 0 0 1 none none) hq0 (by rw [List.append_nil]; exact hqL) hz_q (by decide) (by decide) (CO.L (va_up_self _ _ _) ⟨_, _, _, _, _, _, _, _, _, rfl, ⟨fun b h => (nomatch h), fun b h => (nomatch h), fun b h => (nomatch h), fun h => absurd h (by decide), fun h0 h1 => absurd rfl h1, by decide, by decide⟩⟩), va_up_self _ _ _⟩
      have hP : va_P (dC, dI) classes ([(qr, .inr (5, [.ref h0, .int (nI o)])), (h0, .inr (8, [.ref qb, .ref qu, .int uc, .int ln, .int (nI n), .int (nI (i + 1)), .int pl])), (qb, .inl (cB, 4096, .inl bf)), (qu, .inl (cI, 4096, .inl ug))] ++ va_pl ((L ++ ([] ++ [q]))) ((va_up f q (lE 1 none 0 0 0 0 1 none none)))) H := hP
      have hD : va_D A ([(qr, .inr (5, [.ref h0, .int (nI o)])), (h0, .inr (8, [.ref qb, .ref qu, .int uc, .int ln, .int (nI n), .int (nI (i + 1)), .int pl])), (qb, .inl (cB, 4096, .inl bf)), (qu, .inl (cI, 4096, .inl ug))] ++ va_pl ((L ++ ([] ++ [q]))) ((va_up f q (lE 1 none 0 0 0 0 1 none none)))) := hD
      have hok : shD bf n (nwB nw) i = some ((i + 1), sgL ((va_up f q (lE 1 none 0 0 0 0 1 none none)) q), [eachS]) := by rw [va_up_self, sgL_1]; exact shD_a (nwB_0 c1) ht27
      have hdn : DNx LD 8 E (va_up E q 9) (va_up f q (lE 1 none 0 0 0 0 1 none none)) q eachS := DNx.each
      refine w_same (fun hq => ?_)
      refine W.widen (k := 3) (n := 15 + (n - i)) (by show (0 + 1) ≤ 3; omega) (by show (0 + 9) ≤ 15 + (n - i); omega) ?_
      refine vx_ret ?_
      exact W.aret (v := .ref q) hx hb hr (Or.inl ⟨_, rfl⟩) (Or.inr ⟨_, rfl⟩) (fun t9 ht hW => ⟨⟨(q, (i + 1), [] ++ [q], va_up E q 9, va_up f q (lE 1 none 0 0 0 0 1 none none)), q, rfl, ⟨hQ, _, hok, hdn⟩, ⟨by rw [ht]; exact hP, va_K.moved hW.alike hK, hD⟩, by rw [ht]; exact ⟨hq.mono (by show (0 + 1) ≤ 2; omega) (by show (0 + 9) ≤ 9 + ((i + 1) - i); omega), rfl⟩⟩, hS.F ht⟩) hS.2.2 d_QueryReader_shortSelector_24
    · have hu27 : u27 = i := hu27
      subst hr27
      rw [hu27] at hP hD
      have hP : va_P (dC, dI) classes ([(qr, .inr (5, [.ref h0, .int (nI o)])), (h0, .inr (8, [.ref qb, .ref qu, .int uc, .int ln, .int (nI n), .int (nI i), .int pl])), (qb, .inl (cB, 4096, .inl bf)), (qu, .inl (cI, 4096, .inl ug))] ++ va_pl L f) H := hP
      have hD : va_D A ([(qr, .inr (5, [.ref h0, .int (nI o)])), (h0, .inr (8, [.ref qb, .ref qu, .int uc, .int ln, .int (nI n), .int (nI i), .int pl])), (qb, .inl (cB, 4096, .inl bf)), (qu, .inl (cI, 4096, .inl ug))] ++ va_pl L f) := hD
      have hns : ¬ (nwB nw = false ∧ hereV bf n i = 42) := fun q => ht27 q.2
      refine lv_if_eq (tgt := 25) hx hb d_QueryReader_shortSelector_13 (by decide) (fun _ => ?_) (fun h => absurd (by decide) h)
      refine va_new (ci := 7) (fs := [.int 0, .null, .int 0, .int 0, .long 0, .long 0, .long 0, .null, .null]) (C := R_Selector) (T := F_Selector) (N := 9) hx hb hts in_Selector t_Selector t_Selector_ok hown (hts _ z_603) (hts _ z_604) (hts _ z_25) hK hP hD hS hA rfl (fun j hj => by rcases (show j = 0 ∨ j = 1 ∨ j = 2 ∨ j = 3 ∨ j = 4 ∨ j = 5 ∨ j = 6 ∨ j = 7 ∨ j = 8 by omega) with rfl | rfl | rfl | rfl | rfl | rfl | rfl | rfl | rfl <;> rfl) (by show 0 + 1 ≤ 3; omega) (by show 0 + 9 ≤ 15 + (n - i); omega) d_QueryReader_shortSelector_25 (fun q H hP hD hS => ?_)
      have hz_q := newA hAe hD (fun k x hk => by rcases k with _ | _ | _ | _ | k; (· cases hk; exact ⟨0, _, rfl⟩); (· cases hk; exact ⟨1, _, rfl⟩); (· cases hk; exact ⟨2, _, rfl⟩); (· cases hk; exact ⟨3, _, rfl⟩); (· exact ⟨k + 4, x.2, hk⟩))
      have hP := hP.swap
      have hD := hD.swap
      have hP : va_P (dC, dI) classes ([(qr, .inr (5, [.ref h0, .int (nI o)])), (h0, .inr (8, [.ref qb, .ref qu, .int uc, .int ln, .int (nI n), .int (nI i), .int pl])), (qb, .inl (cB, 4096, .inl bf)), (qu, .inl (cI, 4096, .inl ug)), (q, .inr (7, [.int 0, .null, .int 0, .int 0, .long 0, .long 0, .long 0, .null, .null]))] ++ va_pl L f) H := hP
      have hD : va_D A ([(qr, .inr (5, [.ref h0, .int (nI o)])), (h0, .inr (8, [.ref qb, .ref qu, .int uc, .int ln, .int (nI n), .int (nI i), .int pl])), (qb, .inl (cB, 4096, .inl bf)), (qu, .inl (cI, 4096, .inl ug)), (q, .inr (7, [.int 0, .null, .int 0, .int 0, .long 0, .long 0, .long 0, .null, .null]))] ++ va_pl L f) := hD
      refine lv_dup hx hb d_QueryReader_shortSelector_28 rfl ?_
      refine lv_iconst (v := 0) hx hb d_QueryReader_shortSelector_29 (by decide) ?_
      have hPc := hP.sub (ws' := [(q, .inr (7, [.int 0, .null, .int 0, .int 0, .long 0, .long 0, .long 0, .null, .null]))]) [4] rfl
      have hDc := hD.sub (ws' := [(q, .inr (7, [.int 0, .null, .int 0, .int 0, .long 0, .long 0, .long 0, .null, .null]))]) [4] (by decide) rfl
      have hFc := va_free (wc := [(q, .inr (7, [.int 0, .null, .int 0, .int 0, .long 0, .long 0, .long 0, .null, .null]))]) hD hS hA [4] rfl
      have hKc := hK.sub (tys' := []) [] rfl
      refine w_same (fun hq0 => ?_)
      refine va_callv (va_runI (As := [.int 0]) (rest := [.ref q]) ⟨hx, hb, hml, hown, hts⟩ (c_Selector_init l dC dI H q 0) (cwI 1 hts (gt_code i_Selector_init) rfl rfl rfl (hts _ z_25) (hts _ z_605) (hts _ z_606) rfl (by decide +kernel) ⟨Nat.le_of_ble_eq_true rfl, Nat.le_of_ble_eq_true rfl⟩) ⟨mp_blind, fun U hU hW => ⟨rfl, hU, by rw [hU]; exact hPc, va_K.moved hW.alike hKc, hDc.weaken (fun _ _ _ _ => trivial)⟩⟩ rfl rfl hl.1 rfl (lv_room (Nat.le_of_ble_eq_true rfl)) d_QueryReader_shortSelector_30 ⟨by show (0 + 1) + (0) ≤ 3; omega, by show (0 + 9) + (0) ≤ 15 + (n - i); omega⟩) hS (fun q _ h => hFc q h) hFc (fun _u t9 H1 locs ht hvm hw hB hz1 hk1 hS => ?_)
      obtain ⟨⟨hP1, hK1, hD1⟩, hz9⟩ := hB
      rw [ht] at hP1
      rw [ht] at hz9
      have hq0 : szk s.heap H1 ((0 + 1)) ((0 + 9)) := (hq0.trans hz9).mono (Nat.le_of_eq (Nat.add_zero _)) (Nat.le_of_eq (Nat.add_zero _))
      refine w_tight hq0 ?_
      obtain ⟨hP, hD⟩ := va_joinQ (wr := [(qr, .inr (5, [.ref h0, .int (nI o)])), (h0, .inr (8, [.ref qb, .ref qu, .int uc, .int ln, .int (nI n), .int (nI i), .int pl])), (qb, .inl (cB, 4096, .inl bf)), (qu, .inl (cI, 4096, .inl ug))]) (w1 := [(q, .inr (7, [.int 0, .null, .int 0, .int 0, .long 0, .long 0, .long 1, .null, .null]))]) hP hD [4] [0, 1, 2, 3] rfl rfl (by decide) (by decide) hk1 hFc hP1 hD1
      generalize H1 = H at hP hS hq0 ⊢
      have hP : va_P (dC, dI) classes ([(qr, .inr (5, [.ref h0, .int (nI o)])), (h0, .inr (8, [.ref qb, .ref qu, .int uc, .int ln, .int (nI n), .int (nI i), .int pl])), (qb, .inl (cB, 4096, .inl bf)), (qu, .inl (cI, 4096, .inl ug)), (q, .inr (7, [.int 0, .null, .int 0, .int 0, .long 0, .long 0, .long 1, .null, .null]))] ++ va_pl L f) H := hP
      have hD : va_D A ([(qr, .inr (5, [.ref h0, .int (nI o)])), (h0, .inr (8, [.ref qb, .ref qu, .int uc, .int ln, .int (nI n), .int (nI i), .int pl])), (qb, .inl (cB, 4096, .inl bf)), (qu, .inl (cI, 4096, .inl ug)), (q, .inr (7, [.int 0, .null, .int 0, .int 0, .long 0, .long 0, .long 1, .null, .null]))] ++ va_pl L f) := hD
      refine lv_astore_n (lv' := [(2, .ref q), (0, .ref qr), (1, .int nw)]) hx hb d_QueryReader_shortSelector_33 rfl hl (by decide) rfl (fun ls hl => ?_)
      refine lv_aload_n hx hb d_QueryReader_shortSelector_34 rfl (lv_at hl 1 rfl) ?_
      refine va_get (D := (dC, dI)) (ci := 5) (v := .ref h0) (C := R_QueryReader) (T := F_QueryReader) (N := 2) hx hb hts in_QueryReader hown hK hP 0 rfl rfl 0 (by decide) (hts _ w_100) (fun _ h9 => h9) rfl d_QueryReader_shortSelector_35 ?_
      refine va_get (D := (dC, dI)) (ci := 8) (v := .int (nI i)) (C := R_Tape) (T := F_Tape) (N := 7) hx hb hts in_Tape hown hK hP 1 rfl rfl 5 (by decide) (hts _ z_53) (fun _ h9 => h9) rfl d_QueryReader_shortSelector_38 ?_
      refine lv_istore_n (lv' := [(3, .int (nI i)), (2, .ref q), (0, .ref qr), (1, .int nw)]) hx hb d_QueryReader_shortSelector_41 rfl hl (by decide) rfl (fun ls hl => ?_)
      refine lv_aload_n hx hb d_QueryReader_shortSelector_42 rfl (lv_at hl 2 rfl) ?_
      refine va_get (D := (dC, dI)) (ci := 5) (v := .ref h0) (C := R_QueryReader) (T := F_QueryReader) (N := 2) hx hb hts in_QueryReader hown hK hP 0 rfl rfl 0 (by decide) (hts _ w_100) (fun _ h9 => h9) rfl d_QueryReader_shortSelector_43 ?_
      have hPc := hP.sub (ws' := [(h0, .inr (8, [.ref qb, .ref qu, .int uc, .int ln, .int (nI n), .int (nI i), .int pl])), (qb, .inl (cB, 4096, .inl bf))]) [1, 2] rfl
      have hDc := hD.sub (ws' := [(h0, .inr (8, [.ref qb, .ref qu, .int uc, .int ln, .int (nI n), .int (nI i), .int pl])), (qb, .inl (cB, 4096, .inl bf))]) [1, 2] (by decide) rfl
      have hFc := va_free (wc := [(h0, .inr (8, [.ref qb, .ref qu, .int uc, .int ln, .int (nI n), .int (nI i), .int pl])), (qb, .inl (cB, 4096, .inl bf))]) hD hS hA [1, 2] rfl
      have hKc := hK.sub (tys' := [(cB, .byte)]) [0] rfl
      refine va_calli (va_runV (As := []) (rest := []) ⟨hx, hb, hml, hown, hts⟩ (c_Tape_here l dC dI cB h0 qb H (.ref qu) uc ln pl bf n i hn0 (by omega)) (cwV 0 hts (gt_V (own := R_QueryReader) (C := R_Tape) (i := 19) (y := y_Tape_here) i_Tape_here z_534 w_363 w_364 w_2) rfl rfl rfl (by decide +kernel) ⟨Nat.le_of_ble_eq_true rfl, Nat.le_of_ble_eq_true rfl⟩) ⟨mp_blind, va_recv hK hP (ci := 8) (q0 := 1) rfl rfl, fun U hU hW => ⟨rfl, hU, by rw [hU]; exact hPc, va_K.moved hW.alike hKc, hDc.weaken (fun _ _ _ _ => trivial)⟩⟩ rfl rfl hl.1 rfl (lv_room (Nat.le_of_ble_eq_true rfl)) d_QueryReader_shortSelector_46 ⟨by show (0 + 1) + (0) ≤ 3; omega, by show (0 + 9) + (0) ≤ 15 + (n - i); omega⟩) hS (fun q _ h => hFc q h) hFc (fun h28 _u t9 H1 locs ht hvm hw hB hz1 hk1 hS => ?_)
      obtain ⟨hP1, hK1, hD1⟩ := hB
      rw [ht] at hP1
      obtain ⟨hP, hD⟩ := va_joinQ (wr := [(qr, .inr (5, [.ref h0, .int (nI o)])), (qu, .inl (cI, 4096, .inl ug)), (q, .inr (7, [.int 0, .null, .int 0, .int 0, .long 0, .long 0, .long 1, .null, .null]))]) (w1 := [(h0, .inr (8, [.ref qb, .ref qu, .int uc, .int ln, .int (nI n), .int (nI i), .int pl])), (qb, .inl (cB, 4096, .inl bf))]) hP hD [1, 2] [0, 3, 4] rfl rfl (by decide) (by decide) hk1 hFc hP1 hD1
      generalize H1 = H at hP hS ⊢
      have hP : va_P (dC, dI) classes ([(qr, .inr (5, [.ref h0, .int (nI o)])), (qu, .inl (cI, 4096, .inl ug)), (q, .inr (7, [.int 0, .null, .int 0, .int 0, .long 0, .long 0, .long 1, .null, .null])), (h0, .inr (8, [.ref qb, .ref qu, .int uc, .int ln, .int (nI n), .int (nI i), .int pl])), (qb, .inl (cB, 4096, .inl bf))] ++ va_pl L f) H := hP
      have hD : va_D A ([(qr, .inr (5, [.ref h0, .int (nI o)])), (qu, .inl (cI, 4096, .inl ug)), (q, .inr (7, [.int 0, .null, .int 0, .int 0, .long 0, .long 0, .long 1, .null, .null])), (h0, .inr (8, [.ref qb, .ref qu, .int uc, .int ln, .int (nI n), .int (nI i), .int pl])), (qb, .inl (cB, 4096, .inl bf))] ++ va_pl L f) := hD
      have hP := hP.part (cx := [(qr, .inr (5, [.ref h0, .int (nI o)])), (h0, .inr (8, [.ref qb, .ref qu, .int uc, .int ln, .int (nI n), .int (nI i), .int pl])), (qb, .inl (cB, 4096, .inl bf)), (qu, .inl (cI, 4096, .inl ug)), (q, .inr (7, [.int 0, .null, .int 0, .int 0, .long 0, .long 0, .long 1, .null, .null]))]) [0, 3, 4, 1, 2] rfl
      have hD := hD.part (cx := [(qr, .inr (5, [.ref h0, .int (nI o)])), (h0, .inr (8, [.ref qb, .ref qu, .int uc, .int ln, .int (nI n), .int (nI i), .int pl])), (qb, .inl (cB, 4096, .inl bf)), (qu, .inl (cI, 4096, .inl ug)), (q, .inr (7, [.int 0, .null, .int 0, .int 0, .long 0, .long 0, .long 1, .null, .null]))]) [0, 3, 4, 1, 2] (by decide) rfl
      have h_h28 : h28 = hereV bf n i := hw
      refine vp_callSi (va_Run.run (va_runS (As := [.int h28]) (rest := []) ⟨hx, hb, hml, hown, hts⟩ (c_QueryReader_isNameByte l dC dI H h28) (va_cwS 1 hts (gt_S (own := R_QueryReader) (i := 81) (y := y_QueryReader_isNameByte) i_QueryReader_isNameByte z_793 z_794 w_4) rfl rfl rfl (by decide +kernel) ⟨Nat.le_of_ble_eq_true rfl, Nat.le_of_ble_eq_true rfl⟩) ⟨mT_blind, fun U hU hW => ⟨rfl, hN.warm hW⟩⟩ rfl rfl hl.1 rfl (lv_room (Nat.le_of_ble_eq_true rfl)) d_QueryReader_shortSelector_49 ⟨by show (0 + 1) + (0) ≤ 3; omega, by show (0 + 9) + (0) ≤ 15 + (n - i); omega⟩)) (fun r29 h_r29 => ?_)
      refine lv_if_eq (tgt := 68) hx hb d_QueryReader_shortSelector_52 (by decide) (fun c52 => ?_) (fun c52 => ?_)
      · refine lv_aload_n hx hb d_QueryReader_shortSelector_68 rfl (lv_at hl 2 rfl) ?_
        refine va_get (D := (dC, dI)) (ci := 5) (v := .ref h0) (C := R_QueryReader) (T := F_QueryReader) (N := 2) hx hb hts in_QueryReader hown hK hP 0 rfl rfl 0 (by decide) (hts _ w_100) (fun _ h9 => h9) rfl d_QueryReader_shortSelector_69 ?_
        refine lv_iload_n hx hb d_QueryReader_shortSelector_72 rfl (lv_at hl 0 rfl) ?_
        have hPc := hP.sub (ws' := [(h0, .inr (8, [.ref qb, .ref qu, .int uc, .int ln, .int (nI n), .int (nI i), .int pl])), (qb, .inl (cB, 4096, .inl bf))]) [1, 2] rfl
        have hDc := hD.sub (ws' := [(h0, .inr (8, [.ref qb, .ref qu, .int uc, .int ln, .int (nI n), .int (nI i), .int pl])), (qb, .inl (cB, 4096, .inl bf))]) [1, 2] (by decide) rfl
        have hFc := va_free (wc := [(h0, .inr (8, [.ref qb, .ref qu, .int uc, .int ln, .int (nI n), .int (nI i), .int pl])), (qb, .inl (cB, 4096, .inl bf))]) hD hS hA [1, 2] rfl
        have hKc := hK.sub (tys' := [(cB, .byte)]) [0] rfl
        refine w_same (fun hq0 => ?_)
        refine vx_callv (vx_runV (As := [.int (nI i)]) (rest := []) ⟨hx, hb, hml, hown, hts⟩ (c_Tape_fail l hl9 dC dI cB h0 qb H (.ref qu) uc ln (nI n) (nI i) pl bf ((nI i))) (cwV 1 hts (gt_V (own := R_QueryReader) (C := R_Tape) (i := 28) (y := y_Tape_fail) i_Tape_fail z_535 w_371 w_372 w_2) rfl rfl rfl (by decide +kernel) ⟨Nat.le_of_ble_eq_true rfl, Nat.le_of_ble_eq_true rfl⟩) ⟨mx_blind, va_recv hK hP (ci := 8) (q0 := 1) rfl rfl, fun U hU hW => ⟨rfl, ⟨hU, by rw [hU]; exact hPc, va_K.moved hW.alike hKc, hDc.weaken (fun _ _ _ _ => trivial)⟩, hN.warm hW, by rw [hU]; exact ZX.moved' hW.alike (ZX.narrow' (ZX.kept' hZ hS.2.1) hFc)⟩⟩ rfl rfl hl.1 rfl (lv_room (Nat.le_of_ble_eq_true rfl)) d_QueryReader_shortSelector_73 ⟨by show (0 + 1) + (1) ≤ 3; omega, by show (0 + 9) + (6) ≤ 15 + (n - i); omega⟩) hS (fun q _ h => hFc q h) hFc (fun q _ h => hFc q h) (fun En ce q9 _u t9 H1 locs ht hvm hw hB hz1 hk1 hS hce hcv hcl => ?_) (fun _u t9 H1 locs ht hvm hw hB hz1 hk1 hS => ?_)
        · obtain ⟨hEn, hP1, hK1, hD1⟩ := hB
          rw [ht] at hP1
          obtain ⟨hP, hD⟩ := va_joinQ (wr := [(qr, .inr (5, [.ref h0, .int (nI o)])), (qu, .inl (cI, 4096, .inl ug)), (q, .inr (7, [.int 0, .null, .int 0, .int 0, .long 0, .long 0, .long 1, .null, .null]))]) (w1 := [(h0, .inr (8, [.ref qb, .ref qu, .int uc, .int ln, .int (nI n), .int (nI i), .int (nI i)])), (qb, .inl (cB, 4096, .inl bf))]) hP hD [1, 2] [0, 3, 4] rfl rfl (by decide) (by decide) hk1 hFc hP1 hD1
          generalize H1 = H at hP hS hce ⊢
          have hP : va_P (dC, dI) classes ([(qr, .inr (5, [.ref h0, .int (nI o)])), (qu, .inl (cI, 4096, .inl ug)), (q, .inr (7, [.int 0, .null, .int 0, .int 0, .long 0, .long 0, .long 1, .null, .null])), (h0, .inr (8, [.ref qb, .ref qu, .int uc, .int ln, .int (nI n), .int (nI i), .int (nI i)])), (qb, .inl (cB, 4096, .inl bf))] ++ va_pl L f) H := hP
          have hD : va_D A ([(qr, .inr (5, [.ref h0, .int (nI o)])), (qu, .inl (cI, 4096, .inl ug)), (q, .inr (7, [.int 0, .null, .int 0, .int 0, .long 0, .long 0, .long 1, .null, .null])), (h0, .inr (8, [.ref qb, .ref qu, .int uc, .int ln, .int (nI n), .int (nI i), .int (nI i)])), (qb, .inl (cB, 4096, .inl bf))] ++ va_pl L f) := hD
          have hP := hP.part (cx := [(qr, .inr (5, [.ref h0, .int (nI o)])), (h0, .inr (8, [.ref qb, .ref qu, .int uc, .int ln, .int (nI n), .int (nI i), .int (nI i)])), (qb, .inl (cB, 4096, .inl bf)), (qu, .inl (cI, 4096, .inl ug)), (q, .inr (7, [.int 0, .null, .int 0, .int 0, .long 0, .long 0, .long 1, .null, .null]))]) [0, 3, 4, 1, 2] rfl
          have hD := hD.part (cx := [(qr, .inr (5, [.ref h0, .int (nI o)])), (h0, .inr (8, [.ref qb, .ref qu, .int uc, .int ln, .int (nI n), .int (nI i), .int (nI i)])), (qb, .inl (cB, 4096, .inl bf)), (qu, .inl (cI, 4096, .inl ug)), (q, .inr (7, [.int 0, .null, .int 0, .int 0, .long 0, .long 0, .long 1, .null, .null]))]) [0, 3, 4, 1, 2] (by decide) rfl
          have hP := hP.part (cx := [(qr, .inr (5, [.ref h0, .int (nI o)])), (h0, .inr (8, [.ref qb, .ref qu, .int uc, .int ln, .int (nI n), .int (nI i), .int (nI i)])), (qb, .inl (cB, 4096, .inl bf)), (qu, .inl (cI, 4096, .inl ug))]) [0, 1, 2, 3] rfl
          have hD := hD.part (cx := [(qr, .inr (5, [.ref h0, .int (nI o)])), (h0, .inr (8, [.ref qb, .ref qu, .int uc, .int ln, .int (nI n), .int (nI i), .int (nI i)])), (qb, .inl (cB, 4096, .inl bf)), (qu, .inl (cI, 4096, .inl ug))]) [0, 1, 2, 3] (by decide) rfl
          have hno : shD bf n (nwB nw) i = none := shD_0 hns (fun q => h_r29.2.2 c52 (Or.inl (by rw [h_h28]; exact q)))
          exact vx_out (fun x hx => (hex x hx).elim) hlocks hce hcv hcl (fun t9 ht2 ha => ⟨(nI i, uc, (nI i), ug, nI o), hno, ⟨hEn, by rw [ht2]; exact hP, va_K.moved ha hK, hD⟩, hS.F ht2⟩) hS.2.2 (by show (0 + 1) + (1) ≤ 3; omega) (by show (0 + 9) + (6) ≤ 15 + (n - i); omega)
        · obtain ⟨⟨hP1, hK1, hD1⟩, hz9⟩ := hB
          rw [ht] at hP1
          rw [ht] at hz9
          refine w_tight (hq0.trans hz9) ?_
          have hq0 := hq0.trans hz9
          obtain ⟨hP, hD⟩ := va_joinQ (wr := [(qr, .inr (5, [.ref h0, .int (nI o)])), (qu, .inl (cI, 4096, .inl ug)), (q, .inr (7, [.int 0, .null, .int 0, .int 0, .long 0, .long 0, .long 1, .null, .null]))]) (w1 := [(h0, .inr (8, [.ref qb, .ref qu, .int uc, .int ln, .int (nI n), .int (nI i), .int pl])), (qb, .inl (cB, 4096, .inl bf))]) hP hD [1, 2] [0, 3, 4] rfl rfl (by decide) (by decide) hk1 hFc hP1 hD1
          generalize H1 = H at hP hS hq0 ⊢
          have hP : va_P (dC, dI) classes ([(qr, .inr (5, [.ref h0, .int (nI o)])), (qu, .inl (cI, 4096, .inl ug)), (q, .inr (7, [.int 0, .null, .int 0, .int 0, .long 0, .long 0, .long 1, .null, .null])), (h0, .inr (8, [.ref qb, .ref qu, .int uc, .int ln, .int (nI n), .int (nI i), .int pl])), (qb, .inl (cB, 4096, .inl bf))] ++ va_pl L f) H := hP
          have hD : va_D A ([(qr, .inr (5, [.ref h0, .int (nI o)])), (qu, .inl (cI, 4096, .inl ug)), (q, .inr (7, [.int 0, .null, .int 0, .int 0, .long 0, .long 0, .long 1, .null, .null])), (h0, .inr (8, [.ref qb, .ref qu, .int uc, .int ln, .int (nI n), .int (nI i), .int pl])), (qb, .inl (cB, 4096, .inl bf))] ++ va_pl L f) := hD
          have hP := hP.part (cx := [(qr, .inr (5, [.ref h0, .int (nI o)])), (h0, .inr (8, [.ref qb, .ref qu, .int uc, .int ln, .int (nI n), .int (nI i), .int pl])), (qb, .inl (cB, 4096, .inl bf)), (qu, .inl (cI, 4096, .inl ug)), (q, .inr (7, [.int 0, .null, .int 0, .int 0, .long 0, .long 0, .long 1, .null, .null]))]) [0, 3, 4, 1, 2] rfl
          have hD := hD.part (cx := [(qr, .inr (5, [.ref h0, .int (nI o)])), (h0, .inr (8, [.ref qb, .ref qu, .int uc, .int ln, .int (nI n), .int (nI i), .int pl])), (qb, .inl (cB, 4096, .inl bf)), (qu, .inl (cI, 4096, .inl ug)), (q, .inr (7, [.int 0, .null, .int 0, .int 0, .long 0, .long 0, .long 1, .null, .null]))]) [0, 3, 4, 1, 2] (by decide) rfl
          exact hw.elim
      · have hnb : letH (hereV bf n i) ∨ digH (hereV bf n i) := by rw [← h_h28]; exact h_r29.2.1 c52
        refine lv_aload_n hx hb d_QueryReader_shortSelector_55 rfl (lv_at hl 2 rfl) ?_
        refine va_get (D := (dC, dI)) (ci := 5) (v := .ref h0) (C := R_QueryReader) (T := F_QueryReader) (N := 2) hx hb hts in_QueryReader hown hK hP 0 rfl rfl 0 (by decide) (hts _ w_100) (fun _ h9 => h9) rfl d_QueryReader_shortSelector_56 ?_
        have hPc := hP.sub (ws' := [(h0, .inr (8, [.ref qb, .ref qu, .int uc, .int ln, .int (nI n), .int (nI i), .int pl])), (qb, .inl (cB, 4096, .inl bf))]) [1, 2] rfl
        have hDc := hD.sub (ws' := [(h0, .inr (8, [.ref qb, .ref qu, .int uc, .int ln, .int (nI n), .int (nI i), .int pl])), (qb, .inl (cB, 4096, .inl bf))]) [1, 2] (by decide) rfl
        have hFc := va_free (wc := [(h0, .inr (8, [.ref qb, .ref qu, .int uc, .int ln, .int (nI n), .int (nI i), .int pl])), (qb, .inl (cB, 4096, .inl bf))]) hD hS hA [1, 2] rfl
        have hKc := hK.sub (tys' := [(cB, .byte)]) [0] rfl
        refine va_calli (va_runV (As := []) (rest := []) ⟨hx, hb, hml, hown, hts⟩ (c_Tape_here l dC dI cB h0 qb H (.ref qu) uc ln pl bf n i hn0 (by omega)) (cwV 0 hts (gt_V (own := R_QueryReader) (C := R_Tape) (i := 19) (y := y_Tape_here) i_Tape_here z_534 w_363 w_364 w_2) rfl rfl rfl (by decide +kernel) ⟨Nat.le_of_ble_eq_true rfl, Nat.le_of_ble_eq_true rfl⟩) ⟨mp_blind, va_recv hK hP (ci := 8) (q0 := 1) rfl rfl, fun U hU hW => ⟨rfl, hU, by rw [hU]; exact hPc, va_K.moved hW.alike hKc, hDc.weaken (fun _ _ _ _ => trivial)⟩⟩ rfl rfl hl.1 rfl (lv_room (Nat.le_of_ble_eq_true rfl)) d_QueryReader_shortSelector_59 ⟨by show (0 + 1) + (0) ≤ 3; omega, by show (0 + 9) + (0) ≤ 15 + (n - i); omega⟩) hS (fun q _ h => hFc q h) hFc (fun h30 _u t9 H1 locs ht hvm hw hB hz1 hk1 hS => ?_)
        obtain ⟨hP1, hK1, hD1⟩ := hB
        rw [ht] at hP1
        obtain ⟨hP, hD⟩ := va_joinQ (wr := [(qr, .inr (5, [.ref h0, .int (nI o)])), (qu, .inl (cI, 4096, .inl ug)), (q, .inr (7, [.int 0, .null, .int 0, .int 0, .long 0, .long 0, .long 1, .null, .null]))]) (w1 := [(h0, .inr (8, [.ref qb, .ref qu, .int uc, .int ln, .int (nI n), .int (nI i), .int pl])), (qb, .inl (cB, 4096, .inl bf))]) hP hD [1, 2] [0, 3, 4] rfl rfl (by decide) (by decide) hk1 hFc hP1 hD1
        generalize H1 = H at hP hS ⊢
        have hP : va_P (dC, dI) classes ([(qr, .inr (5, [.ref h0, .int (nI o)])), (qu, .inl (cI, 4096, .inl ug)), (q, .inr (7, [.int 0, .null, .int 0, .int 0, .long 0, .long 0, .long 1, .null, .null])), (h0, .inr (8, [.ref qb, .ref qu, .int uc, .int ln, .int (nI n), .int (nI i), .int pl])), (qb, .inl (cB, 4096, .inl bf))] ++ va_pl L f) H := hP
        have hD : va_D A ([(qr, .inr (5, [.ref h0, .int (nI o)])), (qu, .inl (cI, 4096, .inl ug)), (q, .inr (7, [.int 0, .null, .int 0, .int 0, .long 0, .long 0, .long 1, .null, .null])), (h0, .inr (8, [.ref qb, .ref qu, .int uc, .int ln, .int (nI n), .int (nI i), .int pl])), (qb, .inl (cB, 4096, .inl bf))] ++ va_pl L f) := hD
        have hP := hP.part (cx := [(qr, .inr (5, [.ref h0, .int (nI o)])), (h0, .inr (8, [.ref qb, .ref qu, .int uc, .int ln, .int (nI n), .int (nI i), .int pl])), (qb, .inl (cB, 4096, .inl bf)), (qu, .inl (cI, 4096, .inl ug)), (q, .inr (7, [.int 0, .null, .int 0, .int 0, .long 0, .long 0, .long 1, .null, .null]))]) [0, 3, 4, 1, 2] rfl
        have hD := hD.part (cx := [(qr, .inr (5, [.ref h0, .int (nI o)])), (h0, .inr (8, [.ref qb, .ref qu, .int uc, .int ln, .int (nI n), .int (nI i), .int pl])), (qb, .inl (cB, 4096, .inl bf)), (qu, .inl (cI, 4096, .inl ug)), (q, .inr (7, [.int 0, .null, .int 0, .int 0, .long 0, .long 0, .long 1, .null, .null]))]) [0, 3, 4, 1, 2] (by decide) rfl
        have h_h30 : h30 = hereV bf n i := hw
        refine vp_callSi (va_Run.run (va_runSN (As := [.int h30]) (rest := []) ⟨hx, hb, hml, hown, hts⟩ (g_QB_isDigit l dC dI H h30) (⟨va_cnB (host := "QueryBench") 1 hts (gt_code i_QB_isDigit) rfl rfl rfl (hN _ nz_780) (hts _ w_1) (by decide +kernel) ⟨Nat.le_of_ble_eq_true rfl, Nat.le_of_ble_eq_true rfl⟩, hts _ w_510, trivial⟩) ⟨mT_blind, fun U hU hW => ⟨rfl, hN.warm hW⟩⟩ rfl rfl hl.1 rfl (lv_room (Nat.le_of_ble_eq_true rfl)) d_QueryReader_shortSelector_62 ⟨by show (0 + 1) + (0) ≤ 3; omega, by show (0 + 9) + (0) ≤ 15 + (n - i); omega⟩)) (fun r31 h_r31 => ?_)
        refine lv_if_eq (tgt := 76) hx hb d_QueryReader_shortSelector_65 (by decide) (fun c65 => ?_) (fun c65 => ?_)
        · have hlet : letH (hereV bf n i) := hnb.resolve_right (by rw [← h_h30]; exact h_r31.2.2 c65)
          refine w_loop (D := (dC, dI)) (cl := classes) (A := A) (H0 := s.heap) (nL := 5) 76 (σ := Nat) (fun p => (i ≤ p ∧ p ≤ n) ∧ nmC bf n (n - i) i = nmC bf n (n - p) p) (fun p => n - p) (fun p => [(qr, .inr (5, [.ref h0, .int (nI o)])), (h0, .inr (8, [.ref qb, .ref qu, .int uc, .int ln, .int (nI n), .int (nI p), .int pl])), (qb, .inl (cB, 4096, .inl bf)), (qu, .inl (cI, 4096, .inl ug)), (q, .inr (7, [.int 0, .null, .int 0, .int 0, .long 0, .long 0, .long 1, .null, .null]))] ++ va_pl L f) (fun p => [(0, .ref qr), (2, .ref q), (3, .int (nI i))]) ?_ i ⟨⟨Nat.le_refl _, by omega⟩, rfl⟩ hP hD hS (lv_sub hl [2, 1, 0] rfl)
          rintro p H locs ls hI ih hP hD hS hl
          have hP : va_P (dC, dI) classes ([(qr, .inr (5, [.ref h0, .int (nI o)])), (h0, .inr (8, [.ref qb, .ref qu, .int uc, .int ln, .int (nI n), .int (nI p), .int pl])), (qb, .inl (cB, 4096, .inl bf)), (qu, .inl (cI, 4096, .inl ug)), (q, .inr (7, [.int 0, .null, .int 0, .int 0, .long 0, .long 0, .long 1, .null, .null]))] ++ va_pl L f) H := hP
          have hD : va_D A ([(qr, .inr (5, [.ref h0, .int (nI o)])), (h0, .inr (8, [.ref qb, .ref qu, .int uc, .int ln, .int (nI n), .int (nI p), .int pl])), (qb, .inl (cB, 4096, .inl bf)), (qu, .inl (cI, 4096, .inl ug)), (q, .inr (7, [.int 0, .null, .int 0, .int 0, .long 0, .long 0, .long 1, .null, .null]))] ++ va_pl L f) := hD
          have hl : lv_has ls 5 [(0, .ref qr), (2, .ref q), (3, .int (nI i))] := hl
          obtain ⟨⟨hp1, hp2⟩, hnm⟩ := hI
          have hnm : nmC bf n (n - i) i = nmC bf n (n - p) p := hnm
          have hp1 : i ≤ p := hp1
          have hp2 : p ≤ n := hp2
          refine lv_aload_n hx hb d_QueryReader_shortSelector_76 rfl (lv_at hl 0 rfl) ?_
          refine va_get (D := (dC, dI)) (ci := 5) (v := .ref h0) (C := R_QueryReader) (T := F_QueryReader) (N := 2) hx hb hts in_QueryReader hown hK hP 0 rfl rfl 0 (by decide) (hts _ w_100) (fun _ h9 => h9) rfl d_QueryReader_shortSelector_77 ?_
          refine va_get (D := (dC, dI)) (ci := 8) (v := .int (nI p)) (C := R_Tape) (T := F_Tape) (N := 7) hx hb hts in_Tape hown hK hP 1 rfl rfl 5 (by decide) (hts _ z_53) (fun _ h9 => h9) rfl d_QueryReader_shortSelector_80 ?_
          refine lv_aload_n hx hb d_QueryReader_shortSelector_83 rfl (lv_at hl 0 rfl) ?_
          refine va_get (D := (dC, dI)) (ci := 5) (v := .ref h0) (C := R_QueryReader) (T := F_QueryReader) (N := 2) hx hb hts in_QueryReader hown hK hP 0 rfl rfl 0 (by decide) (hts _ w_100) (fun _ h9 => h9) rfl d_QueryReader_shortSelector_84 ?_
          refine va_get (D := (dC, dI)) (ci := 8) (v := .int (nI n)) (C := R_Tape) (T := F_Tape) (N := 7) hx hb hts in_Tape hown hK hP 1 rfl rfl 4 (by decide) (hts _ z_50) (fun _ h9 => h9) rfl d_QueryReader_shortSelector_87 ?_
          refine lv_icmp_ge (tgt := 122) hx hb d_QueryReader_shortSelector_90 (by decide) (fun c90 => ?_) (fun c90 => ?_)
          · have hne : nmC bf n (n - i) i = p := hnm.trans (nmC_n (by rw [nI_leI (by omega) (by omega)] at c90; omega))
            refine lv_aload_n hx hb d_QueryReader_shortSelector_122 rfl (lv_at hl 1 rfl) ?_
            refine lv_aload_n hx hb d_QueryReader_shortSelector_123 rfl (lv_at hl 0 rfl) ?_
            refine va_get (D := (dC, dI)) (ci := 5) (v := .ref h0) (C := R_QueryReader) (T := F_QueryReader) (N := 2) hx hb hts in_QueryReader hown hK hP 0 rfl rfl 0 (by decide) (hts _ w_100) (fun _ h9 => h9) rfl d_QueryReader_shortSelector_124 ?_
            refine va_get (D := (dC, dI)) (ci := 8) (v := .int (nI p)) (C := R_Tape) (T := F_Tape) (N := 7) hx hb hts in_Tape hown hK hP 1 rfl rfl 5 (by decide) (hts _ z_53) (fun _ h9 => h9) rfl d_QueryReader_shortSelector_127 ?_
            refine lv_iload_n hx hb d_QueryReader_shortSelector_130 rfl (lv_at hl 2 rfl) ?_
            refine lv_isub hx hb d_QueryReader_shortSelector_131 ?_
            refine W.eq (g2 := F0 m 132 ls [.int (nI (p - i)), .ref q]) (by rw [show ((nI p) - (nI i)) = (nI (p - i)) from (pk_sub (by omega))]) ?_
            refine va_newa (atype := .int) (ty := .int) (N' := (p - i)) (a0 := ((p - i), .inl (fun _ => 0))) hx hb (hts _ w_73) rfl hK hP hD hS hA (fun _ => rfl) (nI_pos (by omega)) (nI_clamp (by omega)) (by show (p - i) * 4 ≤ 536870912; omega) (by show (0 + 1) + 1 ≤ 3; omega) (by show (0 + 9) + (p - i) ≤ 15 + (n - i); omega) d_QueryReader_shortSelector_132 (fun qn cA H hK hP hD hS => ?_)
            obtain rfl : cI = cA := Option.some.inj ((hK.2 1 _ rfl).2.symm.trans (hK.2 3 _ rfl).2)
            have hK := hK.sub (tys' := [(cB, .byte), (cI, .int), (cV, .object "QueryBench$Value")]) [0, 1, 2] rfl
            have hz_qn := newA hAe hD (fun k x hk => by rcases k with _ | _ | _ | _ | k; (· cases hk; exact ⟨0, _, rfl⟩); (· cases hk; exact ⟨1, _, rfl⟩); (· cases hk; exact ⟨2, _, rfl⟩); (· cases hk; exact ⟨3, _, rfl⟩); (· exact ⟨k + 5, x.2, hk⟩))
            have hP := hP.swap
            have hD := hD.swap
            have hP : va_P (dC, dI) classes ([(qr, .inr (5, [.ref h0, .int (nI o)])), (h0, .inr (8, [.ref qb, .ref qu, .int uc, .int ln, .int (nI n), .int (nI p), .int pl])), (qb, .inl (cB, 4096, .inl bf)), (qu, .inl (cI, 4096, .inl ug)), (q, .inr (7, [.int 0, .null, .int 0, .int 0, .long 0, .long 0, .long 1, .null, .null])), (qn, .inl (cI, (p - i), .inl (fun _ => 0)))] ++ va_pl L f) H := hP
            have hD : va_D A ([(qr, .inr (5, [.ref h0, .int (nI o)])), (h0, .inr (8, [.ref qb, .ref qu, .int uc, .int ln, .int (nI n), .int (nI p), .int pl])), (qb, .inl (cB, 4096, .inl bf)), (qu, .inl (cI, 4096, .inl ug)), (q, .inr (7, [.int 0, .null, .int 0, .int 0, .long 0, .long 0, .long 1, .null, .null])), (qn, .inl (cI, (p - i), .inl (fun _ => 0)))] ++ va_pl L f) := hD
            refine va_put (D := (dC, dI)) (ci := 7) (v := .ref qn) (ty := .array .int) (C := R_Selector) (T := F_Selector) (N := 9) hx hb hts in_Selector t_Selector t_Selector_ok n_Selector hown hK hP hD hS 4 rfl rfl 1 (by decide) (hts _ z_613) (fun _ h9 => h9) rfl (by decide +kernel) rfl rfl (Nat.le_of_ble_eq_true rfl) d_QueryReader_shortSelector_134 (fun H locs hP hD hS => ?_)
            have hP : va_P (dC, dI) classes ([(qr, .inr (5, [.ref h0, .int (nI o)])), (h0, .inr (8, [.ref qb, .ref qu, .int uc, .int ln, .int (nI n), .int (nI p), .int pl])), (qb, .inl (cB, 4096, .inl bf)), (qu, .inl (cI, 4096, .inl ug)), (q, .inr (7, [.int 0, .ref qn, .int 0, .int 0, .long 0, .long 0, .long 1, .null, .null])), (qn, .inl (cI, (p - i), .inl (fun _ => 0)))] ++ va_pl L f) H := hP
            have hD : va_D A ([(qr, .inr (5, [.ref h0, .int (nI o)])), (h0, .inr (8, [.ref qb, .ref qu, .int uc, .int ln, .int (nI n), .int (nI p), .int pl])), (qb, .inl (cB, 4096, .inl bf)), (qu, .inl (cI, 4096, .inl ug)), (q, .inr (7, [.int 0, .ref qn, .int 0, .int 0, .long 0, .long 0, .long 1, .null, .null])), (qn, .inl (cI, (p - i), .inl (fun _ => 0)))] ++ va_pl L f) := hD
            refine lv_iconst (v := 0) hx hb d_QueryReader_shortSelector_137 (by decide) ?_
            refine lv_istore (lv' := [(4, .int 0), (0, .ref qr), (2, .ref q), (3, .int (nI i))]) hx hb d_QueryReader_shortSelector_138 hl (by decide) rfl (fun ls hl => ?_)
            refine w_loop (D := (dC, dI)) (cl := classes) (A := A) (H0 := s.heap) (nL := 5) 140 (σ := Nat × (Nat → Int32)) (fun ⟨j, g⟩ => j ≤ (p - i) ∧ ∀ a, a < j → g a = bf (i + a)) (fun ⟨j, g⟩ => (p - i) - j) (fun ⟨j, g⟩ => [(qr, .inr (5, [.ref h0, .int (nI o)])), (h0, .inr (8, [.ref qb, .ref qu, .int uc, .int ln, .int (nI n), .int (nI p), .int pl])), (qb, .inl (cB, 4096, .inl bf)), (qu, .inl (cI, 4096, .inl ug)), (q, .inr (7, [.int 0, .ref qn, .int 0, .int 0, .long 0, .long 0, .long 1, .null, .null])), (qn, .inl (cI, (p - i), .inl g))] ++ va_pl L f) (fun ⟨j, g⟩ => [(0, .ref qr), (2, .ref q), (3, .int (nI i)), (4, .int (nI j))]) ?_ (0, fun _ => 0) ⟨Nat.zero_le _, fun a h => absurd h (Nat.not_lt_zero _)⟩ hP hD hS (lv_sub hl [1, 2, 3, 0] rfl)
            rintro ⟨j, g⟩ H locs ls hI ih hP hD hS hl
            have hP : va_P (dC, dI) classes ([(qr, .inr (5, [.ref h0, .int (nI o)])), (h0, .inr (8, [.ref qb, .ref qu, .int uc, .int ln, .int (nI n), .int (nI p), .int pl])), (qb, .inl (cB, 4096, .inl bf)), (qu, .inl (cI, 4096, .inl ug)), (q, .inr (7, [.int 0, .ref qn, .int 0, .int 0, .long 0, .long 0, .long 1, .null, .null])), (qn, .inl (cI, (p - i), .inl g))] ++ va_pl L f) H := hP
            have hD : va_D A ([(qr, .inr (5, [.ref h0, .int (nI o)])), (h0, .inr (8, [.ref qb, .ref qu, .int uc, .int ln, .int (nI n), .int (nI p), .int pl])), (qb, .inl (cB, 4096, .inl bf)), (qu, .inl (cI, 4096, .inl ug)), (q, .inr (7, [.int 0, .ref qn, .int 0, .int 0, .long 0, .long 0, .long 1, .null, .null])), (qn, .inl (cI, (p - i), .inl g))] ++ va_pl L f) := hD
            have hl : lv_has ls 5 [(0, .ref qr), (2, .ref q), (3, .int (nI i)), (4, .int (nI j))] := hl
            obtain ⟨hj, hgu⟩ := hI
            have hj : j ≤ (p - i) := hj
            refine lv_iload hx hb d_QueryReader_shortSelector_140 (lv_at hl 3 rfl) ?_
            refine lv_aload_n hx hb d_QueryReader_shortSelector_142 rfl (lv_at hl 1 rfl) ?_
            refine va_get (D := (dC, dI)) (ci := 7) (v := .ref qn) (C := R_Selector) (T := F_Selector) (N := 9) hx hb hts in_Selector hown hK hP 4 rfl rfl 1 (by decide) (hts _ z_613) (fun _ h9 => h9) rfl d_QueryReader_shortSelector_143 ?_
            refine va_alen (v := nI (p - i)) hx hb hK hP 5 1 rfl rfl rfl d_QueryReader_shortSelector_146 ?_
            refine lv_icmp_ge (tgt := 175) hx hb d_QueryReader_shortSelector_147 (by decide) (fun c147 => ?_) (fun c147 => ?_)
            · refine lv_aload_n hx hb d_QueryReader_shortSelector_175 rfl (lv_at hl 1 rfl) ?_
              have hgu9 : ∀ a, a < p - i → g a = bf (i + a) := fun a ha => hgu a (by rw [nI_leI (by omega) (by omega)] at c147; omega)
              have hqnL := plD_new (X := [(qr, .inr (5, [.ref h0, .int (nI o)])), (h0, .inr (8, [.ref qb, .ref qu, .int uc, .int ln, .int (nI n), .int (nI p), .int pl])), (qb, .inl (cB, 4096, .inl bf)), (qu, .inl (cI, 4096, .inl ug)), (q, .inr (7, [.int 0, .ref qn, .int 0, .int 0, .long 0, .long 0, .long 1, .null, .null]))]) hD
              have hqn0 : E qn = 0 := Classical.byContradiction (fun h => hqnL (hO.inL h))
              have hP := plP_push (X := [(qr, .inr (5, [.ref h0, .int (nI o)])), (h0, .inr (8, [.ref qb, .ref qu, .int uc, .int ln, .int (nI n), .int (nI p), .int pl])), (qb, .inl (cB, 4096, .inl bf)), (qu, .inl (cI, 4096, .inl ug)), (q, .inr (7, [.int 0, .ref qn, .int 0, .int 0, .long 0, .long 0, .long 1, .null, .null]))]) hP hqnL
              have hD := plD_push (X := [(qr, .inr (5, [.ref h0, .int (nI o)])), (h0, .inr (8, [.ref qb, .ref qu, .int uc, .int ln, .int (nI n), .int (nI p), .int pl])), (qb, .inl (cB, 4096, .inl bf)), (qu, .inl (cI, 4096, .inl ug)), (q, .inr (7, [.int 0, .ref qn, .int 0, .int 0, .long 0, .long 0, .long 1, .null, .null]))]) hD hqnL
              have hqL := plD_new (X := [(qr, .inr (5, [.ref h0, .int (nI o)])), (h0, .inr (8, [.ref qb, .ref qu, .int uc, .int ln, .int (nI n), .int (nI p), .int pl])), (qb, .inl (cB, 4096, .inl bf)), (qu, .inl (cI, 4096, .inl ug))]) hD
              have hq0 : va_up E qn 4 q = 0 := by
                have hG0 : QG cI cV E lv L f i n p s.heap.size [] E lv f := (QG.rf hO hin).mv (by omega) (by omega)
                have hG1 := hG0.add (q := qn) (s := 4) (b := 0) (e := tE cI (p - i) g) hqn0 (by rw [List.append_nil]; exact hqnL) hz_qn (by decide) (by decide) (CO.T (va_up_self _ _ _) ⟨_, _, rfl, by omega⟩)
                exact Classical.byContradiction (fun h => hqL (by have := hG1.po.inL h; exact this))
              have hqq : qn ≠ q := fun e => by rw [← e, va_up_self] at hq0; cases hq0
              have hP := plP_push (X := [(qr, .inr (5, [.ref h0, .int (nI o)])), (h0, .inr (8, [.ref qb, .ref qu, .int uc, .int ln, .int (nI n), .int (nI p), .int pl])), (qb, .inl (cB, 4096, .inl bf)), (qu, .inl (cI, 4096, .inl ug))]) hP hqL
              have hD := plD_push (X := [(qr, .inr (5, [.ref h0, .int (nI o)])), (h0, .inr (8, [.ref qb, .ref qu, .int uc, .int ln, .int (nI n), .int (nI p), .int pl])), (qb, .inl (cB, 4096, .inl bf)), (qu, .inl (cI, 4096, .inl ug))]) hD hqL
              rw [List.append_assoc] at hP hD
              have hqE : E q = 0 := by rw [va_up_ne _ _ (Ne.symm hqq)] at hq0; exact hq0
              have hQ : QPn cI cV E L f i n s.heap.size 9 0 0 q p (([] ++ [qn]) ++ [q]) (va_up (va_up E qn 4) q 9) (va_up (va_up f qn (tE cI (p - i) g)) q (lE 0 (some qn) 0 0 0 0 1 none none)) := by
                refine ⟨hqE, va_up_self _ _ _, by omega, by omega, fun lv hO b _ => ?_⟩
                have hG0 : QG cI cV E lv L f i n p s.heap.size [] E lv f := (QG.rf hO hin).mv (by omega) (by omega)
                have hG1 := hG0.add (q := qn) (s := 4) (b := 0) (e := tE cI (p - i) g) hqn0 (by rw [List.append_nil]; exact hqnL) hz_qn (by decide) (by decide) (CO.T (va_up_self _ _ _) ⟨_, _, rfl, by omega⟩)
                exact ⟨va_up (va_up lv qn 0) q b, hG1.add (q := q) (s := 9) (b := b) (e := lE 0 (some qn) 0 0 0 0 1 none none) hq0 hqL hz_q (by decide) (by decide) (CO.L (va_up_self _ _ _) ⟨_, _, _, _, _, _, _, _, _, rfl, ⟨(fun b h => by cases h; exact (va_up_ne _ _ hqq).trans (va_up_self _ _ _)), fun b h => (nomatch h), fun b h => (nomatch h), (fun _ h => by cases h), fun h0 h1 => absurd rfl h0, by decide, by decide⟩⟩), va_up_self _ _ _⟩
              have hP : va_P (dC, dI) classes ([(qr, .inr (5, [.ref h0, .int (nI o)])), (h0, .inr (8, [.ref qb, .ref qu, .int uc, .int ln, .int (nI n), .int (nI p), .int pl])), (qb, .inl (cB, 4096, .inl bf)), (qu, .inl (cI, 4096, .inl ug))] ++ va_pl ((L ++ (([] ++ [qn]) ++ [q]))) ((va_up (va_up f qn (tE cI (p - i) g)) q (lE 0 (some qn) 0 0 0 0 1 none none)))) H := hP
              have hD : va_D A ([(qr, .inr (5, [.ref h0, .int (nI o)])), (h0, .inr (8, [.ref qb, .ref qu, .int uc, .int ln, .int (nI n), .int (nI p), .int pl])), (qb, .inl (cB, 4096, .inl bf)), (qu, .inl (cI, 4096, .inl ug))] ++ va_pl ((L ++ (([] ++ [qn]) ++ [q]))) ((va_up (va_up f qn (tE cI (p - i) g)) q (lE 0 (some qn) 0 0 0 0 1 none none)))) := hD
              have hok : shD bf n (nwB nw) i = some (p, sgL ((va_up (va_up f qn (tE cI (p - i) g)) q (lE 0 (some qn) 0 0 0 0 1 none none)) q), [namS (nmT_ bf n i p)]) := by rw [va_up_self, sgL_0]; exact shD_n hns hlet hne rfl
              have hdn : DNx LD 8 E (va_up (va_up E qn 4) q 9) (va_up (va_up f qn (tE cI (p - i) g)) q (lE 0 (some qn) 0 0 0 0 1 none none)) q (namS (nmT_ bf n i p)) := DNx.nam hqn0 hqn0 hq0 (nm_units hbf hne hgu9)
              refine w_same (fun hq => ?_)
              refine W.widen (k := 3) (n := 15 + (n - i)) (by show ((0 + 1) + 1) ≤ 3; omega) (by show ((0 + 9) + (p - i)) ≤ 15 + (n - i); omega) ?_
              refine vx_ret ?_
              exact W.aret (v := .ref q) hx hb hr (Or.inl ⟨_, rfl⟩) (Or.inr ⟨_, rfl⟩) (fun t9 ht hW => ⟨⟨(q, p, ([] ++ [qn]) ++ [q], va_up (va_up E qn 4) q 9, va_up (va_up f qn (tE cI (p - i) g)) q (lE 0 (some qn) 0 0 0 0 1 none none)), q, rfl, ⟨hQ, _, hok, hdn⟩, ⟨by rw [ht]; exact hP, va_K.moved hW.alike hK, hD⟩, by rw [ht]; exact ⟨hq.mono (by show ((0 + 1) + 1) ≤ 2; omega) (by show ((0 + 9) + (p - i)) ≤ 9 + (p - i); omega), rfl⟩⟩, hS.F ht⟩) hS.2.2 d_QueryReader_shortSelector_176
            · have hjl : j < p - i := by rw [nI_leI (by omega) (by omega)] at c147; omega
              refine lv_aload_n hx hb d_QueryReader_shortSelector_150 rfl (lv_at hl 1 rfl) ?_
              refine va_get (D := (dC, dI)) (ci := 7) (v := .ref qn) (C := R_Selector) (T := F_Selector) (N := 9) hx hb hts in_Selector hown hK hP 4 rfl rfl 1 (by decide) (hts _ z_613) (fun _ h9 => h9) rfl d_QueryReader_shortSelector_151 ?_
              refine lv_iload hx hb d_QueryReader_shortSelector_154 (lv_at hl 3 rfl) ?_
              refine lv_aload_n hx hb d_QueryReader_shortSelector_156 rfl (lv_at hl 0 rfl) ?_
              refine va_get (D := (dC, dI)) (ci := 5) (v := .ref h0) (C := R_QueryReader) (T := F_QueryReader) (N := 2) hx hb hts in_QueryReader hown hK hP 0 rfl rfl 0 (by decide) (hts _ w_100) (fun _ h9 => h9) rfl d_QueryReader_shortSelector_157 ?_
              refine va_get (D := (dC, dI)) (ci := 8) (v := .ref qb) (C := R_Tape) (T := F_Tape) (N := 7) hx hb hts in_Tape hown hK hP 1 rfl rfl 0 (by decide) (hts _ z_44) (fun _ h9 => h9) rfl d_QueryReader_shortSelector_160 ?_
              refine lv_iload_n hx hb d_QueryReader_shortSelector_163 rfl (lv_at hl 2 rfl) ?_
              refine lv_iload hx hb d_QueryReader_shortSelector_164 (lv_at hl 3 rfl) ?_
              refine lv_iadd hx hb d_QueryReader_shortSelector_166 ?_
              refine W.eq (g2 := F0 m 167 ls [.int (nI (i + j)), .ref qb, .int (nI j), .ref qn]) (by rw [show ((nI i) + (nI j)) = (nI (i + j)) from (nI_add _ _)]) ?_
              refine va_bald hx hb hK hP 2 0 rfl rfl (vp_in_nI (show i + j < 4096 by omega) (by decide)) d_QueryReader_shortSelector_167 ?_
              rw [show (nI (i + j)).toNatClampNeg = i + j from nI_clamp (by omega)]
              refine va_iast hx hb hK hP hD hS 5 1 rfl rfl (vp_in_nI hjl (by omega)) d_QueryReader_shortSelector_168 (fun H locs hP hD hS => ?_)
              rw [show (nI j).toNatClampNeg = j from nI_clamp (by omega)] at hP hD
              have hP : va_P (dC, dI) classes ([(qr, .inr (5, [.ref h0, .int (nI o)])), (h0, .inr (8, [.ref qb, .ref qu, .int uc, .int ln, .int (nI n), .int (nI p), .int pl])), (qb, .inl (cB, 4096, .inl bf)), (qu, .inl (cI, 4096, .inl ug)), (q, .inr (7, [.int 0, .ref qn, .int 0, .int 0, .long 0, .long 0, .long 1, .null, .null])), (qn, .inl (cI, (p - i), .inl (upd g j (bf (i + j)))))] ++ va_pl L f) H := hP
              have hD : va_D A ([(qr, .inr (5, [.ref h0, .int (nI o)])), (h0, .inr (8, [.ref qb, .ref qu, .int uc, .int ln, .int (nI n), .int (nI p), .int pl])), (qb, .inl (cB, 4096, .inl bf)), (qu, .inl (cI, 4096, .inl ug)), (q, .inr (7, [.int 0, .ref qn, .int 0, .int 0, .long 0, .long 0, .long 1, .null, .null])), (qn, .inl (cI, (p - i), .inl (upd g j (bf (i + j)))))] ++ va_pl L f) := hD
              refine lv_iinc (v := nI (j + 1)) (lv' := [(4, .int (nI (j + 1))), (0, .ref qr), (2, .ref q), (3, .int (nI i))]) hx hb d_QueryReader_shortSelector_169 hl (k := 3) rfl (nI_1 _) (by decide) rfl (fun ls hl => ?_)
              refine lv_goto (tgt := 140) hx hb d_QueryReader_shortSelector_172 (by decide) ?_
              exact ih (j + 1, upd g j (bf (i + j))) _ _ _ ⟨show j + 1 ≤ (p - i) by omega, fun a ha => by by_cases e9 : a = j; (· rw [e9]; exact pk_us); (· rw [pk_un e9]; exact hgu a (by omega))⟩ (by show (p - i) - (j + 1) < (p - i) - j; omega) hP hD hS (lv_sub hl [1, 2, 3, 0] rfl)
          · have hpn : p < n := by rw [nI_leI (by omega) (by omega)] at c90; omega
            refine lv_aload_n hx hb d_QueryReader_shortSelector_93 rfl (lv_at hl 0 rfl) ?_
            refine va_get (D := (dC, dI)) (ci := 5) (v := .ref h0) (C := R_QueryReader) (T := F_QueryReader) (N := 2) hx hb hts in_QueryReader hown hK hP 0 rfl rfl 0 (by decide) (hts _ w_100) (fun _ h9 => h9) rfl d_QueryReader_shortSelector_94 ?_
            have hPc := hP.sub (ws' := [(h0, .inr (8, [.ref qb, .ref qu, .int uc, .int ln, .int (nI n), .int (nI p), .int pl])), (qb, .inl (cB, 4096, .inl bf))]) [1, 2] rfl
            have hDc := hD.sub (ws' := [(h0, .inr (8, [.ref qb, .ref qu, .int uc, .int ln, .int (nI n), .int (nI p), .int pl])), (qb, .inl (cB, 4096, .inl bf))]) [1, 2] (by decide) rfl
            have hFc := va_free (wc := [(h0, .inr (8, [.ref qb, .ref qu, .int uc, .int ln, .int (nI n), .int (nI p), .int pl])), (qb, .inl (cB, 4096, .inl bf))]) hD hS hA [1, 2] rfl
            have hKc := hK.sub (tys' := [(cB, .byte)]) [0] rfl
            refine va_calli (va_runV (As := []) (rest := []) ⟨hx, hb, hml, hown, hts⟩ (c_Tape_here l dC dI cB h0 qb H (.ref qu) uc ln pl bf n p hn0 (by omega)) (cwV 0 hts (gt_V (own := R_QueryReader) (C := R_Tape) (i := 19) (y := y_Tape_here) i_Tape_here z_534 w_363 w_364 w_2) rfl rfl rfl (by decide +kernel) ⟨Nat.le_of_ble_eq_true rfl, Nat.le_of_ble_eq_true rfl⟩) ⟨mp_blind, va_recv hK hP (ci := 8) (q0 := 1) rfl rfl, fun U hU hW => ⟨rfl, hU, by rw [hU]; exact hPc, va_K.moved hW.alike hKc, hDc.weaken (fun _ _ _ _ => trivial)⟩⟩ rfl rfl hl.1 rfl (lv_room (Nat.le_of_ble_eq_true rfl)) d_QueryReader_shortSelector_97 ⟨by show (0 + 1) + (0) ≤ 3; omega, by show (0 + 9) + (0) ≤ 15 + (n - i); omega⟩) hS (fun q _ h => hFc q h) hFc (fun h32 _u t9 H1 locs ht hvm hw hB hz1 hk1 hS => ?_)
            obtain ⟨hP1, hK1, hD1⟩ := hB
            rw [ht] at hP1
            obtain ⟨hP, hD⟩ := va_joinQ (wr := [(qr, .inr (5, [.ref h0, .int (nI o)])), (qu, .inl (cI, 4096, .inl ug)), (q, .inr (7, [.int 0, .null, .int 0, .int 0, .long 0, .long 0, .long 1, .null, .null]))]) (w1 := [(h0, .inr (8, [.ref qb, .ref qu, .int uc, .int ln, .int (nI n), .int (nI p), .int pl])), (qb, .inl (cB, 4096, .inl bf))]) hP hD [1, 2] [0, 3, 4] rfl rfl (by decide) (by decide) hk1 hFc hP1 hD1
            generalize H1 = H at hP hS ⊢
            have hP : va_P (dC, dI) classes ([(qr, .inr (5, [.ref h0, .int (nI o)])), (qu, .inl (cI, 4096, .inl ug)), (q, .inr (7, [.int 0, .null, .int 0, .int 0, .long 0, .long 0, .long 1, .null, .null])), (h0, .inr (8, [.ref qb, .ref qu, .int uc, .int ln, .int (nI n), .int (nI p), .int pl])), (qb, .inl (cB, 4096, .inl bf))] ++ va_pl L f) H := hP
            have hD : va_D A ([(qr, .inr (5, [.ref h0, .int (nI o)])), (qu, .inl (cI, 4096, .inl ug)), (q, .inr (7, [.int 0, .null, .int 0, .int 0, .long 0, .long 0, .long 1, .null, .null])), (h0, .inr (8, [.ref qb, .ref qu, .int uc, .int ln, .int (nI n), .int (nI p), .int pl])), (qb, .inl (cB, 4096, .inl bf))] ++ va_pl L f) := hD
            have hP := hP.part (cx := [(qr, .inr (5, [.ref h0, .int (nI o)])), (h0, .inr (8, [.ref qb, .ref qu, .int uc, .int ln, .int (nI n), .int (nI p), .int pl])), (qb, .inl (cB, 4096, .inl bf)), (qu, .inl (cI, 4096, .inl ug)), (q, .inr (7, [.int 0, .null, .int 0, .int 0, .long 0, .long 0, .long 1, .null, .null]))]) [0, 3, 4, 1, 2] rfl
            have hD := hD.part (cx := [(qr, .inr (5, [.ref h0, .int (nI o)])), (h0, .inr (8, [.ref qb, .ref qu, .int uc, .int ln, .int (nI n), .int (nI p), .int pl])), (qb, .inl (cB, 4096, .inl bf)), (qu, .inl (cI, 4096, .inl ug)), (q, .inr (7, [.int 0, .null, .int 0, .int 0, .long 0, .long 0, .long 1, .null, .null]))]) [0, 3, 4, 1, 2] (by decide) rfl
            have h_h32 : h32 = hereV bf n p := hw
            refine vp_callSi (va_Run.run (va_runS (As := [.int h32]) (rest := []) ⟨hx, hb, hml, hown, hts⟩ (c_QueryReader_isNameByte l dC dI H h32) (va_cwS 1 hts (gt_S (own := R_QueryReader) (i := 81) (y := y_QueryReader_isNameByte) i_QueryReader_isNameByte z_793 z_794 w_4) rfl rfl rfl (by decide +kernel) ⟨Nat.le_of_ble_eq_true rfl, Nat.le_of_ble_eq_true rfl⟩) ⟨mT_blind, fun U hU hW => ⟨rfl, hN.warm hW⟩⟩ rfl rfl hl.1 rfl (lv_room (Nat.le_of_ble_eq_true rfl)) d_QueryReader_shortSelector_100 ⟨by show (0 + 1) + (0) ≤ 3; omega, by show (0 + 9) + (0) ≤ 15 + (n - i); omega⟩)) (fun r33 h_r33 => ?_)
            refine lv_if_eq (tgt := 122) hx hb d_QueryReader_shortSelector_103 (by decide) (fun c103 => ?_) (fun c103 => ?_)
            · have hne : nmC bf n (n - i) i = p := hnm.trans (nmC_e (by rw [← h_h32]; exact h_r33.2.2 c103))
              refine lv_aload_n hx hb d_QueryReader_shortSelector_122 rfl (lv_at hl 1 rfl) ?_
              refine lv_aload_n hx hb d_QueryReader_shortSelector_123 rfl (lv_at hl 0 rfl) ?_
              refine va_get (D := (dC, dI)) (ci := 5) (v := .ref h0) (C := R_QueryReader) (T := F_QueryReader) (N := 2) hx hb hts in_QueryReader hown hK hP 0 rfl rfl 0 (by decide) (hts _ w_100) (fun _ h9 => h9) rfl d_QueryReader_shortSelector_124 ?_
              refine va_get (D := (dC, dI)) (ci := 8) (v := .int (nI p)) (C := R_Tape) (T := F_Tape) (N := 7) hx hb hts in_Tape hown hK hP 1 rfl rfl 5 (by decide) (hts _ z_53) (fun _ h9 => h9) rfl d_QueryReader_shortSelector_127 ?_
              refine lv_iload_n hx hb d_QueryReader_shortSelector_130 rfl (lv_at hl 2 rfl) ?_
              refine lv_isub hx hb d_QueryReader_shortSelector_131 ?_
              refine W.eq (g2 := F0 m 132 ls [.int (nI (p - i)), .ref q]) (by rw [show ((nI p) - (nI i)) = (nI (p - i)) from (pk_sub (by omega))]) ?_
              refine va_newa (atype := .int) (ty := .int) (N' := (p - i)) (a0 := ((p - i), .inl (fun _ => 0))) hx hb (hts _ w_73) rfl hK hP hD hS hA (fun _ => rfl) (nI_pos (by omega)) (nI_clamp (by omega)) (by show (p - i) * 4 ≤ 536870912; omega) (by show (0 + 1) + 1 ≤ 3; omega) (by show (0 + 9) + (p - i) ≤ 15 + (n - i); omega) d_QueryReader_shortSelector_132 (fun qn cA H hK hP hD hS => ?_)
              obtain rfl : cI = cA := Option.some.inj ((hK.2 1 _ rfl).2.symm.trans (hK.2 3 _ rfl).2)
              have hK := hK.sub (tys' := [(cB, .byte), (cI, .int), (cV, .object "QueryBench$Value")]) [0, 1, 2] rfl
              have hz_qn := newA hAe hD (fun k x hk => by rcases k with _ | _ | _ | _ | k; (· cases hk; exact ⟨0, _, rfl⟩); (· cases hk; exact ⟨1, _, rfl⟩); (· cases hk; exact ⟨2, _, rfl⟩); (· cases hk; exact ⟨3, _, rfl⟩); (· exact ⟨k + 5, x.2, hk⟩))
              have hP := hP.swap
              have hD := hD.swap
              have hP : va_P (dC, dI) classes ([(qr, .inr (5, [.ref h0, .int (nI o)])), (h0, .inr (8, [.ref qb, .ref qu, .int uc, .int ln, .int (nI n), .int (nI p), .int pl])), (qb, .inl (cB, 4096, .inl bf)), (qu, .inl (cI, 4096, .inl ug)), (q, .inr (7, [.int 0, .null, .int 0, .int 0, .long 0, .long 0, .long 1, .null, .null])), (qn, .inl (cI, (p - i), .inl (fun _ => 0)))] ++ va_pl L f) H := hP
              have hD : va_D A ([(qr, .inr (5, [.ref h0, .int (nI o)])), (h0, .inr (8, [.ref qb, .ref qu, .int uc, .int ln, .int (nI n), .int (nI p), .int pl])), (qb, .inl (cB, 4096, .inl bf)), (qu, .inl (cI, 4096, .inl ug)), (q, .inr (7, [.int 0, .null, .int 0, .int 0, .long 0, .long 0, .long 1, .null, .null])), (qn, .inl (cI, (p - i), .inl (fun _ => 0)))] ++ va_pl L f) := hD
              refine va_put (D := (dC, dI)) (ci := 7) (v := .ref qn) (ty := .array .int) (C := R_Selector) (T := F_Selector) (N := 9) hx hb hts in_Selector t_Selector t_Selector_ok n_Selector hown hK hP hD hS 4 rfl rfl 1 (by decide) (hts _ z_613) (fun _ h9 => h9) rfl (by decide +kernel) rfl rfl (Nat.le_of_ble_eq_true rfl) d_QueryReader_shortSelector_134 (fun H locs hP hD hS => ?_)
              have hP : va_P (dC, dI) classes ([(qr, .inr (5, [.ref h0, .int (nI o)])), (h0, .inr (8, [.ref qb, .ref qu, .int uc, .int ln, .int (nI n), .int (nI p), .int pl])), (qb, .inl (cB, 4096, .inl bf)), (qu, .inl (cI, 4096, .inl ug)), (q, .inr (7, [.int 0, .ref qn, .int 0, .int 0, .long 0, .long 0, .long 1, .null, .null])), (qn, .inl (cI, (p - i), .inl (fun _ => 0)))] ++ va_pl L f) H := hP
              have hD : va_D A ([(qr, .inr (5, [.ref h0, .int (nI o)])), (h0, .inr (8, [.ref qb, .ref qu, .int uc, .int ln, .int (nI n), .int (nI p), .int pl])), (qb, .inl (cB, 4096, .inl bf)), (qu, .inl (cI, 4096, .inl ug)), (q, .inr (7, [.int 0, .ref qn, .int 0, .int 0, .long 0, .long 0, .long 1, .null, .null])), (qn, .inl (cI, (p - i), .inl (fun _ => 0)))] ++ va_pl L f) := hD
              refine lv_iconst (v := 0) hx hb d_QueryReader_shortSelector_137 (by decide) ?_
              refine lv_istore (lv' := [(4, .int 0), (0, .ref qr), (2, .ref q), (3, .int (nI i))]) hx hb d_QueryReader_shortSelector_138 hl (by decide) rfl (fun ls hl => ?_)
              refine w_loop (D := (dC, dI)) (cl := classes) (A := A) (H0 := s.heap) (nL := 5) 140 (σ := Nat × (Nat → Int32)) (fun ⟨j, g⟩ => j ≤ (p - i) ∧ ∀ a, a < j → g a = bf (i + a)) (fun ⟨j, g⟩ => (p - i) - j) (fun ⟨j, g⟩ => [(qr, .inr (5, [.ref h0, .int (nI o)])), (h0, .inr (8, [.ref qb, .ref qu, .int uc, .int ln, .int (nI n), .int (nI p), .int pl])), (qb, .inl (cB, 4096, .inl bf)), (qu, .inl (cI, 4096, .inl ug)), (q, .inr (7, [.int 0, .ref qn, .int 0, .int 0, .long 0, .long 0, .long 1, .null, .null])), (qn, .inl (cI, (p - i), .inl g))] ++ va_pl L f) (fun ⟨j, g⟩ => [(0, .ref qr), (2, .ref q), (3, .int (nI i)), (4, .int (nI j))]) ?_ (0, fun _ => 0) ⟨Nat.zero_le _, fun a h => absurd h (Nat.not_lt_zero _)⟩ hP hD hS (lv_sub hl [1, 2, 3, 0] rfl)
              rintro ⟨j, g⟩ H locs ls hI ih hP hD hS hl
              have hP : va_P (dC, dI) classes ([(qr, .inr (5, [.ref h0, .int (nI o)])), (h0, .inr (8, [.ref qb, .ref qu, .int uc, .int ln, .int (nI n), .int (nI p), .int pl])), (qb, .inl (cB, 4096, .inl bf)), (qu, .inl (cI, 4096, .inl ug)), (q, .inr (7, [.int 0, .ref qn, .int 0, .int 0, .long 0, .long 0, .long 1, .null, .null])), (qn, .inl (cI, (p - i), .inl g))] ++ va_pl L f) H := hP
              have hD : va_D A ([(qr, .inr (5, [.ref h0, .int (nI o)])), (h0, .inr (8, [.ref qb, .ref qu, .int uc, .int ln, .int (nI n), .int (nI p), .int pl])), (qb, .inl (cB, 4096, .inl bf)), (qu, .inl (cI, 4096, .inl ug)), (q, .inr (7, [.int 0, .ref qn, .int 0, .int 0, .long 0, .long 0, .long 1, .null, .null])), (qn, .inl (cI, (p - i), .inl g))] ++ va_pl L f) := hD
              have hl : lv_has ls 5 [(0, .ref qr), (2, .ref q), (3, .int (nI i)), (4, .int (nI j))] := hl
              obtain ⟨hj, hgu⟩ := hI
              have hj : j ≤ (p - i) := hj
              refine lv_iload hx hb d_QueryReader_shortSelector_140 (lv_at hl 3 rfl) ?_
              refine lv_aload_n hx hb d_QueryReader_shortSelector_142 rfl (lv_at hl 1 rfl) ?_
              refine va_get (D := (dC, dI)) (ci := 7) (v := .ref qn) (C := R_Selector) (T := F_Selector) (N := 9) hx hb hts in_Selector hown hK hP 4 rfl rfl 1 (by decide) (hts _ z_613) (fun _ h9 => h9) rfl d_QueryReader_shortSelector_143 ?_
              refine va_alen (v := nI (p - i)) hx hb hK hP 5 1 rfl rfl rfl d_QueryReader_shortSelector_146 ?_
              refine lv_icmp_ge (tgt := 175) hx hb d_QueryReader_shortSelector_147 (by decide) (fun c147 => ?_) (fun c147 => ?_)
              · refine lv_aload_n hx hb d_QueryReader_shortSelector_175 rfl (lv_at hl 1 rfl) ?_
                have hgu9 : ∀ a, a < p - i → g a = bf (i + a) := fun a ha => hgu a (by rw [nI_leI (by omega) (by omega)] at c147; omega)
                have hqnL := plD_new (X := [(qr, .inr (5, [.ref h0, .int (nI o)])), (h0, .inr (8, [.ref qb, .ref qu, .int uc, .int ln, .int (nI n), .int (nI p), .int pl])), (qb, .inl (cB, 4096, .inl bf)), (qu, .inl (cI, 4096, .inl ug)), (q, .inr (7, [.int 0, .ref qn, .int 0, .int 0, .long 0, .long 0, .long 1, .null, .null]))]) hD
                have hqn0 : E qn = 0 := Classical.byContradiction (fun h => hqnL (hO.inL h))
                have hP := plP_push (X := [(qr, .inr (5, [.ref h0, .int (nI o)])), (h0, .inr (8, [.ref qb, .ref qu, .int uc, .int ln, .int (nI n), .int (nI p), .int pl])), (qb, .inl (cB, 4096, .inl bf)), (qu, .inl (cI, 4096, .inl ug)), (q, .inr (7, [.int 0, .ref qn, .int 0, .int 0, .long 0, .long 0, .long 1, .null, .null]))]) hP hqnL
                have hD := plD_push (X := [(qr, .inr (5, [.ref h0, .int (nI o)])), (h0, .inr (8, [.ref qb, .ref qu, .int uc, .int ln, .int (nI n), .int (nI p), .int pl])), (qb, .inl (cB, 4096, .inl bf)), (qu, .inl (cI, 4096, .inl ug)), (q, .inr (7, [.int 0, .ref qn, .int 0, .int 0, .long 0, .long 0, .long 1, .null, .null]))]) hD hqnL
                have hqL := plD_new (X := [(qr, .inr (5, [.ref h0, .int (nI o)])), (h0, .inr (8, [.ref qb, .ref qu, .int uc, .int ln, .int (nI n), .int (nI p), .int pl])), (qb, .inl (cB, 4096, .inl bf)), (qu, .inl (cI, 4096, .inl ug))]) hD
                have hq0 : va_up E qn 4 q = 0 := by
                  have hG0 : QG cI cV E lv L f i n p s.heap.size [] E lv f := (QG.rf hO hin).mv (by omega) (by omega)
                  have hG1 := hG0.add (q := qn) (s := 4) (b := 0) (e := tE cI (p - i) g) hqn0 (by rw [List.append_nil]; exact hqnL) hz_qn (by decide) (by decide) (CO.T (va_up_self _ _ _) ⟨_, _, rfl, by omega⟩)
                  exact Classical.byContradiction (fun h => hqL (by have := hG1.po.inL h; exact this))
                have hqq : qn ≠ q := fun e => by rw [← e, va_up_self] at hq0; cases hq0
                have hP := plP_push (X := [(qr, .inr (5, [.ref h0, .int (nI o)])), (h0, .inr (8, [.ref qb, .ref qu, .int uc, .int ln, .int (nI n), .int (nI p), .int pl])), (qb, .inl (cB, 4096, .inl bf)), (qu, .inl (cI, 4096, .inl ug))]) hP hqL
                have hD := plD_push (X := [(qr, .inr (5, [.ref h0, .int (nI o)])), (h0, .inr (8, [.ref qb, .ref qu, .int uc, .int ln, .int (nI n), .int (nI p), .int pl])), (qb, .inl (cB, 4096, .inl bf)), (qu, .inl (cI, 4096, .inl ug))]) hD hqL
                rw [List.append_assoc] at hP hD
                have hqE : E q = 0 := by rw [va_up_ne _ _ (Ne.symm hqq)] at hq0; exact hq0
                have hQ : QPn cI cV E L f i n s.heap.size 9 0 0 q p (([] ++ [qn]) ++ [q]) (va_up (va_up E qn 4) q 9) (va_up (va_up f qn (tE cI (p - i) g)) q (lE 0 (some qn) 0 0 0 0 1 none none)) := by
                  refine ⟨hqE, va_up_self _ _ _, by omega, by omega, fun lv hO b _ => ?_⟩
                  have hG0 : QG cI cV E lv L f i n p s.heap.size [] E lv f := (QG.rf hO hin).mv (by omega) (by omega)
                  have hG1 := hG0.add (q := qn) (s := 4) (b := 0) (e := tE cI (p - i) g) hqn0 (by rw [List.append_nil]; exact hqnL) hz_qn (by decide) (by decide) (CO.T (va_up_self _ _ _) ⟨_, _, rfl, by omega⟩)
                  exact ⟨va_up (va_up lv qn 0) q b, hG1.add (q := q) (s := 9) (b := b) (e := lE 0 (some qn) 0 0 0 0 1 none none) hq0 hqL hz_q (by decide) (by decide) (CO.L (va_up_self _ _ _) ⟨_, _, _, _, _, _, _, _, _, rfl, ⟨(fun b h => by cases h; exact (va_up_ne _ _ hqq).trans (va_up_self _ _ _)), fun b h => (nomatch h), fun b h => (nomatch h), (fun _ h => by cases h), fun h0 h1 => absurd rfl h0, by decide, by decide⟩⟩), va_up_self _ _ _⟩
                have hP : va_P (dC, dI) classes ([(qr, .inr (5, [.ref h0, .int (nI o)])), (h0, .inr (8, [.ref qb, .ref qu, .int uc, .int ln, .int (nI n), .int (nI p), .int pl])), (qb, .inl (cB, 4096, .inl bf)), (qu, .inl (cI, 4096, .inl ug))] ++ va_pl ((L ++ (([] ++ [qn]) ++ [q]))) ((va_up (va_up f qn (tE cI (p - i) g)) q (lE 0 (some qn) 0 0 0 0 1 none none)))) H := hP
                have hD : va_D A ([(qr, .inr (5, [.ref h0, .int (nI o)])), (h0, .inr (8, [.ref qb, .ref qu, .int uc, .int ln, .int (nI n), .int (nI p), .int pl])), (qb, .inl (cB, 4096, .inl bf)), (qu, .inl (cI, 4096, .inl ug))] ++ va_pl ((L ++ (([] ++ [qn]) ++ [q]))) ((va_up (va_up f qn (tE cI (p - i) g)) q (lE 0 (some qn) 0 0 0 0 1 none none)))) := hD
                have hok : shD bf n (nwB nw) i = some (p, sgL ((va_up (va_up f qn (tE cI (p - i) g)) q (lE 0 (some qn) 0 0 0 0 1 none none)) q), [namS (nmT_ bf n i p)]) := by rw [va_up_self, sgL_0]; exact shD_n hns hlet hne rfl
                have hdn : DNx LD 8 E (va_up (va_up E qn 4) q 9) (va_up (va_up f qn (tE cI (p - i) g)) q (lE 0 (some qn) 0 0 0 0 1 none none)) q (namS (nmT_ bf n i p)) := DNx.nam hqn0 hqn0 hq0 (nm_units hbf hne hgu9)
                refine w_same (fun hq => ?_)
                refine W.widen (k := 3) (n := 15 + (n - i)) (by show ((0 + 1) + 1) ≤ 3; omega) (by show ((0 + 9) + (p - i)) ≤ 15 + (n - i); omega) ?_
                refine vx_ret ?_
                exact W.aret (v := .ref q) hx hb hr (Or.inl ⟨_, rfl⟩) (Or.inr ⟨_, rfl⟩) (fun t9 ht hW => ⟨⟨(q, p, ([] ++ [qn]) ++ [q], va_up (va_up E qn 4) q 9, va_up (va_up f qn (tE cI (p - i) g)) q (lE 0 (some qn) 0 0 0 0 1 none none)), q, rfl, ⟨hQ, _, hok, hdn⟩, ⟨by rw [ht]; exact hP, va_K.moved hW.alike hK, hD⟩, by rw [ht]; exact ⟨hq.mono (by show ((0 + 1) + 1) ≤ 2; omega) (by show ((0 + 9) + (p - i)) ≤ 9 + (p - i); omega), rfl⟩⟩, hS.F ht⟩) hS.2.2 d_QueryReader_shortSelector_176
              · have hjl : j < p - i := by rw [nI_leI (by omega) (by omega)] at c147; omega
                refine lv_aload_n hx hb d_QueryReader_shortSelector_150 rfl (lv_at hl 1 rfl) ?_
                refine va_get (D := (dC, dI)) (ci := 7) (v := .ref qn) (C := R_Selector) (T := F_Selector) (N := 9) hx hb hts in_Selector hown hK hP 4 rfl rfl 1 (by decide) (hts _ z_613) (fun _ h9 => h9) rfl d_QueryReader_shortSelector_151 ?_
                refine lv_iload hx hb d_QueryReader_shortSelector_154 (lv_at hl 3 rfl) ?_
                refine lv_aload_n hx hb d_QueryReader_shortSelector_156 rfl (lv_at hl 0 rfl) ?_
                refine va_get (D := (dC, dI)) (ci := 5) (v := .ref h0) (C := R_QueryReader) (T := F_QueryReader) (N := 2) hx hb hts in_QueryReader hown hK hP 0 rfl rfl 0 (by decide) (hts _ w_100) (fun _ h9 => h9) rfl d_QueryReader_shortSelector_157 ?_
                refine va_get (D := (dC, dI)) (ci := 8) (v := .ref qb) (C := R_Tape) (T := F_Tape) (N := 7) hx hb hts in_Tape hown hK hP 1 rfl rfl 0 (by decide) (hts _ z_44) (fun _ h9 => h9) rfl d_QueryReader_shortSelector_160 ?_
                refine lv_iload_n hx hb d_QueryReader_shortSelector_163 rfl (lv_at hl 2 rfl) ?_
                refine lv_iload hx hb d_QueryReader_shortSelector_164 (lv_at hl 3 rfl) ?_
                refine lv_iadd hx hb d_QueryReader_shortSelector_166 ?_
                refine W.eq (g2 := F0 m 167 ls [.int (nI (i + j)), .ref qb, .int (nI j), .ref qn]) (by rw [show ((nI i) + (nI j)) = (nI (i + j)) from (nI_add _ _)]) ?_
                refine va_bald hx hb hK hP 2 0 rfl rfl (vp_in_nI (show i + j < 4096 by omega) (by decide)) d_QueryReader_shortSelector_167 ?_
                rw [show (nI (i + j)).toNatClampNeg = i + j from nI_clamp (by omega)]
                refine va_iast hx hb hK hP hD hS 5 1 rfl rfl (vp_in_nI hjl (by omega)) d_QueryReader_shortSelector_168 (fun H locs hP hD hS => ?_)
                rw [show (nI j).toNatClampNeg = j from nI_clamp (by omega)] at hP hD
                have hP : va_P (dC, dI) classes ([(qr, .inr (5, [.ref h0, .int (nI o)])), (h0, .inr (8, [.ref qb, .ref qu, .int uc, .int ln, .int (nI n), .int (nI p), .int pl])), (qb, .inl (cB, 4096, .inl bf)), (qu, .inl (cI, 4096, .inl ug)), (q, .inr (7, [.int 0, .ref qn, .int 0, .int 0, .long 0, .long 0, .long 1, .null, .null])), (qn, .inl (cI, (p - i), .inl (upd g j (bf (i + j)))))] ++ va_pl L f) H := hP
                have hD : va_D A ([(qr, .inr (5, [.ref h0, .int (nI o)])), (h0, .inr (8, [.ref qb, .ref qu, .int uc, .int ln, .int (nI n), .int (nI p), .int pl])), (qb, .inl (cB, 4096, .inl bf)), (qu, .inl (cI, 4096, .inl ug)), (q, .inr (7, [.int 0, .ref qn, .int 0, .int 0, .long 0, .long 0, .long 1, .null, .null])), (qn, .inl (cI, (p - i), .inl (upd g j (bf (i + j)))))] ++ va_pl L f) := hD
                refine lv_iinc (v := nI (j + 1)) (lv' := [(4, .int (nI (j + 1))), (0, .ref qr), (2, .ref q), (3, .int (nI i))]) hx hb d_QueryReader_shortSelector_169 hl (k := 3) rfl (nI_1 _) (by decide) rfl (fun ls hl => ?_)
                refine lv_goto (tgt := 140) hx hb d_QueryReader_shortSelector_172 (by decide) ?_
                exact ih (j + 1, upd g j (bf (i + j))) _ _ _ ⟨show j + 1 ≤ (p - i) by omega, fun a ha => by by_cases e9 : a = j; (· rw [e9]; exact pk_us); (· rw [pk_un e9]; exact hgu a (by omega))⟩ (by show (p - i) - (j + 1) < (p - i) - j; omega) hP hD hS (lv_sub hl [1, 2, 3, 0] rfl)
            · have hnm2 : nmC bf n (n - i) i = nmC bf n (n - (p + 1)) (p + 1) := hnm.trans (nmC_s hpn (by rw [← h_h32]; exact h_r33.2.1 c103))
              refine lv_aload_n hx hb d_QueryReader_shortSelector_106 rfl (lv_at hl 0 rfl) ?_
              refine va_get (D := (dC, dI)) (ci := 5) (v := .ref h0) (C := R_QueryReader) (T := F_QueryReader) (N := 2) hx hb hts in_QueryReader hown hK hP 0 rfl rfl 0 (by decide) (hts _ w_100) (fun _ h9 => h9) rfl d_QueryReader_shortSelector_107 ?_
              refine lv_dup hx hb d_QueryReader_shortSelector_110 rfl ?_
              refine va_get (D := (dC, dI)) (ci := 8) (v := .int (nI p)) (C := R_Tape) (T := F_Tape) (N := 7) hx hb hts in_Tape hown hK hP 1 rfl rfl 5 (by decide) (hts _ z_53) (fun _ h9 => h9) rfl d_QueryReader_shortSelector_111 ?_
              refine lv_iconst (v := 1) hx hb d_QueryReader_shortSelector_114 (by decide) ?_
              refine lv_iadd hx hb d_QueryReader_shortSelector_115 ?_
              refine W.eq (g2 := F0 m 116 ls [.int (nI (p + 1)), .ref h0]) (by rw [show ((nI p) + 1) = (nI (p + 1)) from nI_1 _]) ?_
              refine va_put (D := (dC, dI)) (ci := 8) (v := .int (nI (p + 1))) (ty := .int) (C := R_Tape) (T := F_Tape) (N := 7) hx hb hts in_Tape t_Tape t_Tape_ok n_Tape hown hK hP hD hS 1 rfl rfl 5 (by decide) (hts _ z_53) (fun _ h9 => h9) rfl (by decide +kernel) rfl rfl (Nat.le_of_ble_eq_true rfl) d_QueryReader_shortSelector_116 (fun H locs hP hD hS => ?_)
              have hP : va_P (dC, dI) classes ([(qr, .inr (5, [.ref h0, .int (nI o)])), (h0, .inr (8, [.ref qb, .ref qu, .int uc, .int ln, .int (nI n), .int (nI (p + 1)), .int pl])), (qb, .inl (cB, 4096, .inl bf)), (qu, .inl (cI, 4096, .inl ug)), (q, .inr (7, [.int 0, .null, .int 0, .int 0, .long 0, .long 0, .long 1, .null, .null]))] ++ va_pl L f) H := hP
              have hD : va_D A ([(qr, .inr (5, [.ref h0, .int (nI o)])), (h0, .inr (8, [.ref qb, .ref qu, .int uc, .int ln, .int (nI n), .int (nI (p + 1)), .int pl])), (qb, .inl (cB, 4096, .inl bf)), (qu, .inl (cI, 4096, .inl ug)), (q, .inr (7, [.int 0, .null, .int 0, .int 0, .long 0, .long 0, .long 1, .null, .null]))] ++ va_pl L f) := hD
              have hP : va_P (dC, dI) classes ([(qr, .inr (5, [.ref h0, .int (nI o)])), (h0, .inr (8, [.ref qb, .ref qu, .int uc, .int ln, .int (nI n), .int (nI (p + 1)), .int pl])), (qb, .inl (cB, 4096, .inl bf)), (qu, .inl (cI, 4096, .inl ug)), (q, .inr (7, [.int 0, .null, .int 0, .int 0, .long 0, .long 0, .long 1, .null, .null]))] ++ va_pl L f) H := hP
              have hD : va_D A ([(qr, .inr (5, [.ref h0, .int (nI o)])), (h0, .inr (8, [.ref qb, .ref qu, .int uc, .int ln, .int (nI n), .int (nI (p + 1)), .int pl])), (qb, .inl (cB, 4096, .inl bf)), (qu, .inl (cI, 4096, .inl ug)), (q, .inr (7, [.int 0, .null, .int 0, .int 0, .long 0, .long 0, .long 1, .null, .null]))] ++ va_pl L f) := hD
              refine lv_goto (tgt := 76) hx hb d_QueryReader_shortSelector_119 (by decide) ?_
              exact ih (p + 1) _ _ _ ⟨⟨show i ≤ p + 1 by omega, show p + 1 ≤ n by omega⟩, hnm2⟩ (by show n - (p + 1) < n - p; omega) hP hD hS (lv_sub hl [0, 1, 2] rfl)
        · refine lv_aload_n hx hb d_QueryReader_shortSelector_68 rfl (lv_at hl 2 rfl) ?_
          refine va_get (D := (dC, dI)) (ci := 5) (v := .ref h0) (C := R_QueryReader) (T := F_QueryReader) (N := 2) hx hb hts in_QueryReader hown hK hP 0 rfl rfl 0 (by decide) (hts _ w_100) (fun _ h9 => h9) rfl d_QueryReader_shortSelector_69 ?_
          refine lv_iload_n hx hb d_QueryReader_shortSelector_72 rfl (lv_at hl 0 rfl) ?_
          have hPc := hP.sub (ws' := [(h0, .inr (8, [.ref qb, .ref qu, .int uc, .int ln, .int (nI n), .int (nI i), .int pl])), (qb, .inl (cB, 4096, .inl bf))]) [1, 2] rfl
          have hDc := hD.sub (ws' := [(h0, .inr (8, [.ref qb, .ref qu, .int uc, .int ln, .int (nI n), .int (nI i), .int pl])), (qb, .inl (cB, 4096, .inl bf))]) [1, 2] (by decide) rfl
          have hFc := va_free (wc := [(h0, .inr (8, [.ref qb, .ref qu, .int uc, .int ln, .int (nI n), .int (nI i), .int pl])), (qb, .inl (cB, 4096, .inl bf))]) hD hS hA [1, 2] rfl
          have hKc := hK.sub (tys' := [(cB, .byte)]) [0] rfl
          refine w_same (fun hq0 => ?_)
          refine vx_callv (vx_runV (As := [.int (nI i)]) (rest := []) ⟨hx, hb, hml, hown, hts⟩ (c_Tape_fail l hl9 dC dI cB h0 qb H (.ref qu) uc ln (nI n) (nI i) pl bf ((nI i))) (cwV 1 hts (gt_V (own := R_QueryReader) (C := R_Tape) (i := 28) (y := y_Tape_fail) i_Tape_fail z_535 w_371 w_372 w_2) rfl rfl rfl (by decide +kernel) ⟨Nat.le_of_ble_eq_true rfl, Nat.le_of_ble_eq_true rfl⟩) ⟨mx_blind, va_recv hK hP (ci := 8) (q0 := 1) rfl rfl, fun U hU hW => ⟨rfl, ⟨hU, by rw [hU]; exact hPc, va_K.moved hW.alike hKc, hDc.weaken (fun _ _ _ _ => trivial)⟩, hN.warm hW, by rw [hU]; exact ZX.moved' hW.alike (ZX.narrow' (ZX.kept' hZ hS.2.1) hFc)⟩⟩ rfl rfl hl.1 rfl (lv_room (Nat.le_of_ble_eq_true rfl)) d_QueryReader_shortSelector_73 ⟨by show (0 + 1) + (1) ≤ 3; omega, by show (0 + 9) + (6) ≤ 15 + (n - i); omega⟩) hS (fun q _ h => hFc q h) hFc (fun q _ h => hFc q h) (fun En ce q9 _u t9 H1 locs ht hvm hw hB hz1 hk1 hS hce hcv hcl => ?_) (fun _u t9 H1 locs ht hvm hw hB hz1 hk1 hS => ?_)
          · obtain ⟨hEn, hP1, hK1, hD1⟩ := hB
            rw [ht] at hP1
            obtain ⟨hP, hD⟩ := va_joinQ (wr := [(qr, .inr (5, [.ref h0, .int (nI o)])), (qu, .inl (cI, 4096, .inl ug)), (q, .inr (7, [.int 0, .null, .int 0, .int 0, .long 0, .long 0, .long 1, .null, .null]))]) (w1 := [(h0, .inr (8, [.ref qb, .ref qu, .int uc, .int ln, .int (nI n), .int (nI i), .int (nI i)])), (qb, .inl (cB, 4096, .inl bf))]) hP hD [1, 2] [0, 3, 4] rfl rfl (by decide) (by decide) hk1 hFc hP1 hD1
            generalize H1 = H at hP hS hce ⊢
            have hP : va_P (dC, dI) classes ([(qr, .inr (5, [.ref h0, .int (nI o)])), (qu, .inl (cI, 4096, .inl ug)), (q, .inr (7, [.int 0, .null, .int 0, .int 0, .long 0, .long 0, .long 1, .null, .null])), (h0, .inr (8, [.ref qb, .ref qu, .int uc, .int ln, .int (nI n), .int (nI i), .int (nI i)])), (qb, .inl (cB, 4096, .inl bf))] ++ va_pl L f) H := hP
            have hD : va_D A ([(qr, .inr (5, [.ref h0, .int (nI o)])), (qu, .inl (cI, 4096, .inl ug)), (q, .inr (7, [.int 0, .null, .int 0, .int 0, .long 0, .long 0, .long 1, .null, .null])), (h0, .inr (8, [.ref qb, .ref qu, .int uc, .int ln, .int (nI n), .int (nI i), .int (nI i)])), (qb, .inl (cB, 4096, .inl bf))] ++ va_pl L f) := hD
            have hP := hP.part (cx := [(qr, .inr (5, [.ref h0, .int (nI o)])), (h0, .inr (8, [.ref qb, .ref qu, .int uc, .int ln, .int (nI n), .int (nI i), .int (nI i)])), (qb, .inl (cB, 4096, .inl bf)), (qu, .inl (cI, 4096, .inl ug)), (q, .inr (7, [.int 0, .null, .int 0, .int 0, .long 0, .long 0, .long 1, .null, .null]))]) [0, 3, 4, 1, 2] rfl
            have hD := hD.part (cx := [(qr, .inr (5, [.ref h0, .int (nI o)])), (h0, .inr (8, [.ref qb, .ref qu, .int uc, .int ln, .int (nI n), .int (nI i), .int (nI i)])), (qb, .inl (cB, 4096, .inl bf)), (qu, .inl (cI, 4096, .inl ug)), (q, .inr (7, [.int 0, .null, .int 0, .int 0, .long 0, .long 0, .long 1, .null, .null]))]) [0, 3, 4, 1, 2] (by decide) rfl
            have hP := hP.part (cx := [(qr, .inr (5, [.ref h0, .int (nI o)])), (h0, .inr (8, [.ref qb, .ref qu, .int uc, .int ln, .int (nI n), .int (nI i), .int (nI i)])), (qb, .inl (cB, 4096, .inl bf)), (qu, .inl (cI, 4096, .inl ug))]) [0, 1, 2, 3] rfl
            have hD := hD.part (cx := [(qr, .inr (5, [.ref h0, .int (nI o)])), (h0, .inr (8, [.ref qb, .ref qu, .int uc, .int ln, .int (nI n), .int (nI i), .int (nI i)])), (qb, .inl (cB, 4096, .inl bf)), (qu, .inl (cI, 4096, .inl ug))]) [0, 1, 2, 3] (by decide) rfl
            have hno : shD bf n (nwB nw) i = none := shD_0 hns (dig_nl (by rw [← h_h30]; exact h_r31.2.1 c65))
            exact vx_out (fun x hx => (hex x hx).elim) hlocks hce hcv hcl (fun t9 ht2 ha => ⟨(nI i, uc, (nI i), ug, nI o), hno, ⟨hEn, by rw [ht2]; exact hP, va_K.moved ha hK, hD⟩, hS.F ht2⟩) hS.2.2 (by show (0 + 1) + (1) ≤ 3; omega) (by show (0 + 9) + (6) ≤ 15 + (n - i); omega)
          · obtain ⟨⟨hP1, hK1, hD1⟩, hz9⟩ := hB
            rw [ht] at hP1
            rw [ht] at hz9
            refine w_tight (hq0.trans hz9) ?_
            have hq0 := hq0.trans hz9
            obtain ⟨hP, hD⟩ := va_joinQ (wr := [(qr, .inr (5, [.ref h0, .int (nI o)])), (qu, .inl (cI, 4096, .inl ug)), (q, .inr (7, [.int 0, .null, .int 0, .int 0, .long 0, .long 0, .long 1, .null, .null]))]) (w1 := [(h0, .inr (8, [.ref qb, .ref qu, .int uc, .int ln, .int (nI n), .int (nI i), .int pl])), (qb, .inl (cB, 4096, .inl bf))]) hP hD [1, 2] [0, 3, 4] rfl rfl (by decide) (by decide) hk1 hFc hP1 hD1
            generalize H1 = H at hP hS hq0 ⊢
            have hP : va_P (dC, dI) classes ([(qr, .inr (5, [.ref h0, .int (nI o)])), (qu, .inl (cI, 4096, .inl ug)), (q, .inr (7, [.int 0, .null, .int 0, .int 0, .long 0, .long 0, .long 1, .null, .null])), (h0, .inr (8, [.ref qb, .ref qu, .int uc, .int ln, .int (nI n), .int (nI i), .int pl])), (qb, .inl (cB, 4096, .inl bf))] ++ va_pl L f) H := hP
            have hD : va_D A ([(qr, .inr (5, [.ref h0, .int (nI o)])), (qu, .inl (cI, 4096, .inl ug)), (q, .inr (7, [.int 0, .null, .int 0, .int 0, .long 0, .long 0, .long 1, .null, .null])), (h0, .inr (8, [.ref qb, .ref qu, .int uc, .int ln, .int (nI n), .int (nI i), .int pl])), (qb, .inl (cB, 4096, .inl bf))] ++ va_pl L f) := hD
            have hP := hP.part (cx := [(qr, .inr (5, [.ref h0, .int (nI o)])), (h0, .inr (8, [.ref qb, .ref qu, .int uc, .int ln, .int (nI n), .int (nI i), .int pl])), (qb, .inl (cB, 4096, .inl bf)), (qu, .inl (cI, 4096, .inl ug)), (q, .inr (7, [.int 0, .null, .int 0, .int 0, .long 0, .long 0, .long 1, .null, .null]))]) [0, 3, 4, 1, 2] rfl
            have hD := hD.part (cx := [(qr, .inr (5, [.ref h0, .int (nI o)])), (h0, .inr (8, [.ref qb, .ref qu, .int uc, .int ln, .int (nI n), .int (nI i), .int pl])), (qb, .inl (cB, 4096, .inl bf)), (qu, .inl (cI, 4096, .inl ug)), (q, .inr (7, [.int 0, .null, .int 0, .int 0, .long 0, .long 0, .long 1, .null, .null]))]) [0, 3, 4, 1, 2] (by decide) rfl
            exact hw.elim
