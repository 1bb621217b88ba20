theorem z_24 : (.initialized "QueryBench$Segment" : Cond) ∈ gtbl := gt_in 24 (by decide +kernel) (by decide +kernel)
theorem z_551 : (.fieldLink "QueryBench$Query" 20 "QueryBench$Query" "first" "LQueryBench$Segment;" : Cond) ∈ gtbl := gt_in 551 (by decide +kernel) (by decide +kernel)
theorem z_553 : (.fieldLink "QueryBench$Query" 16 "QueryBench$Query" "last" "LQueryBench$Segment;" : Cond) ∈ gtbl := gt_in 553 (by decide +kernel) (by decide +kernel)
theorem z_580 : (.fieldLink "QueryBench$Query" 23 "QueryBench$Segment" "next" "LQueryBench$Segment;" : Cond) ∈ gtbl := gt_in 580 (by decide +kernel) (by decide +kernel)
theorem z_800 : (.methodLink "QueryBench$Query" 28 ⟨"QueryBench$Segment", "isSingular", "()Z"⟩ : Cond) ∈ gtbl := gt_in 800 (by decide +kernel) (by decide +kernel)
theorem z_801 : (.instanceMethod ⟨"QueryBench$Segment", "isSingular", "()Z"⟩ : Cond) ∈ gtbl := gt_in 801 (by decide +kernel) (by decide +kernel)
theorem z_802 : (.selects "QueryBench$Segment" ⟨"QueryBench$Segment", "isSingular", "()Z"⟩ ⟨"QueryBench$Segment", "isSingular", "()Z"⟩ : Cond) ∈ gtbl := gt_in 802 (by decide +kernel) (by decide +kernel)
/-- a segment leads to the next one -/
theorem PO.segn {cI cV : ClassId} {E lv : Nat → Nat} {L : List Nat} {f : Nat → va_E} {z v : Nat} (h : PO cI cV E lv L f) (hz : E z = 8) (hv : E v = 8) (hl : lv v ≤ lv z) (ho : z < v) {ds : Int32} {fi nx : Option Nat} (ef : f z = gE ds fi nx) (hg : GO E lv z fi nx) : PO cI cV E lv L (va_up f z (gE ds fi (some v))) := by
  refine h.go EX.rf.el (fun _ _ => rfl) (fun a ha => h.inL ha) (fun a ha => ?_)
  by_cases e : a = z
  · subst e
    right
    rw [va_up_self]
    exact CO.G hz ⟨_, _, _, rfl, hg.1, fun b hb => by cases hb; exact ⟨hv, hl, ho⟩⟩
  · left
    rw [va_up_ne _ _ e]
    exact ⟨rfl, rfl⟩
abbrev b_Query_add : ByteArray := prog_6_method_2_code
def y_Query_add : MethodName := ⟨"QueryBench$Query", "add", "(LQueryBench$Segment;)V"⟩
abbrev k_Query_add : Cond := .code y_Query_add b_Query_add 2 none
theorem i_Query_add : k_Query_add ∈ gtbl := gt_in 799 (by decide +kernel) (by decide +kernel)
theorem d_Query_add_0 : decode b_Query_add 0 = .ok (.aload_n 0, 1) := by decide +kernel
theorem d_Query_add_1 : decode b_Query_add 1 = .ok (.getfield 16, 3) := by decide +kernel
theorem d_Query_add_4 : decode b_Query_add 4 = .ok (.ifnonnull 11, 3) := by decide +kernel
theorem d_Query_add_7 : decode b_Query_add 7 = .ok (.aload_n 0, 1) := by decide +kernel
theorem d_Query_add_8 : decode b_Query_add 8 = .ok (.aload_n 1, 1) := by decide +kernel
theorem d_Query_add_9 : decode b_Query_add 9 = .ok (.putfield 20, 3) := by decide +kernel
theorem d_Query_add_12 : decode b_Query_add 12 = .ok (.goto 11, 3) := by decide +kernel
theorem d_Query_add_15 : decode b_Query_add 15 = .ok (.aload_n 0, 1) := by decide +kernel
theorem d_Query_add_16 : decode b_Query_add 16 = .ok (.getfield 16, 3) := by decide +kernel
theorem d_Query_add_19 : decode b_Query_add 19 = .ok (.aload_n 1, 1) := by decide +kernel
theorem d_Query_add_20 : decode b_Query_add 20 = .ok (.putfield 23, 3) := by decide +kernel
theorem d_Query_add_23 : decode b_Query_add 23 = .ok (.aload_n 0, 1) := by decide +kernel
theorem d_Query_add_24 : decode b_Query_add 24 = .ok (.aload_n 1, 1) := by decide +kernel
theorem d_Query_add_25 : decode b_Query_add 25 = .ok (.putfield 16, 3) := by decide +kernel
theorem d_Query_add_28 : decode b_Query_add 28 = .ok (.aload_n 0, 1) := by decide +kernel
theorem d_Query_add_29 : decode b_Query_add 29 = .ok (.aload_n 0, 1) := by decide +kernel
theorem d_Query_add_30 : decode b_Query_add 30 = .ok (.getfield 7, 3) := by decide +kernel
theorem d_Query_add_33 : decode b_Query_add 33 = .ok (.ifCond .eq 14, 3) := by decide +kernel
theorem d_Query_add_36 : decode b_Query_add 36 = .ok (.aload_n 1, 1) := by decide +kernel
theorem d_Query_add_37 : decode b_Query_add 37 = .ok (.invokevirtual 28, 3) := by decide +kernel
theorem d_Query_add_40 : decode b_Query_add 40 = .ok (.ifCond .eq 7, 3) := by decide +kernel
theorem d_Query_add_43 : decode b_Query_add 43 = .ok (.iconst 1, 1) := by decide +kernel
theorem d_Query_add_44 : decode b_Query_add 44 = .ok (.goto 4, 3) := by decide +kernel
theorem d_Query_add_47 : decode b_Query_add 47 = .ok (.iconst 0, 1) := by decide +kernel
theorem d_Query_add_48 : decode b_Query_add 48 = .ok (.putfield 7, 3) := by decide +kernel
theorem d_Query_add_51 : decode b_Query_add 51 = .ok (.return_, 1) := by decide +kernel
set_option maxHeartbeats 4000000 in
set_option maxRecDepth 100000 in
/-- Query.add -/
theorem c_Query_add (l : Launch) (dC : Nat → ClassId) (dI : Nat → Nat → Nat) (sz : Heap) (cI cV : ClassId) (E lv : Nat → Nat) (L : List Nat) (f : Nat → va_E) (hO : PO cI cV E lv L f) (q : Nat) (fr : Int32) (fl : Bool) (fi la : Option Nat) (sn : Nat) (hsn : E sn = 8) (hla : oR (fun z => E z = 8 ∧ lv sn ≤ lv z ∧ z < sn) la) : Met l y_Query_add (k_Query_add :: gtbl) ({ frames := 1, cells := 0, slots := 0, locals := 40 }) (va_Pc [.ref q, .ref sn] (mn dC dI ([(q, .inr (4, [.int fr, .int (bI fl), va_rf fi, va_rf la]))] ++ va_pl L f) [(cI, .int), (cV, .object "QueryBench$Value")] sz)) (va_Qv (fun (u : Option Nat × (Nat → va_E)) => PO cI cV E lv L u.2 ∧ ((la = none → u.1 = some sn ∧ u.2 = f) ∧ (la ≠ none → u.1 = fi)) ∧ ∀ z, la = some z → ∃ ds fi9 nx, f z = gE ds fi9 nx ∧ u.2 = va_up f z (gE ds fi9 (some sn))) (fun u t9 => mz dC dI ([(q, .inr (4, [.int fr, .int (bI (fl && sgG f sn)), va_rf u.1, .ref sn]))] ++ va_pl L u.2) [(cI, .int), (cV, .object "QueryBench$Value")] (va_A ([(q, .inr (4, [.int fr, .int (bI fl), va_rf fi, va_rf la]))] ++ va_pl L f) sz.size) t9 ∧ szk sz t9.heap (0) (0)) (va_A ([(q, .inr (4, [.int fr, .int (bI fl), va_rf fi, va_rf la]))] ++ va_pl L f) sz.size)) (0) (0) (va_A ([(q, .inr (4, [.int fr, .int (bI fl), va_rf fi, va_rf la]))] ++ va_pl L f) sz.size) := by
  refine Met.ofW (cc := b_Query_add) (maxL := 2) (ret := none) (by decide) rfl ?_
  intro p e s m args below meth c s₁ B hml hv
  obtain ⟨rfl, ⟨hsz, hP, hK, hD0⟩, hN⟩ := hv
  have hx := B.exec
  have hb := B.bytes
  have hr := B.returns
  have hts0 := atoms_spec (ws := k_Query_add :: gtbl) B.pre
  have hts := fun w h => hts0 w (List.mem_cons_of_mem _ h)
  have hown : s.vm.findClass R_Query = some m.cls := findClass_of_methodNamed B.named
  have hlocks := B.notSynchronized
  subst hsz
  have hD := hD0.self (sz := s.heap.size)
  generalize hAe : va_A ([(q, .inr (4, [.int fr, .int (bI fl), va_rf fi, va_rf la]))] ++ va_pl L f) s.heap.size = A at hD ⊢
  have hA : ∀ q : Nat, s.heap.size ≤ q → A q := fun q h => by rw [← hAe]; exact Or.inr h
  have hS : va_S A s.heap s.heap [] := va_S.rf
  have hP : va_P (dC, dI) classes ([(q, .inr (4, [.int fr, .int (bI fl), va_rf fi, va_rf la]))] ++ va_pl L f) s.heap := hP
  have hl := lv_entry ([.ref q, .ref sn]) (n := 2) (Nat.le_of_ble_eq_true rfl)
  rw [lg_entry_eq]
  generalize (lg_sl ([.ref q, .ref sn]) ++ List.replicate (2 - (lg_sl ([.ref q, .ref sn])).length) Slot.unset).toArray = ls at hl ⊢
  have hl : lv_has ls 2 [(0, .ref q), (1, .ref sn)] := hl
  refine lv_aload_n hx hb d_Query_add_0 rfl (lv_at hl 0 rfl) ?_
  rcases la with _ | lz
  · have hP : va_P (dC, dI) classes ([(q, .inr (4, [.int fr, .int (bI fl), va_rf fi, .null]))] ++ va_pl L f) s.heap := hP
    have hD : va_D A ([(q, .inr (4, [.int fr, .int (bI fl), va_rf fi, .null]))] ++ va_pl L f) := hD
    refine va_get (D := (dC, dI)) (ci := 4) (v := .null) (C := R_Query) (T := F_Query) (N := 4) hx hb hts in_Query hown hK hP 0 rfl rfl 3 (by decide) (hts _ z_553) (fun _ h9 => h9) rfl d_Query_add_1 ?_
    refine lv_ifnonnullN hx hb d_Query_add_4 ?_
    refine lv_aload_n hx hb d_Query_add_7 rfl (lv_at hl 0 rfl) ?_
    refine lv_aload_n hx hb d_Query_add_8 rfl (lv_at hl 1 rfl) ?_
    refine va_put (D := (dC, dI)) (ci := 4) (v := .ref sn) (ty := .object "QueryBench$Segment") (C := R_Query) (T := F_Query) (N := 4) hx hb hts in_Query t_Query t_Query_ok n_Query hown hK hP hD hS 0 rfl rfl 2 (by decide) (hts _ z_551) (fun _ h9 => h9) rfl (by decide +kernel) rfl rfl (Nat.le_of_ble_eq_true rfl) d_Query_add_9 (fun H locs hP hD hS => ?_)
    have hP : va_P (dC, dI) classes ([(q, .inr (4, [.int fr, .int (bI fl), .ref sn, .null]))] ++ va_pl L f) H := hP
    have hD : va_D A ([(q, .inr (4, [.int fr, .int (bI fl), .ref sn, .null]))] ++ va_pl L f) := hD
    refine lv_goto (tgt := 23) hx hb d_Query_add_12 (by decide) ?_
    refine lv_aload_n hx hb d_Query_add_23 rfl (lv_at hl 0 rfl) ?_
    refine lv_aload_n hx hb d_Query_add_24 rfl (lv_at hl 1 rfl) ?_
    refine va_put (D := (dC, dI)) (ci := 4) (v := .ref sn) (ty := .object "QueryBench$Segment") (C := R_Query) (T := F_Query) (N := 4) hx hb hts in_Query t_Query t_Query_ok n_Query hown hK hP hD hS 0 rfl rfl 3 (by decide) (hts _ z_553) (fun _ h9 => h9) rfl (by decide +kernel) rfl rfl (Nat.le_of_ble_eq_true rfl) d_Query_add_25 (fun H locs hP hD hS => ?_)
    have hP : va_P (dC, dI) classes ([(q, .inr (4, [.int fr, .int (bI fl), .ref sn, .ref sn]))] ++ va_pl L f) H := hP
    have hD : va_D A ([(q, .inr (4, [.int fr, .int (bI fl), .ref sn, .ref sn]))] ++ va_pl L f) := hD
    refine lv_aload_n hx hb d_Query_add_28 rfl (lv_at hl 0 rfl) ?_
    refine lv_aload_n hx hb d_Query_add_29 rfl (lv_at hl 0 rfl) ?_
    refine va_get (D := (dC, dI)) (ci := 4) (v := .int (bI fl)) (C := R_Query) (T := F_Query) (N := 4) hx hb hts in_Query hown hK hP 0 rfl rfl 1 (by decide) (hts _ z_548) (fun _ h9 => h9) rfl d_Query_add_30 ?_
    refine lv_if_eq (tgt := 47) hx hb d_Query_add_33 (by decide) (fun c33 => ?_) (fun c33 => ?_)
    · refine lv_iconst (v := 0) hx hb d_Query_add_47 (by decide) ?_
      refine va_put (D := (dC, dI)) (ci := 4) (v := .int 0) (ty := .boolean) (C := R_Query) (T := F_Query) (N := 4) hx hb hts in_Query t_Query t_Query_ok n_Query hown hK hP hD hS 0 rfl rfl 1 (by decide) (hts _ z_548) (fun _ h9 => h9) rfl (by decide +kernel) rfl rfl (Nat.le_of_ble_eq_true rfl) d_Query_add_48 (fun H locs hP hD hS => ?_)
      have hP : va_P (dC, dI) classes ([(q, .inr (4, [.int fr, .int 0, .ref sn, .ref sn]))] ++ va_pl L f) H := hP
      have hD : va_D A ([(q, .inr (4, [.int fr, .int 0, .ref sn, .ref sn]))] ++ va_pl L f) := hD
      have hgs : sgG f sn = sgG f sn := rfl
      have hv9 : (0 : Int32) = bI (fl && sgG f sn) := by rw [bI_f c33]; rfl
      have hP : va_P (dC, dI) classes ([(q, .inr (4, [.int fr, .int (bI (fl && sgG f sn)), .ref sn, .ref sn]))] ++ va_pl L f) H := by rw [← hv9]; exact hP
      have hD : va_D A ([(q, .inr (4, [.int fr, .int (bI (fl && sgG f sn)), .ref sn, .ref sn]))] ++ va_pl L f) := by rw [← hv9]; exact hD
      refine w_same (fun hq => ?_)
      refine W.widen (k := 0) (n := 0) (Nat.zero_le _) (Nat.zero_le _) ?_
      exact W.vret hx hb hr (fun t9 ht hW => ⟨⟨(some sn, f), rfl, ⟨hO, ⟨fun _ => ⟨rfl, rfl⟩, fun h => absurd rfl h⟩, (fun z hz => by cases hz)⟩, ⟨by rw [ht]; exact hP, va_K.moved hW.alike hK, hD⟩, by rw [ht]; exact hq⟩, hS.F ht⟩) hS.2.2 d_Query_add_51
    · refine lv_aload_n hx hb d_Query_add_36 rfl (lv_at hl 1 rfl) ?_
      obtain ⟨ds21, fi21, nx21, ef21, hv21⟩ := hO.seg hsn
      refine vp_callSi (va_Run.run (va_runV (As := []) (rest := [.ref q]) ⟨hx, hb, hml, hown, hts⟩ (c_Segment_isSingular l dC dI H cI cV E lv L f hO sn hsn) (cwV 0 hts (gt_V (own := R_Query) (C := R_Segment) (i := 28) (y := y_Segment_isSingular) i_Segment_isSingular z_800 z_801 z_802 z_24) rfl rfl rfl (by decide +kernel) ⟨Nat.le_of_ble_eq_true rfl, Nat.le_of_ble_eq_true rfl⟩) ⟨mq_blind, vq_recv hK hP rfl (hO.inL (a := sn) (by rw [hsn]; decide)) ef21, fun U hU hW => ⟨rfl, hU, by rw [hU]; exact hP.part (cx := []) [] rfl, va_K.moved hW.alike hK, hN.warm hW⟩⟩ rfl rfl hl.1 rfl (lv_room (Nat.le_of_ble_eq_true rfl)) d_Query_add_37 ⟨Nat.le_of_ble_eq_true rfl, Nat.le_of_ble_eq_true rfl⟩)) (fun r22 h_r22 => ?_)
      refine lv_if_eq (tgt := 47) hx hb d_Query_add_40 (by decide) (fun c40 => ?_) (fun c40 => ?_)
      · refine lv_iconst (v := 0) hx hb d_Query_add_47 (by decide) ?_
        refine va_put (D := (dC, dI)) (ci := 4) (v := .int 0) (ty := .boolean) (C := R_Query) (T := F_Query) (N := 4) hx hb hts in_Query t_Query t_Query_ok n_Query hown hK hP hD hS 0 rfl rfl 1 (by decide) (hts _ z_548) (fun _ h9 => h9) rfl (by decide +kernel) rfl rfl (Nat.le_of_ble_eq_true rfl) d_Query_add_48 (fun H locs hP hD hS => ?_)
        have hP : va_P (dC, dI) classes ([(q, .inr (4, [.int fr, .int 0, .ref sn, .ref sn]))] ++ va_pl L f) H := hP
        have hD : va_D A ([(q, .inr (4, [.int fr, .int 0, .ref sn, .ref sn]))] ++ va_pl L f) := hD
        have hgs : sgG f sn = sgG f sn := rfl
        have hv9 : (0 : Int32) = bI (fl && sgG f sn) := by rw [bI_t c33, ← hgs, bI_f (h_r22.symm.trans c40)]; rfl
        have hP : va_P (dC, dI) classes ([(q, .inr (4, [.int fr, .int (bI (fl && sgG f sn)), .ref sn, .ref sn]))] ++ va_pl L f) H := by rw [← hv9]; exact hP
        have hD : va_D A ([(q, .inr (4, [.int fr, .int (bI (fl && sgG f sn)), .ref sn, .ref sn]))] ++ va_pl L f) := by rw [← hv9]; exact hD
        refine w_same (fun hq => ?_)
        refine W.widen (k := 0) (n := 0) (Nat.zero_le _) (Nat.zero_le _) ?_
        exact W.vret hx hb hr (fun t9 ht hW => ⟨⟨(some sn, f), rfl, ⟨hO, ⟨fun _ => ⟨rfl, rfl⟩, fun h => absurd rfl h⟩, (fun z hz => by cases hz)⟩, ⟨by rw [ht]; exact hP, va_K.moved hW.alike hK, hD⟩, by rw [ht]; exact hq⟩, hS.F ht⟩) hS.2.2 d_Query_add_51
      · refine lv_iconst (v := 1) hx hb d_Query_add_43 (by decide) ?_
        refine lv_goto (tgt := 48) hx hb d_Query_add_44 (by decide) ?_
        refine va_put (D := (dC, dI)) (ci := 4) (v := .int 1) (ty := .boolean) (C := R_Query) (T := F_Query) (N := 4) hx hb hts in_Query t_Query t_Query_ok n_Query hown hK hP hD hS 0 rfl rfl 1 (by decide) (hts _ z_548) (fun _ h9 => h9) rfl (by decide +kernel) rfl rfl (Nat.le_of_ble_eq_true rfl) d_Query_add_48 (fun H locs hP hD hS => ?_)
        have hP : va_P (dC, dI) classes ([(q, .inr (4, [.int fr, .int 1, .ref sn, .ref sn]))] ++ va_pl L f) H := hP
        have hD : va_D A ([(q, .inr (4, [.int fr, .int 1, .ref sn, .ref sn]))] ++ va_pl L f) := hD
        have hgs : sgG f sn = sgG f sn := rfl
        have hv9 : (1 : Int32) = bI (fl && sgG f sn) := by rw [bI_t c33, ← hgs, bI_t (fun q => c40 (h_r22.trans q))]; rfl
        have hP : va_P (dC, dI) classes ([(q, .inr (4, [.int fr, .int (bI (fl && sgG f sn)), .ref sn, .ref sn]))] ++ va_pl L f) H := by rw [← hv9]; exact hP
        have hD : va_D A ([(q, .inr (4, [.int fr, .int (bI (fl && sgG f sn)), .ref sn, .ref sn]))] ++ va_pl L f) := by rw [← hv9]; exact hD
        refine w_same (fun hq => ?_)
        refine W.widen (k := 0) (n := 0) (Nat.zero_le _) (Nat.zero_le _) ?_
        exact W.vret hx hb hr (fun t9 ht hW => ⟨⟨(some sn, f), rfl, ⟨hO, ⟨fun _ => ⟨rfl, rfl⟩, fun h => absurd rfl h⟩, (fun z hz => by cases hz)⟩, ⟨by rw [ht]; exact hP, va_K.moved hW.alike hK, hD⟩, by rw [ht]; exact hq⟩, hS.F ht⟩) hS.2.2 d_Query_add_51
  · have hP : va_P (dC, dI) classes ([(q, .inr (4, [.int fr, .int (bI fl), va_rf fi, .ref lz]))] ++ va_pl L f) s.heap := hP
    have hD : va_D A ([(q, .inr (4, [.int fr, .int (bI fl), va_rf fi, .ref lz]))] ++ va_pl L f) := hD
    obtain ⟨hz1, hz2, hz3⟩ := hla lz rfl
    refine va_get (D := (dC, dI)) (ci := 4) (v := .ref lz) (C := R_Query) (T := F_Query) (N := 4) hx hb hts in_Query hown hK hP 0 rfl rfl 3 (by decide) (hts _ z_553) (fun _ h9 => h9) rfl d_Query_add_1 ?_
    refine lv_ifnonnull (tgt := 15) hx hb d_Query_add_4 (by decide) ?_
    refine lv_aload_n hx hb d_Query_add_15 rfl (lv_at hl 0 rfl) ?_
    refine va_get (D := (dC, dI)) (ci := 4) (v := .ref lz) (C := R_Query) (T := F_Query) (N := 4) hx hb hts in_Query hown hK hP 0 rfl rfl 3 (by decide) (hts _ z_553) (fun _ h9 => h9) rfl d_Query_add_16 ?_
    refine lv_aload_n hx hb d_Query_add_19 rfl (lv_at hl 1 rfl) ?_
    obtain ⟨ds23, fi23, nx23, ef23, hv23⟩ := hO.seg hz1
    refine vq_put (D := (dC, dI)) (ci := 6) (v := .ref sn) (ty := .object "QueryBench$Segment") (C := R_Segment) (T := F_Segment) (N := 3) hx hb hts in_Segment t_Segment t_Segment_ok n_Segment hown hK hP hD hS (hO.inL (a := lz) (by rw [hz1]; decide)) ef23 rfl 2 (by decide) (hts _ z_580) (fun _ h9 => h9) rfl (by decide +kernel) rfl rfl (Nat.le_of_ble_eq_true rfl) d_Query_add_20 (fun H locs hP hD hS => ?_)
    have hO2 := hO.segn hz1 hsn hz2 hz3 ef23 hv23
    obtain ⟨f2, hf2⟩ : ∃ g, g = va_up f lz (gE ds23 fi23 (some sn)) := ⟨_, rfl⟩
    rw [← hf2] at hO2
    have hP : va_P (dC, dI) classes ([(q, .inr (4, [.int fr, .int (bI fl), va_rf fi, .ref lz]))] ++ va_pl L f2) H := by rw [hf2]; exact hP
    have hD : va_D A ([(q, .inr (4, [.int fr, .int (bI fl), va_rf fi, .ref lz]))] ++ va_pl L f2) := by rw [hf2]; exact hD
    refine lv_aload_n hx hb d_Query_add_23 rfl (lv_at hl 0 rfl) ?_
    refine lv_aload_n hx hb d_Query_add_24 rfl (lv_at hl 1 rfl) ?_
    refine va_put (D := (dC, dI)) (ci := 4) (v := .ref sn) (ty := .object "QueryBench$Segment") (C := R_Query) (T := F_Query) (N := 4) hx hb hts in_Query t_Query t_Query_ok n_Query hown hK hP hD hS 0 rfl rfl 3 (by decide) (hts _ z_553) (fun _ h9 => h9) rfl (by decide +kernel) rfl rfl (Nat.le_of_ble_eq_true rfl) d_Query_add_25 (fun H locs hP hD hS => ?_)
    have hP : va_P (dC, dI) classes ([(q, .inr (4, [.int fr, .int (bI fl), va_rf fi, .ref sn]))] ++ va_pl L f2) H := hP
    have hD : va_D A ([(q, .inr (4, [.int fr, .int (bI fl), va_rf fi, .ref sn]))] ++ va_pl L f2) := hD
    refine lv_aload_n hx hb d_Query_add_28 rfl (lv_at hl 0 rfl) ?_
    refine lv_aload_n hx hb d_Query_add_29 rfl (lv_at hl 0 rfl) ?_
    refine va_get (D := (dC, dI)) (ci := 4) (v := .int (bI fl)) (C := R_Query) (T := F_Query) (N := 4) hx hb hts in_Query hown hK hP 0 rfl rfl 1 (by decide) (hts _ z_548) (fun _ h9 => h9) rfl d_Query_add_30 ?_
    refine lv_if_eq (tgt := 47) hx hb d_Query_add_33 (by decide) (fun c33 => ?_) (fun c33 => ?_)
    · refine lv_iconst (v := 0) hx hb d_Query_add_47 (by decide) ?_
      refine va_put (D := (dC, dI)) (ci := 4) (v := .int 0) (ty := .boolean) (C := R_Query) (T := F_Query) (N := 4) hx hb hts in_Query t_Query t_Query_ok n_Query hown hK hP hD hS 0 rfl rfl 1 (by decide) (hts _ z_548) (fun _ h9 => h9) rfl (by decide +kernel) rfl rfl (Nat.le_of_ble_eq_true rfl) d_Query_add_48 (fun H locs hP hD hS => ?_)
      have hP : va_P (dC, dI) classes ([(q, .inr (4, [.int fr, .int 0, va_rf fi, .ref sn]))] ++ va_pl L f2) H := hP
      have hD : va_D A ([(q, .inr (4, [.int fr, .int 0, va_rf fi, .ref sn]))] ++ va_pl L f2) := hD
      have hgs : sgG f2 sn = sgG f sn := (by rw [hf2]; exact sgG_fr hO hsn hz1 (fun e => by rw [e] at hz3; exact absurd hz3 (Nat.lt_irrefl _)))
      have hv9 : (0 : Int32) = bI (fl && sgG f sn) := by rw [bI_f c33]; rfl
      have hP : va_P (dC, dI) classes ([(q, .inr (4, [.int fr, .int (bI (fl && sgG f sn)), va_rf fi, .ref sn]))] ++ va_pl L f2) H := by rw [← hv9]; exact hP
      have hD : va_D A ([(q, .inr (4, [.int fr, .int (bI (fl && sgG f sn)), va_rf fi, .ref sn]))] ++ va_pl L f2) := by rw [← hv9]; exact hD
      refine w_same (fun hq => ?_)
      refine W.widen (k := 0) (n := 0) (Nat.zero_le _) (Nat.zero_le _) ?_
      exact W.vret hx hb hr (fun t9 ht hW => ⟨⟨(fi, f2), rfl, ⟨hO2, ⟨fun h => (by cases h), fun _ => rfl⟩, (fun z hz => by cases hz; exact ⟨_, _, _, ef23, hf2⟩)⟩, ⟨by rw [ht]; exact hP, va_K.moved hW.alike hK, hD⟩, by rw [ht]; exact hq⟩, hS.F ht⟩) hS.2.2 d_Query_add_51
    · refine lv_aload_n hx hb d_Query_add_36 rfl (lv_at hl 1 rfl) ?_
      obtain ⟨ds24, fi24, nx24, ef24, hv24⟩ := hO2.seg hsn
      refine vp_callSi (va_Run.run (va_runV (As := []) (rest := [.ref q]) ⟨hx, hb, hml, hown, hts⟩ (c_Segment_isSingular l dC dI H cI cV E lv L f2 hO2 sn hsn) (cwV 0 hts (gt_V (own := R_Query) (C := R_Segment) (i := 28) (y := y_Segment_isSingular) i_Segment_isSingular z_800 z_801 z_802 z_24) rfl rfl rfl (by decide +kernel) ⟨Nat.le_of_ble_eq_true rfl, Nat.le_of_ble_eq_true rfl⟩) ⟨mq_blind, vq_recv hK hP rfl (hO2.inL (a := sn) (by rw [hsn]; decide)) ef24, fun U hU hW => ⟨rfl, hU, by rw [hU]; exact hP.part (cx := []) [] rfl, va_K.moved hW.alike hK, hN.warm hW⟩⟩ rfl rfl hl.1 rfl (lv_room (Nat.le_of_ble_eq_true rfl)) d_Query_add_37 ⟨Nat.le_of_ble_eq_true rfl, Nat.le_of_ble_eq_true rfl⟩)) (fun r25 h_r25 => ?_)
      refine lv_if_eq (tgt := 47) hx hb d_Query_add_40 (by decide) (fun c40 => ?_) (fun c40 => ?_)
      · refine lv_iconst (v := 0) hx hb d_Query_add_47 (by decide) ?_
        refine va_put (D := (dC, dI)) (ci := 4) (v := .int 0) (ty := .boolean) (C := R_Query) (T := F_Query) (N := 4) hx hb hts in_Query t_Query t_Query_ok n_Query hown hK hP hD hS 0 rfl rfl 1 (by decide) (hts _ z_548) (fun _ h9 => h9) rfl (by decide +kernel) rfl rfl (Nat.le_of_ble_eq_true rfl) d_Query_add_48 (fun H locs hP hD hS => ?_)
        have hP : va_P (dC, dI) classes ([(q, .inr (4, [.int fr, .int 0, va_rf fi, .ref sn]))] ++ va_pl L f2) H := hP
        have hD : va_D A ([(q, .inr (4, [.int fr, .int 0, va_rf fi, .ref sn]))] ++ va_pl L f2) := hD
        have hgs : sgG f2 sn = sgG f sn := (by rw [hf2]; exact sgG_fr hO hsn hz1 (fun e => by rw [e] at hz3; exact absurd hz3 (Nat.lt_irrefl _)))
        have hv9 : (0 : Int32) = bI (fl && sgG f sn) := by rw [bI_t c33, ← hgs, bI_f (h_r25.symm.trans c40)]; rfl
        have hP : va_P (dC, dI) classes ([(q, .inr (4, [.int fr, .int (bI (fl && sgG f sn)), va_rf fi, .ref sn]))] ++ va_pl L f2) H := by rw [← hv9]; exact hP
        have hD : va_D A ([(q, .inr (4, [.int fr, .int (bI (fl && sgG f sn)), va_rf fi, .ref sn]))] ++ va_pl L f2) := by rw [← hv9]; exact hD
        refine w_same (fun hq => ?_)
        refine W.widen (k := 0) (n := 0) (Nat.zero_le _) (Nat.zero_le _) ?_
        exact W.vret hx hb hr (fun t9 ht hW => ⟨⟨(fi, f2), rfl, ⟨hO2, ⟨fun h => (by cases h), fun _ => rfl⟩, (fun z hz => by cases hz; exact ⟨_, _, _, ef23, hf2⟩)⟩, ⟨by rw [ht]; exact hP, va_K.moved hW.alike hK, hD⟩, by rw [ht]; exact hq⟩, hS.F ht⟩) hS.2.2 d_Query_add_51
      · refine lv_iconst (v := 1) hx hb d_Query_add_43 (by decide) ?_
        refine lv_goto (tgt := 48) hx hb d_Query_add_44 (by decide) ?_
        refine va_put (D := (dC, dI)) (ci := 4) (v := .int 1) (ty := .boolean) (C := R_Query) (T := F_Query) (N := 4) hx hb hts in_Query t_Query t_Query_ok n_Query hown hK hP hD hS 0 rfl rfl 1 (by decide) (hts _ z_548) (fun _ h9 => h9) rfl (by decide +kernel) rfl rfl (Nat.le_of_ble_eq_true rfl) d_Query_add_48 (fun H locs hP hD hS => ?_)
        have hP : va_P (dC, dI) classes ([(q, .inr (4, [.int fr, .int 1, va_rf fi, .ref sn]))] ++ va_pl L f2) H := hP
        have hD : va_D A ([(q, .inr (4, [.int fr, .int 1, va_rf fi, .ref sn]))] ++ va_pl L f2) := hD
        have hgs : sgG f2 sn = sgG f sn := (by rw [hf2]; exact sgG_fr hO hsn hz1 (fun e => by rw [e] at hz3; exact absurd hz3 (Nat.lt_irrefl _)))
        have hv9 : (1 : Int32) = bI (fl && sgG f sn) := by rw [bI_t c33, ← hgs, bI_t (fun q => c40 (h_r25.trans q))]; rfl
        have hP : va_P (dC, dI) classes ([(q, .inr (4, [.int fr, .int (bI (fl && sgG f sn)), va_rf fi, .ref sn]))] ++ va_pl L f2) H := by rw [← hv9]; exact hP
        have hD : va_D A ([(q, .inr (4, [.int fr, .int (bI (fl && sgG f sn)), va_rf fi, .ref sn]))] ++ va_pl L f2) := by rw [← hv9]; exact hD
        refine w_same (fun hq => ?_)
        refine W.widen (k := 0) (n := 0) (Nat.zero_le _) (Nat.zero_le _) ?_
        exact W.vret hx hb hr (fun t9 ht hW => ⟨⟨(fi, f2), rfl, ⟨hO2, ⟨fun h => (by cases h), fun _ => rfl⟩, (fun z hz => by cases hz; exact ⟨_, _, _, ef23, hf2⟩)⟩, ⟨by rw [ht]; exact hP, va_K.moved hW.alike hK, hD⟩, by rw [ht]; exact hq⟩, hS.F ht⟩) hS.2.2 d_Query_add_51
