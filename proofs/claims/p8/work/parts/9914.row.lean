theorem z_298 : (.methodLink "QueryBench$JsonReader" 42 ⟨"QueryBench$Tape", "skipBlanks", "()V"⟩ : Cond) ∈ gtbl := gt_in 298 (by decide +kernel) (by decide +kernel)
theorem z_299 : (.instanceMethod ⟨"QueryBench$Tape", "skipBlanks", "()V"⟩ : Cond) ∈ gtbl := gt_in 299 (by decide +kernel) (by decide +kernel)
theorem z_300 : (.selects "QueryBench$Tape" ⟨"QueryBench$Tape", "skipBlanks", "()V"⟩ ⟨"QueryBench$Tape", "skipBlanks", "()V"⟩ : Cond) ∈ gtbl := gt_in 300 (by decide +kernel) (by decide +kernel)
theorem z_333 : (.fieldLink "QueryBench$JsonReader" 126 "QueryBench$Value" "name" "[I" : Cond) ∈ gtbl := gt_in 333 (by decide +kernel) (by decide +kernel)
theorem z_336 : (.fieldLink "QueryBench$JsonReader" 132 "QueryBench$Value" "nextMember" "LQueryBench$Value;" : Cond) ∈ gtbl := gt_in 336 (by decide +kernel) (by decide +kernel)
theorem z_405 : (.methodLink "QueryBench$JsonReader" 62 ⟨"QueryBench$Tape", "quoted", "()[I"⟩ : Cond) ∈ gtbl := gt_in 405 (by decide +kernel) (by decide +kernel)
theorem z_406 : (.instanceMethod ⟨"QueryBench$Tape", "quoted", "()[I"⟩ : Cond) ∈ gtbl := gt_in 406 (by decide +kernel) (by decide +kernel)
theorem z_407 : (.selects "QueryBench$Tape" ⟨"QueryBench$Tape", "quoted", "()[I"⟩ ⟨"QueryBench$Tape", "quoted", "()[I"⟩ : Cond) ∈ gtbl := gt_in 407 (by decide +kernel) (by decide +kernel)
theorem z_446 : (.methodLink "QueryBench$JsonReader" 116 ⟨"QueryBench$Tape", "take", "(I)V"⟩ : Cond) ∈ gtbl := gt_in 446 (by decide +kernel) (by decide +kernel)
theorem nz_443 : (.methodLinkNest "QueryBench$JsonReader" 142 ⟨"QueryBench", "sameText", "([I[I)Z"⟩ "QueryBench" : Cond) ∈ nwl := List.mem_filter.mpr ⟨List.mem_append_right _ (List.mem_of_getElem? (i := 443) (by decide +kernel)), rfl⟩
/-- a row of units comes to the pool -/
theorem PO.addT {cI cV : ClassId} {E lv : Nat → Nat} {L : List Nat} {f : Nat → va_E} {q k : Nat} {g : Nat → Int32} (h : PO cI cV E lv L f) (hq : E q = 0) (hk : k ≤ 4096) : PO cI cV (va_up E q 4) lv (L ++ [q]) (va_up f q (tE cI k g)) := by
  have hx := EX.new (s := 4) hq
  refine h.go hx.el (fun _ _ => rfl) (fun a ha => ?_) (fun a ha => ?_)
  · by_cases e : a = q
    · rw [e]; exact List.mem_append_right _ (List.mem_singleton.mpr rfl)
    · rw [va_up_ne _ _ e] at ha; exact List.mem_append_left _ (h.inL ha)
  · by_cases e : a = q
    · subst e
      right
      rw [va_up_self]
      exact CO.T (va_up_self _ _ _) ⟨_, _, rfl, hk⟩
    · left
      rw [va_up_ne _ _ e, va_up_ne _ _ e]
      exact ⟨rfl, rfl⟩
/-- a chain of members -/
def CHM (E : Nat → Nat) (f : Nat → va_E) (P : Nat → Prop) (ms : List Nat) : Prop := ∀ (j a : Nat), ms[j]? = some a → E a ≠ 0 ∧ isV E a ∧ P a ∧ nmF f a = ms[j + 1]?
theorem qtN_le {f : Nat → Int32} {n i : Nat} (hi : i < n) : qtN f n i ≤ n - i := by
  unfold qtN
  cases h : qtR f n i with
  | none => exact Nat.zero_le _
  | some z =>
    obtain ⟨j, L⟩ := z
    have := qtR_b hi h
    show L.length ≤ n - i
    omega
abbrev b_JsonReader_row : ByteArray := prog_3_method_9_code
def y_JsonReader_row : MethodName := ⟨"QueryBench$JsonReader", "row", "(LQueryBench$Value;I)[LQueryBench$Value;"⟩
abbrev k_JsonReader_row : Cond := .code y_JsonReader_row b_JsonReader_row 5 (some (.array (.object "QueryBench$Value")))
theorem i_JsonReader_row : k_JsonReader_row ∈ gtbl := gt_in 449 (by decide +kernel) (by decide +kernel)
theorem d_JsonReader_row_0 : decode b_JsonReader_row 0 = .ok (.iload_n 1, 1) := by decide +kernel
theorem d_JsonReader_row_1 : decode b_JsonReader_row 1 = .ok (.anewarray 53, 3) := by decide +kernel
theorem d_JsonReader_row_4 : decode b_JsonReader_row 4 = .ok (.astore_n 2, 1) := by decide +kernel
theorem d_JsonReader_row_5 : decode b_JsonReader_row 5 = .ok (.iconst 0, 1) := by decide +kernel
theorem d_JsonReader_row_6 : decode b_JsonReader_row 6 = .ok (.istore_n 3, 1) := by decide +kernel
theorem d_JsonReader_row_7 : decode b_JsonReader_row 7 = .ok (.aload_n 0, 1) := by decide +kernel
theorem d_JsonReader_row_8 : decode b_JsonReader_row 8 = .ok (.astore 4, 2) := by decide +kernel
theorem d_JsonReader_row_10 : decode b_JsonReader_row 10 = .ok (.aload 4, 2) := by decide +kernel
theorem d_JsonReader_row_12 : decode b_JsonReader_row 12 = .ok (.ifnull 26, 3) := by decide +kernel
theorem d_JsonReader_row_15 : decode b_JsonReader_row 15 = .ok (.iload_n 3, 1) := by decide +kernel
theorem d_JsonReader_row_16 : decode b_JsonReader_row 16 = .ok (.iload_n 1, 1) := by decide +kernel
theorem d_JsonReader_row_17 : decode b_JsonReader_row 17 = .ok (.if_icmp .ge 21, 3) := by decide +kernel
theorem d_JsonReader_row_20 : decode b_JsonReader_row 20 = .ok (.aload_n 2, 1) := by decide +kernel
theorem d_JsonReader_row_21 : decode b_JsonReader_row 21 = .ok (.iload_n 3, 1) := by decide +kernel
theorem d_JsonReader_row_22 : decode b_JsonReader_row 22 = .ok (.aload 4, 2) := by decide +kernel
theorem d_JsonReader_row_24 : decode b_JsonReader_row 24 = .ok (.aastore, 1) := by decide +kernel
theorem d_JsonReader_row_25 : decode b_JsonReader_row 25 = .ok (.iinc 3 1, 3) := by decide +kernel
theorem d_JsonReader_row_28 : decode b_JsonReader_row 28 = .ok (.aload 4, 2) := by decide +kernel
theorem d_JsonReader_row_30 : decode b_JsonReader_row 30 = .ok (.getfield 132, 3) := by decide +kernel
theorem d_JsonReader_row_33 : decode b_JsonReader_row 33 = .ok (.astore 4, 2) := by decide +kernel
theorem d_JsonReader_row_35 : decode b_JsonReader_row 35 = .ok (.goto (-25), 3) := by decide +kernel
theorem d_JsonReader_row_38 : decode b_JsonReader_row 38 = .ok (.aload_n 2, 1) := by decide +kernel
theorem d_JsonReader_row_39 : decode b_JsonReader_row 39 = .ok (.areturn, 1) := by decide +kernel
set_option maxHeartbeats 4000000 in
set_option maxRecDepth 100000 in
/-- JsonReader.row -/
theorem c_JsonReader_row (l : Launch) (K : Nat → Nat × Nat) (dC : Nat → ClassId) (dI : Nat → Nat → Nat) (sz : Heap) (cI cV : ClassId) (E lv : Nat → Nat) (L : List Nat) (f : Nat → va_E) (hO : PO cI cV E lv L f) (fo : Option Nat) (ms : List Nat) (hfo : fo = ms[0]?) (hlm : ms.length ≤ 4096) (P9 : Nat → Prop) (hms : CHM E f P9 ms) : Met l y_JsonReader_row (k_JsonReader_row :: gtbl) ({ frames := 0, cells := 1, slots := ms.length, locals := 0 }) (va_Pc [va_rf fo, .int (nI ms.length)] (ml K dC dI ([] ++ va_pl L f) [(cI, .int), (cV, .object "QueryBench$Value")] sz)) (va_Qr (fun (u : Nat × (Nat → Option Nat)) => ∀ k, k < ms.length → u.2 k = ms[k]?) (fun u a9 t9 => mz dC dI ([(u.1, .inl (cV, ms.length, .inr (.inr (.inr (.inr u.2)))))] ++ va_pl L f) [(cI, .int), (cV, .object "QueryBench$Value")] (va_A ([] ++ va_pl L f) sz.size) t9 ∧ szk sz t9.heap (1) (ms.length) ∧ a9 = u.1) (va_A ([] ++ va_pl L f) sz.size)) (1) (ms.length) (va_A ([] ++ va_pl L f) sz.size) := by
  rcases fo with _ | b21
  · change Met _ _ _ _ (va_Pc [.null, .int (nI ms.length)] _) _ _ _ _
    refine Met.ofW (cc := b_JsonReader_row) (maxL := 5) (ret := (some (.array (.object "QueryBench$Value")))) (by decide) rfl ?_
    intro p e s m args below meth c s₁ B hml hv
    obtain ⟨rfl, ⟨hsz, hP, hK, hD0⟩, hN, hZ, hC, hV⟩ := hv
    have hx := B.exec
    have hb := B.bytes
    have hr := B.returns
    have hts0 := atoms_spec (ws := k_JsonReader_row :: gtbl) B.pre
    have hts := fun w h => hts0 w (List.mem_cons_of_mem _ h)
    have hown : s.vm.findClass R_JsonReader = some m.cls := findClass_of_methodNamed B.named
    have hlocks := B.notSynchronized
    subst hsz
    have hD := hD0.self (sz := s.heap.size)
    generalize hAe : va_A ([] ++ va_pl L f) s.heap.size = A at hD hZ hC ⊢
    have hA : ∀ q : Nat, s.heap.size ≤ q → A q := fun q h => by rw [← hAe]; exact Or.inr h
    have hS : va_S A s.heap s.heap [] := va_S.rf
    have hP : va_P (dC, dI) classes ([] ++ va_pl L f) s.heap := hP
    have hl := lv_entry ([.null, .int (nI ms.length)]) (n := 5) (Nat.le_of_ble_eq_true rfl)
    rw [lg_entry_eq]
    generalize (lg_sl ([.null, .int (nI ms.length)]) ++ List.replicate (5 - (lg_sl ([.null, .int (nI ms.length)])).length) Slot.unset).toArray = ls at hl ⊢
    have hl : lv_has ls 5 [(0, .null), (1, .int (nI ms.length))] := hl
    refine lv_iload_n hx hb d_JsonReader_row_0 rfl (lv_at hl 1 rfl) ?_
    refine va_newq (N' := ms.length) hx hb hown (hts _ z_306) hV hK hP hD hS hA (nI_pos (by omega)) (nI_clamp (by omega)) (by omega) (by show 0 + 1 ≤ 1; omega) (by show 0 + ms.length ≤ ms.length; omega) d_JsonReader_row_1 (fun ra cA H hK hP hD hS => ?_)
    obtain ⟨_, _, _, _, _, e8⟩ := (hK.2 1 _ rfl).2
    obtain ⟨_, _, _, _, _, e9⟩ := (hK.2 2 _ rfl).2
    obtain rfl : cV = cA := Option.some.inj (e8.symm.trans e9)
    have hK := hK.sub (tys' := [(cI, .int), (cV, .object "QueryBench$Value")]) [0, 1] rfl
    have hP := hP.swap
    have hD := hD.swap
    have hP : va_P (dC, dI) classes ([(ra, .inl (cV, ms.length, .inr (.inr (.inr (.inr (fun _ => none))))))] ++ va_pl L f) H := hP
    have hD : va_D A ([(ra, .inl (cV, ms.length, .inr (.inr (.inr (.inr (fun _ => none))))))] ++ va_pl L f) := hD
    refine lv_astore_n (lv' := [(2, .ref ra), (0, .null), (1, .int (nI ms.length))]) hx hb d_JsonReader_row_4 rfl hl (by decide) rfl (fun ls hl => ?_)
    refine lv_iconst (v := 0) hx hb d_JsonReader_row_5 (by decide) ?_
    refine lv_istore_n (lv' := [(3, .int 0), (2, .ref ra), (0, .null), (1, .int (nI ms.length))]) hx hb d_JsonReader_row_6 rfl hl (by decide) rfl (fun ls hl => ?_)
    refine lv_aload_nN hx hb d_JsonReader_row_7 rfl (lv_at hl 2 rfl) ?_
    refine lv_astoreN (lv' := [(4, .null), (3, .int 0), (2, .ref ra), (0, .null), (1, .int (nI ms.length))]) hx hb d_JsonReader_row_8 hl (by decide) rfl (fun ls hl => ?_)
    have hl : lv_has ls 5 [(4, va_rf (ms[0]?)), (3, .int 0), (2, .ref ra), (0, .null), (1, .int (nI ms.length))] := by rw [← hfo]; exact hl
    refine w_loop (D := (dC, dI)) (cl := classes) (A := A) (H0 := s.heap) (nL := 5) 10 (σ := Nat × (Nat → Option Nat)) (fun ⟨j, g⟩ => j ≤ ms.length ∧ ∀ k, k < j → g k = ms[k]?) (fun ⟨j, g⟩ => ms.length - j) (fun ⟨j, g⟩ => [(ra, .inl (cV, ms.length, .inr (.inr (.inr (.inr g)))))] ++ va_pl L f) (fun ⟨j, g⟩ => [(1, .int (nI ms.length)), (2, .ref ra), (3, .int (nI j)), (4, va_rf (ms[j]?))]) ?_ (0, fun _ => none) ⟨Nat.zero_le _, fun k h => absurd h (Nat.not_lt_zero _)⟩ hP hD hS (lv_sub hl [4, 2, 1, 0] rfl)
    rintro ⟨j, g⟩ H locs ls hI ih hP hD hS hl
    have hP : va_P (dC, dI) classes ([(ra, .inl (cV, ms.length, .inr (.inr (.inr (.inr g)))))] ++ va_pl L f) H := hP
    have hD : va_D A ([(ra, .inl (cV, ms.length, .inr (.inr (.inr (.inr g)))))] ++ va_pl L f) := hD
    have hl : lv_has ls 5 [(1, .int (nI ms.length)), (2, .ref ra), (3, .int (nI j)), (4, va_rf (ms[j]?))] := hl
    obtain ⟨hj, hg⟩ := hI
    have hj : j ≤ ms.length := hj
    have hg : ∀ k, k < j → g k = ms[k]? := hg
    rcases hoj : ms[j]? with _ | a9
    · rw [hoj] at hl
      have hl : lv_has ls 5 [(1, .int (nI ms.length)), (2, .ref ra), (3, .int (nI j)), (4, .null)] := hl
      refine lv_aloadN hx hb d_JsonReader_row_10 (lv_at hl 3 rfl) ?_
      refine lv_ifnullN (tgt := 38) hx hb d_JsonReader_row_12 (by decide) ?_
      refine lv_aload_n hx hb d_JsonReader_row_38 rfl (lv_at hl 1 rfl) ?_
      have hjl : j = ms.length := by have := List.getElem?_eq_none_iff.mp hoj; omega
      refine w_same (fun hq => ?_)
      refine W.widen (k := 1) (n := ms.length) (by show 0 + 1 ≤ 1; omega) (by show 0 + ms.length ≤ ms.length; omega) ?_
      exact W.aret (v := .ref ra) hx hb hr (Or.inr ⟨_, rfl⟩) (Or.inr ⟨_, rfl⟩) (fun t9 ht hW => ⟨⟨(ra, g), ra, rfl, fun k hk => hg k (by rw [hjl]; exact hk), ⟨by rw [ht]; exact hP, va_K.moved hW.alike hK, hD⟩, by rw [ht]; exact ⟨hq.mono (by show 0 + 1 ≤ 1; omega) (by show 0 + ms.length ≤ ms.length; omega), rfl⟩⟩, hS.F ht⟩) hS.2.2 d_JsonReader_row_39
    · rw [hoj] at hl
      have hl : lv_has ls 5 [(1, .int (nI ms.length)), (2, .ref ra), (3, .int (nI j)), (4, .ref a9)] := hl
      have ha9 := hms j a9 hoj
      refine lv_aload hx hb d_JsonReader_row_10 (lv_at hl 3 rfl) ?_
      refine lv_ifnull hx hb d_JsonReader_row_12 ?_
      refine lv_iload_n hx hb d_JsonReader_row_15 rfl (lv_at hl 2 rfl) ?_
      refine lv_iload_n hx hb d_JsonReader_row_16 rfl (lv_at hl 0 rfl) ?_
      refine lv_icmp_ge (tgt := 38) hx hb d_JsonReader_row_17 (by decide) (fun c17 => ?_) (fun c17 => ?_)
      · exact absurd (List.getElem?_eq_some_iff.mp hoj).1 (by rw [nI_leI (by omega) (by omega)] at c17; omega)
      · have hjl : j < ms.length := by rw [nI_leI (by omega) (by omega)] at c17; omega
        refine lv_aload_n hx hb d_JsonReader_row_20 rfl (lv_at hl 1 rfl) ?_
        refine lv_iload_n hx hb d_JsonReader_row_21 rfl (lv_at hl 2 rfl) ?_
        refine lv_aload hx hb d_JsonReader_row_22 (lv_at hl 3 rfl) ?_
        obtain ⟨kd22, nu22, tx22, me22, pa22, na22, ix22, nm22, no22, sp22, ef22, hv22⟩ := hO.val ha9.2.1
        refine vq_ast hx hb hK hP hD hS 0 1 9 rfl rfl (hO.inV ha9.2.1) ef22 rfl hjl (by omega) d_JsonReader_row_24 (fun H locs hP hD hS => ?_)
        have hP : va_P (dC, dI) classes ([(ra, .inl (cV, ms.length, .inr (.inr (.inr (.inr (va_up g j (some a9)))))))] ++ va_pl L f) H := hP
        have hD : va_D A ([(ra, .inl (cV, ms.length, .inr (.inr (.inr (.inr (va_up g j (some a9)))))))] ++ va_pl L f) := hD
        refine lv_iinc (v := nI (j + 1)) (lv' := [(3, .int (nI (j + 1))), (1, .int (nI ms.length)), (2, .ref ra), (4, .ref a9)]) hx hb d_JsonReader_row_25 hl (k := 2) rfl (nI_1 _) (by decide) rfl (fun ls hl => ?_)
        refine lv_aload hx hb d_JsonReader_row_28 (lv_at hl 3 rfl) ?_
        rcases nm22 with _ | b23
        · refine vq_get (D := (dC, dI)) (ci := 9) (v := .null) (C := R_Value) (T := F_Value) (N := 10) hx hb hts in_Value hown hK hP (hO.inV ha9.2.1) ef22 rfl 7 (by decide) (hts _ z_336) (fun _ h9 => h9) rfl d_JsonReader_row_30 ?_
          refine lv_astoreN (lv' := [(4, .null), (3, .int (nI (j + 1))), (1, .int (nI ms.length)), (2, .ref ra)]) hx hb d_JsonReader_row_33 hl (by decide) rfl (fun ls hl => ?_)
          refine lv_goto (tgt := 10) hx hb d_JsonReader_row_35 (by decide) ?_
          have hnn := (nmF_v ef22).symm.trans ha9.2.2.2
          have hl : lv_has ls 5 [(4, va_rf (ms[j + 1]?)), (3, .int (nI (j + 1))), (1, .int (nI ms.length)), (2, .ref ra)] := by rw [← hnn]; exact hl
          exact ih (j + 1, va_up g j (some a9)) _ _ _ ⟨show j + 1 ≤ ms.length by omega, fun k hk => by
            by_cases e : k = j
            · subst e; rw [va_up_self]; exact hoj.symm
            · rw [va_up_ne _ _ e]; exact hg k (by have hk : k < j + 1 := hk; omega)⟩ (by show ms.length - (j + 1) < ms.length - j; omega) hP hD hS (lv_sub hl [2, 3, 1, 0] rfl)
        · refine vq_get (D := (dC, dI)) (ci := 9) (v := .ref b23) (C := R_Value) (T := F_Value) (N := 10) hx hb hts in_Value hown hK hP (hO.inV ha9.2.1) ef22 rfl 7 (by decide) (hts _ z_336) (fun _ h9 => h9) rfl d_JsonReader_row_30 ?_
          refine lv_astore (lv' := [(4, .ref b23), (3, .int (nI (j + 1))), (1, .int (nI ms.length)), (2, .ref ra)]) hx hb d_JsonReader_row_33 hl (by decide) rfl (fun ls hl => ?_)
          refine lv_goto (tgt := 10) hx hb d_JsonReader_row_35 (by decide) ?_
          have hnn := (nmF_v ef22).symm.trans ha9.2.2.2
          have hl : lv_has ls 5 [(4, va_rf (ms[j + 1]?)), (3, .int (nI (j + 1))), (1, .int (nI ms.length)), (2, .ref ra)] := by rw [← hnn]; exact hl
          exact ih (j + 1, va_up g j (some a9)) _ _ _ ⟨show j + 1 ≤ ms.length by omega, fun k hk => by
            by_cases e : k = j
            · subst e; rw [va_up_self]; exact hoj.symm
            · rw [va_up_ne _ _ e]; exact hg k (by have hk : k < j + 1 := hk; omega)⟩ (by show ms.length - (j + 1) < ms.length - j; omega) hP hD hS (lv_sub hl [2, 3, 1, 0] rfl)
  · change Met _ _ _ _ (va_Pc [.ref b21, .int (nI ms.length)] _) _ _ _ _
    refine Met.ofW (cc := b_JsonReader_row) (maxL := 5) (ret := (some (.array (.object "QueryBench$Value")))) (by decide) rfl ?_
    intro p e s m args below meth c s₁ B hml hv
    obtain ⟨rfl, ⟨hsz, hP, hK, hD0⟩, hN, hZ, hC, hV⟩ := hv
    have hx := B.exec
    have hb := B.bytes
    have hr := B.returns
    have hts0 := atoms_spec (ws := k_JsonReader_row :: gtbl) B.pre
    have hts := fun w h => hts0 w (List.mem_cons_of_mem _ h)
    have hown : s.vm.findClass R_JsonReader = some m.cls := findClass_of_methodNamed B.named
    have hlocks := B.notSynchronized
    subst hsz
    have hD := hD0.self (sz := s.heap.size)
    generalize hAe : va_A ([] ++ va_pl L f) s.heap.size = A at hD hZ hC ⊢
    have hA : ∀ q : Nat, s.heap.size ≤ q → A q := fun q h => by rw [← hAe]; exact Or.inr h
    have hS : va_S A s.heap s.heap [] := va_S.rf
    have hP : va_P (dC, dI) classes ([] ++ va_pl L f) s.heap := hP
    have hl := lv_entry ([.ref b21, .int (nI ms.length)]) (n := 5) (Nat.le_of_ble_eq_true rfl)
    rw [lg_entry_eq]
    generalize (lg_sl ([.ref b21, .int (nI ms.length)]) ++ List.replicate (5 - (lg_sl ([.ref b21, .int (nI ms.length)])).length) Slot.unset).toArray = ls at hl ⊢
    have hl : lv_has ls 5 [(0, .ref b21), (1, .int (nI ms.length))] := hl
    refine lv_iload_n hx hb d_JsonReader_row_0 rfl (lv_at hl 1 rfl) ?_
    refine va_newq (N' := ms.length) hx hb hown (hts _ z_306) hV hK hP hD hS hA (nI_pos (by omega)) (nI_clamp (by omega)) (by omega) (by show 0 + 1 ≤ 1; omega) (by show 0 + ms.length ≤ ms.length; omega) d_JsonReader_row_1 (fun ra cA H hK hP hD hS => ?_)
    obtain ⟨_, _, _, _, _, e8⟩ := (hK.2 1 _ rfl).2
    obtain ⟨_, _, _, _, _, e9⟩ := (hK.2 2 _ rfl).2
    obtain rfl : cV = cA := Option.some.inj (e8.symm.trans e9)
    have hK := hK.sub (tys' := [(cI, .int), (cV, .object "QueryBench$Value")]) [0, 1] rfl
    have hP := hP.swap
    have hD := hD.swap
    have hP : va_P (dC, dI) classes ([(ra, .inl (cV, ms.length, .inr (.inr (.inr (.inr (fun _ => none))))))] ++ va_pl L f) H := hP
    have hD : va_D A ([(ra, .inl (cV, ms.length, .inr (.inr (.inr (.inr (fun _ => none))))))] ++ va_pl L f) := hD
    refine lv_astore_n (lv' := [(2, .ref ra), (0, .ref b21), (1, .int (nI ms.length))]) hx hb d_JsonReader_row_4 rfl hl (by decide) rfl (fun ls hl => ?_)
    refine lv_iconst (v := 0) hx hb d_JsonReader_row_5 (by decide) ?_
    refine lv_istore_n (lv' := [(3, .int 0), (2, .ref ra), (0, .ref b21), (1, .int (nI ms.length))]) hx hb d_JsonReader_row_6 rfl hl (by decide) rfl (fun ls hl => ?_)
    refine lv_aload_n hx hb d_JsonReader_row_7 rfl (lv_at hl 2 rfl) ?_
    refine lv_astore (lv' := [(4, .ref b21), (3, .int 0), (2, .ref ra), (0, .ref b21), (1, .int (nI ms.length))]) hx hb d_JsonReader_row_8 hl (by decide) rfl (fun ls hl => ?_)
    have hl : lv_has ls 5 [(4, va_rf (ms[0]?)), (3, .int 0), (2, .ref ra), (0, .ref b21), (1, .int (nI ms.length))] := by rw [← hfo]; exact hl
    refine w_loop (D := (dC, dI)) (cl := classes) (A := A) (H0 := s.heap) (nL := 5) 10 (σ := Nat × (Nat → Option Nat)) (fun ⟨j, g⟩ => j ≤ ms.length ∧ ∀ k, k < j → g k = ms[k]?) (fun ⟨j, g⟩ => ms.length - j) (fun ⟨j, g⟩ => [(ra, .inl (cV, ms.length, .inr (.inr (.inr (.inr g)))))] ++ va_pl L f) (fun ⟨j, g⟩ => [(1, .int (nI ms.length)), (2, .ref ra), (3, .int (nI j)), (4, va_rf (ms[j]?))]) ?_ (0, fun _ => none) ⟨Nat.zero_le _, fun k h => absurd h (Nat.not_lt_zero _)⟩ hP hD hS (lv_sub hl [4, 2, 1, 0] rfl)
    rintro ⟨j, g⟩ H locs ls hI ih hP hD hS hl
    have hP : va_P (dC, dI) classes ([(ra, .inl (cV, ms.length, .inr (.inr (.inr (.inr g)))))] ++ va_pl L f) H := hP
    have hD : va_D A ([(ra, .inl (cV, ms.length, .inr (.inr (.inr (.inr g)))))] ++ va_pl L f) := hD
    have hl : lv_has ls 5 [(1, .int (nI ms.length)), (2, .ref ra), (3, .int (nI j)), (4, va_rf (ms[j]?))] := hl
    obtain ⟨hj, hg⟩ := hI
    have hj : j ≤ ms.length := hj
    have hg : ∀ k, k < j → g k = ms[k]? := hg
    rcases hoj : ms[j]? with _ | a9
    · rw [hoj] at hl
      have hl : lv_has ls 5 [(1, .int (nI ms.length)), (2, .ref ra), (3, .int (nI j)), (4, .null)] := hl
      refine lv_aloadN hx hb d_JsonReader_row_10 (lv_at hl 3 rfl) ?_
      refine lv_ifnullN (tgt := 38) hx hb d_JsonReader_row_12 (by decide) ?_
      refine lv_aload_n hx hb d_JsonReader_row_38 rfl (lv_at hl 1 rfl) ?_
      have hjl : j = ms.length := by have := List.getElem?_eq_none_iff.mp hoj; omega
      refine w_same (fun hq => ?_)
      refine W.widen (k := 1) (n := ms.length) (by show 0 + 1 ≤ 1; omega) (by show 0 + ms.length ≤ ms.length; omega) ?_
      exact W.aret (v := .ref ra) hx hb hr (Or.inr ⟨_, rfl⟩) (Or.inr ⟨_, rfl⟩) (fun t9 ht hW => ⟨⟨(ra, g), ra, rfl, fun k hk => hg k (by rw [hjl]; exact hk), ⟨by rw [ht]; exact hP, va_K.moved hW.alike hK, hD⟩, by rw [ht]; exact ⟨hq.mono (by show 0 + 1 ≤ 1; omega) (by show 0 + ms.length ≤ ms.length; omega), rfl⟩⟩, hS.F ht⟩) hS.2.2 d_JsonReader_row_39
    · rw [hoj] at hl
      have hl : lv_has ls 5 [(1, .int (nI ms.length)), (2, .ref ra), (3, .int (nI j)), (4, .ref a9)] := hl
      have ha9 := hms j a9 hoj
      refine lv_aload hx hb d_JsonReader_row_10 (lv_at hl 3 rfl) ?_
      refine lv_ifnull hx hb d_JsonReader_row_12 ?_
      refine lv_iload_n hx hb d_JsonReader_row_15 rfl (lv_at hl 2 rfl) ?_
      refine lv_iload_n hx hb d_JsonReader_row_16 rfl (lv_at hl 0 rfl) ?_
      refine lv_icmp_ge (tgt := 38) hx hb d_JsonReader_row_17 (by decide) (fun c17 => ?_) (fun c17 => ?_)
      · exact absurd (List.getElem?_eq_some_iff.mp hoj).1 (by rw [nI_leI (by omega) (by omega)] at c17; omega)
      · have hjl : j < ms.length := by rw [nI_leI (by omega) (by omega)] at c17; omega
        refine lv_aload_n hx hb d_JsonReader_row_20 rfl (lv_at hl 1 rfl) ?_
        refine lv_iload_n hx hb d_JsonReader_row_21 rfl (lv_at hl 2 rfl) ?_
        refine lv_aload hx hb d_JsonReader_row_22 (lv_at hl 3 rfl) ?_
        obtain ⟨kd24, nu24, tx24, me24, pa24, na24, ix24, nm24, no24, sp24, ef24, hv24⟩ := hO.val ha9.2.1
        refine vq_ast hx hb hK hP hD hS 0 1 9 rfl rfl (hO.inV ha9.2.1) ef24 rfl hjl (by omega) d_JsonReader_row_24 (fun H locs hP hD hS => ?_)
        have hP : va_P (dC, dI) classes ([(ra, .inl (cV, ms.length, .inr (.inr (.inr (.inr (va_up g j (some a9)))))))] ++ va_pl L f) H := hP
        have hD : va_D A ([(ra, .inl (cV, ms.length, .inr (.inr (.inr (.inr (va_up g j (some a9)))))))] ++ va_pl L f) := hD
        refine lv_iinc (v := nI (j + 1)) (lv' := [(3, .int (nI (j + 1))), (1, .int (nI ms.length)), (2, .ref ra), (4, .ref a9)]) hx hb d_JsonReader_row_25 hl (k := 2) rfl (nI_1 _) (by decide) rfl (fun ls hl => ?_)
        refine lv_aload hx hb d_JsonReader_row_28 (lv_at hl 3 rfl) ?_
        rcases nm24 with _ | b25
        · refine vq_get (D := (dC, dI)) (ci := 9) (v := .null) (C := R_Value) (T := F_Value) (N := 10) hx hb hts in_Value hown hK hP (hO.inV ha9.2.1) ef24 rfl 7 (by decide) (hts _ z_336) (fun _ h9 => h9) rfl d_JsonReader_row_30 ?_
          refine lv_astoreN (lv' := [(4, .null), (3, .int (nI (j + 1))), (1, .int (nI ms.length)), (2, .ref ra)]) hx hb d_JsonReader_row_33 hl (by decide) rfl (fun ls hl => ?_)
          refine lv_goto (tgt := 10) hx hb d_JsonReader_row_35 (by decide) ?_
          have hnn := (nmF_v ef24).symm.trans ha9.2.2.2
          have hl : lv_has ls 5 [(4, va_rf (ms[j + 1]?)), (3, .int (nI (j + 1))), (1, .int (nI ms.length)), (2, .ref ra)] := by rw [← hnn]; exact hl
          exact ih (j + 1, va_up g j (some a9)) _ _ _ ⟨show j + 1 ≤ ms.length by omega, fun k hk => by
            by_cases e : k = j
            · subst e; rw [va_up_self]; exact hoj.symm
            · rw [va_up_ne _ _ e]; exact hg k (by have hk : k < j + 1 := hk; omega)⟩ (by show ms.length - (j + 1) < ms.length - j; omega) hP hD hS (lv_sub hl [2, 3, 1, 0] rfl)
        · refine vq_get (D := (dC, dI)) (ci := 9) (v := .ref b25) (C := R_Value) (T := F_Value) (N := 10) hx hb hts in_Value hown hK hP (hO.inV ha9.2.1) ef24 rfl 7 (by decide) (hts _ z_336) (fun _ h9 => h9) rfl d_JsonReader_row_30 ?_
          refine lv_astore (lv' := [(4, .ref b25), (3, .int (nI (j + 1))), (1, .int (nI ms.length)), (2, .ref ra)]) hx hb d_JsonReader_row_33 hl (by decide) rfl (fun ls hl => ?_)
          refine lv_goto (tgt := 10) hx hb d_JsonReader_row_35 (by decide) ?_
          have hnn := (nmF_v ef24).symm.trans ha9.2.2.2
          have hl : lv_has ls 5 [(4, va_rf (ms[j + 1]?)), (3, .int (nI (j + 1))), (1, .int (nI ms.length)), (2, .ref ra)] := by rw [← hnn]; exact hl
          exact ih (j + 1, va_up g j (some a9)) _ _ _ ⟨show j + 1 ≤ ms.length by omega, fun k hk => by
            by_cases e : k = j
            · subst e; rw [va_up_self]; exact hoj.symm
            · rw [va_up_ne _ _ e]; exact hg k (by have hk : k < j + 1 := hk; omega)⟩ (by show ms.length - (j + 1) < ms.length - j; omega) hP hD hS (lv_sub hl [2, 3, 1, 0] rfl)
abbrev b_JsonReader_newName : ByteArray := prog_3_method_8_code
def y_JsonReader_newName : MethodName := ⟨"QueryBench$JsonReader", "newName", "(LQueryBench$Value;)[I"⟩
abbrev k_JsonReader_newName : Cond := .code y_JsonReader_newName b_JsonReader_newName 5 (some (.array .int))
theorem i_JsonReader_newName : k_JsonReader_newName ∈ gtbl := gt_in 404 (by decide +kernel) (by decide +kernel)
theorem d_JsonReader_newName_0 : decode b_JsonReader_newName 0 = .ok (.aload_n 0, 1) := by decide +kernel
theorem d_JsonReader_newName_1 : decode b_JsonReader_newName 1 = .ok (.getfield 9, 3) := by decide +kernel
theorem d_JsonReader_newName_4 : decode b_JsonReader_newName 4 = .ok (.invokevirtual 42, 3) := by decide +kernel
theorem d_JsonReader_newName_7 : decode b_JsonReader_newName 7 = .ok (.aload_n 0, 1) := by decide +kernel
theorem d_JsonReader_newName_8 : decode b_JsonReader_newName 8 = .ok (.getfield 9, 3) := by decide +kernel
theorem d_JsonReader_newName_11 : decode b_JsonReader_newName 11 = .ok (.getfield 30, 3) := by decide +kernel
theorem d_JsonReader_newName_14 : decode b_JsonReader_newName 14 = .ok (.istore_n 2, 1) := by decide +kernel
theorem d_JsonReader_newName_15 : decode b_JsonReader_newName 15 = .ok (.aload_n 0, 1) := by decide +kernel
theorem d_JsonReader_newName_16 : decode b_JsonReader_newName 16 = .ok (.getfield 9, 3) := by decide +kernel
theorem d_JsonReader_newName_19 : decode b_JsonReader_newName 19 = .ok (.invokevirtual 49, 3) := by decide +kernel
theorem d_JsonReader_newName_22 : decode b_JsonReader_newName 22 = .ok (.bipush 34, 2) := by decide +kernel
theorem d_JsonReader_newName_24 : decode b_JsonReader_newName 24 = .ok (.if_icmp .eq 11, 3) := by decide +kernel
theorem d_JsonReader_newName_27 : decode b_JsonReader_newName 27 = .ok (.aload_n 0, 1) := by decide +kernel
theorem d_JsonReader_newName_28 : decode b_JsonReader_newName 28 = .ok (.getfield 9, 3) := by decide +kernel
theorem d_JsonReader_newName_31 : decode b_JsonReader_newName 31 = .ok (.iload_n 2, 1) := by decide +kernel
theorem d_JsonReader_newName_32 : decode b_JsonReader_newName 32 = .ok (.invokevirtual 38, 3) := by decide +kernel
theorem d_JsonReader_newName_35 : decode b_JsonReader_newName 35 = .ok (.aload_n 0, 1) := by decide +kernel
theorem d_JsonReader_newName_36 : decode b_JsonReader_newName 36 = .ok (.getfield 9, 3) := by decide +kernel
theorem d_JsonReader_newName_39 : decode b_JsonReader_newName 39 = .ok (.invokevirtual 62, 3) := by decide +kernel
theorem d_JsonReader_newName_42 : decode b_JsonReader_newName 42 = .ok (.astore_n 3, 1) := by decide +kernel
theorem d_JsonReader_newName_43 : decode b_JsonReader_newName 43 = .ok (.aload_n 1, 1) := by decide +kernel
theorem d_JsonReader_newName_44 : decode b_JsonReader_newName 44 = .ok (.astore 4, 2) := by decide +kernel
theorem d_JsonReader_newName_46 : decode b_JsonReader_newName 46 = .ok (.aload 4, 2) := by decide +kernel
theorem d_JsonReader_newName_48 : decode b_JsonReader_newName 48 = .ok (.ifnull 33, 3) := by decide +kernel
theorem d_JsonReader_newName_51 : decode b_JsonReader_newName 51 = .ok (.aload 4, 2) := by decide +kernel
theorem d_JsonReader_newName_53 : decode b_JsonReader_newName 53 = .ok (.getfield 126, 3) := by decide +kernel
theorem d_JsonReader_newName_56 : decode b_JsonReader_newName 56 = .ok (.aload_n 3, 1) := by decide +kernel
theorem d_JsonReader_newName_57 : decode b_JsonReader_newName 57 = .ok (.invokestatic 142, 3) := by decide +kernel
theorem d_JsonReader_newName_60 : decode b_JsonReader_newName 60 = .ok (.ifCond .eq 11, 3) := by decide +kernel
theorem d_JsonReader_newName_63 : decode b_JsonReader_newName 63 = .ok (.aload_n 0, 1) := by decide +kernel
theorem d_JsonReader_newName_64 : decode b_JsonReader_newName 64 = .ok (.getfield 9, 3) := by decide +kernel
theorem d_JsonReader_newName_67 : decode b_JsonReader_newName 67 = .ok (.iload_n 2, 1) := by decide +kernel
theorem d_JsonReader_newName_68 : decode b_JsonReader_newName 68 = .ok (.invokevirtual 38, 3) := by decide +kernel
theorem d_JsonReader_newName_71 : decode b_JsonReader_newName 71 = .ok (.aload 4, 2) := by decide +kernel
theorem d_JsonReader_newName_73 : decode b_JsonReader_newName 73 = .ok (.getfield 132, 3) := by decide +kernel
theorem d_JsonReader_newName_76 : decode b_JsonReader_newName 76 = .ok (.astore 4, 2) := by decide +kernel
theorem d_JsonReader_newName_78 : decode b_JsonReader_newName 78 = .ok (.goto (-32), 3) := by decide +kernel
theorem d_JsonReader_newName_81 : decode b_JsonReader_newName 81 = .ok (.aload_n 0, 1) := by decide +kernel
theorem d_JsonReader_newName_82 : decode b_JsonReader_newName 82 = .ok (.getfield 9, 3) := by decide +kernel
theorem d_JsonReader_newName_85 : decode b_JsonReader_newName 85 = .ok (.invokevirtual 42, 3) := by decide +kernel
theorem d_JsonReader_newName_88 : decode b_JsonReader_newName 88 = .ok (.aload_n 0, 1) := by decide +kernel
theorem d_JsonReader_newName_89 : decode b_JsonReader_newName 89 = .ok (.getfield 9, 3) := by decide +kernel
theorem d_JsonReader_newName_92 : decode b_JsonReader_newName 92 = .ok (.bipush 58, 2) := by decide +kernel
theorem d_JsonReader_newName_94 : decode b_JsonReader_newName 94 = .ok (.invokevirtual 116, 3) := by decide +kernel
theorem d_JsonReader_newName_97 : decode b_JsonReader_newName 97 = .ok (.aload_n 3, 1) := by decide +kernel
theorem d_JsonReader_newName_98 : decode b_JsonReader_newName 98 = .ok (.areturn, 1) := by decide +kernel
theorem va_pl_off {L : List Nat} {f : Nat → va_E} {q : Nat} {e : va_E} (h : q ∉ L) : va_pl L (va_up f q e) = va_pl L f := by
  unfold va_pl
  apply List.map_congr_left
  intro b hb
  rw [va_up_ne _ _ (show b ≠ q from fun e9 => h (e9 ▸ hb))]
set_option maxHeartbeats 4000000 in
set_option maxRecDepth 100000 in
/-- JsonReader.newName -/
theorem c_JsonReader_newName (l : Launch) (hl9 : l.stackTraces = false) (K : Nat → Nat × Nat) (dC : Nat → ClassId) (dI : Nat → Nat → Nat) (sz : Heap) (cI cV : ClassId) (E lv : Nat → Nat) (L : List Nat) (f : Nat → va_E) (hO : PO cI cV E lv L f) (cB : ClassId) (h0 qb qu : Nat) (uc ln pl : Int32) (bf ug : Nat → Int32) (n i : Nat) (hn0 : n ≤ 4096) (hin : i ≤ n) (jr : Nat) (dp md : Int32) (la fo : Option Nat) (ms : List Nat) (hfo : fo = ms[0]?) (hms : CHM E f (fun a => E a = 3) ms) (nms : List (List Int32)) (hnm : NMs f ms nms) : vx_Met l y_JsonReader_newName (k_JsonReader_newName :: gtbl) ({ frames := 11, cells := 2, slots := 12 + (n - i), locals := 200 }) (va_Pc [.ref jr, va_rf fo] (ml K dC dI ([(jr, .inr (1, [.ref h0, .int dp, .int md, va_rf la])), (h0, .inr (8, [.ref qb, .ref qu, .int uc, .int ln, .int (nI n), .int (nI i), .int pl])), (qb, .inl (cB, 4096, .inl bf)), (qu, .inl (cI, 4096, .inl ug))] ++ va_pl L f) [(cB, .byte), (cI, .int), (cV, .object "QueryBench$Value")] sz)) (va_Qr (fun (u : Nat × Nat × Int32 × (Nat → Int32) × (Nat → Nat) × (Nat → va_E)) => i + 2 ≤ u.2.1 ∧ u.2.1 ≤ n ∧ PO cI cV u.2.2.2.2.1 lv (L ++ [u.1]) u.2.2.2.2.2 ∧ E u.1 = 0 ∧ EX E u.2.2.2.2.1 ∧ u.2.2.2.2.1 u.1 = 4 ∧ (∀ a, E a ≠ 0 → u.2.2.2.2.2 a = f a) ∧ (∀ a, E a = 0 → u.2.2.2.2.1 a ≠ 1) ∧ jNam bf n nms i = some (txL u.2.2.2.2.2 u.1, u.2.1)) (fun u a9 t9 => mz dC dI ([(jr, .inr (1, [.ref h0, .int dp, .int md, va_rf la])), (h0, .inr (8, [.ref qb, .ref qu, .int u.2.2.1, .int ln, .int (nI n), .int (nI u.2.1), .int pl])), (qb, .inl (cB, 4096, .inl bf)), (qu, .inl (cI, 4096, .inl u.2.2.2.1))] ++ va_pl ((L ++ [u.1])) u.2.2.2.2.2) [(cB, .byte), (cI, .int), (cV, .object "QueryBench$Value")] (va_A ([(jr, .inr (1, [.ref h0, .int dp, .int md, va_rf la])), (h0, .inr (8, [.ref qb, .ref qu, .int uc, .int ln, .int (nI n), .int (nI i), .int pl])), (qb, .inl (cB, 4096, .inl bf)), (qu, .inl (cI, 4096, .inl ug))] ++ va_pl L f) sz.size) t9 ∧ szk sz t9.heap (1) (u.2.1 - i) ∧ a9 = u.1) (va_A ([(jr, .inr (1, [.ref h0, .int dp, .int md, va_rf la])), (h0, .inr (8, [.ref qb, .ref qu, .int uc, .int ln, .int (nI n), .int (nI i), .int pl])), (qb, .inl (cB, 4096, .inl bf)), (qu, .inl (cI, 4096, .inl ug))] ++ va_pl L f) sz.size)) (vx_X (fun (u : Int32 × Int32 × Int32 × (Nat → Int32)) => jNam bf n nms i = none) (fun En u t9 => En = UOX ∧ mz dC dI ([(jr, .inr (1, [.ref h0, .int dp, .int md, va_rf la])), (h0, .inr (8, [.ref qb, .ref qu, .int u.2.1, .int ln, .int (nI n), .int u.1, .int u.2.2.1])), (qb, .inl (cB, 4096, .inl bf)), (qu, .inl (cI, 4096, .inl u.2.2.2))] ++ va_pl L f) [(cB, .byte), (cI, .int), (cV, .object "QueryBench$Value")] (va_A ([(jr, .inr (1, [.ref h0, .int dp, .int md, va_rf la])), (h0, .inr (8, [.ref qb, .ref qu, .int uc, .int ln, .int (nI n), .int (nI i), .int pl])), (qb, .inl (cB, 4096, .inl bf)), (qu, .inl (cI, 4096, .inl ug))] ++ va_pl L f) sz.size) t9) (va_A ([(jr, .inr (1, [.ref h0, .int dp, .int md, va_rf la])), (h0, .inr (8, [.ref qb, .ref qu, .int uc, .int ln, .int (nI n), .int (nI i), .int pl])), (qb, .inl (cB, 4096, .inl bf)), (qu, .inl (cI, 4096, .inl ug))] ++ va_pl L f) sz.size)) (2) (12 + (n - i)) (va_A ([(jr, .inr (1, [.ref h0, .int dp, .int md, va_rf la])), (h0, .inr (8, [.ref qb, .ref qu, .int uc, .int ln, .int (nI n), .int (nI i), .int pl])), (qb, .inl (cB, 4096, .inl bf)), (qu, .inl (cI, 4096, .inl ug))] ++ va_pl L f) sz.size) := by
  rcases fo with _ | b21
  · change vx_Met _ _ _ _ (va_Pc [.ref jr, .null] _) _ _ _ _ _
    refine vx_ofW (cc := b_JsonReader_newName) (maxL := 5) (ret := (some (.array .int))) (by decide) rfl ?_
    intro p e s m args below meth c s₁ B hml hex hv
    obtain ⟨rfl, ⟨hsz, hP, hK, hD0⟩, hN, hZ, hC, hV⟩ := hv
    have hx := B.exec
    have hb := B.bytes
    have hr := B.returns
    have hts0 := atoms_spec (ws := k_JsonReader_newName :: gtbl) B.pre
    have hts := fun w h => hts0 w (List.mem_cons_of_mem _ h)
    have hown : s.vm.findClass R_JsonReader = some m.cls := findClass_of_methodNamed B.named
    have hlocks := B.notSynchronized
    subst hsz
    have hD := hD0.self (sz := s.heap.size)
    generalize hAe : va_A ([(jr, .inr (1, [.ref h0, .int dp, .int md, va_rf la])), (h0, .inr (8, [.ref qb, .ref qu, .int uc, .int ln, .int (nI n), .int (nI i), .int pl])), (qb, .inl (cB, 4096, .inl bf)), (qu, .inl (cI, 4096, .inl ug))] ++ va_pl L f) s.heap.size = A at hD hZ hC ⊢
    have hA : ∀ q : Nat, s.heap.size ≤ q → A q := fun q h => by rw [← hAe]; exact Or.inr h
    have hS : va_S A s.heap s.heap [] := va_S.rf
    have hP : va_P (dC, dI) classes ([(jr, .inr (1, [.ref h0, .int dp, .int md, va_rf la])), (h0, .inr (8, [.ref qb, .ref qu, .int uc, .int ln, .int (nI n), .int (nI i), .int pl])), (qb, .inl (cB, 4096, .inl bf)), (qu, .inl (cI, 4096, .inl ug))] ++ va_pl L f) s.heap := hP
    have hl := lv_entry ([.ref jr, .null]) (n := 5) (Nat.le_of_ble_eq_true rfl)
    rw [lg_entry_eq]
    generalize (lg_sl ([.ref jr, .null]) ++ List.replicate (5 - (lg_sl ([.ref jr, .null])).length) Slot.unset).toArray = ls at hl ⊢
    have hl : lv_has ls 5 [(0, .ref jr), (1, .null)] := hl
    refine lv_aload_n hx hb d_JsonReader_newName_0 rfl (lv_at hl 0 rfl) ?_
    refine va_get (D := (dC, dI)) (ci := 1) (v := .ref h0) (C := R_JsonReader) (T := F_JsonReader) (N := 4) hx hb hts in_JsonReader hown hK hP 0 rfl rfl 0 (by decide) (hts _ w_80) (fun _ h9 => h9) rfl d_JsonReader_newName_1 ?_
    have hPc := hP.sub (ws' := [(h0, .inr (8, [.ref qb, .ref qu, .int uc, .int ln, .int (nI n), .int (nI i), .int pl])), (qb, .inl (cB, 4096, .inl bf))]) [1, 2] rfl
    have hDc := hD.sub (ws' := [(h0, .inr (8, [.ref qb, .ref qu, .int uc, .int ln, .int (nI n), .int (nI i), .int pl])), (qb, .inl (cB, 4096, .inl bf))]) [1, 2] (by decide) rfl
    have hFc := va_free (wc := [(h0, .inr (8, [.ref qb, .ref qu, .int uc, .int ln, .int (nI n), .int (nI i), .int pl])), (qb, .inl (cB, 4096, .inl bf))]) hD hS hA [1, 2] rfl
    have hKc := hK.sub (tys' := [(cB, .byte)]) [0] rfl
    refine va_callv (va_runV (As := []) (rest := []) ⟨hx, hb, hml, hown, hts⟩ (c_Tape_skipBlanks l dC dI cB h0 qb s.heap (.ref qu) uc ln pl bf n i hn0 (by omega)) (cwV 0 hts (gt_V (own := R_JsonReader) (C := R_Tape) (i := 42) (y := y_Tape_skipBlanks) i_Tape_skipBlanks z_298 z_299 z_300 w_2) rfl rfl rfl (by decide +kernel) ⟨Nat.le_of_ble_eq_true rfl, Nat.le_of_ble_eq_true rfl⟩) ⟨mp_blind, va_recv hK hP (ci := 8) (q0 := 1) rfl rfl, fun U hU hW => ⟨rfl, hU, by rw [hU]; exact hPc, va_K.moved hW.alike hKc, hDc.weaken (fun _ _ _ _ => trivial)⟩⟩ rfl rfl hl.1 rfl (lv_room (Nat.le_of_ble_eq_true rfl)) d_JsonReader_newName_4 ⟨by show 0 + 0 ≤ 2; omega, by show 0 + 0 ≤ 12 + (n - i); omega⟩) hS (fun q _ h => hFc q h) hFc (fun _u t9 H1 locs ht hvm hw hB hz1 hk1 hS => ?_)
    obtain ⟨hP1, hK1, hD1⟩ := hB
    rw [ht] at hP1
    obtain ⟨hP, hD⟩ := va_joinQ (wr := [(jr, .inr (1, [.ref h0, .int dp, .int md, va_rf la])), (qu, .inl (cI, 4096, .inl ug))]) (w1 := [(h0, .inr (8, [.ref qb, .ref qu, .int uc, .int ln, .int (nI n), .int (nI (skipB bf n i)), .int pl])), (qb, .inl (cB, 4096, .inl bf))]) hP hD [1, 2] [0, 3] rfl rfl (by decide) (by decide) hk1 hFc hP1 hD1
    generalize H1 = H at hP hS ⊢
    have hP : va_P (dC, dI) classes ([(jr, .inr (1, [.ref h0, .int dp, .int md, va_rf la])), (qu, .inl (cI, 4096, .inl ug)), (h0, .inr (8, [.ref qb, .ref qu, .int uc, .int ln, .int (nI n), .int (nI (skipB bf n i)), .int pl])), (qb, .inl (cB, 4096, .inl bf))] ++ va_pl L f) H := hP
    have hD : va_D A ([(jr, .inr (1, [.ref h0, .int dp, .int md, va_rf la])), (qu, .inl (cI, 4096, .inl ug)), (h0, .inr (8, [.ref qb, .ref qu, .int uc, .int ln, .int (nI n), .int (nI (skipB bf n i)), .int pl])), (qb, .inl (cB, 4096, .inl bf))] ++ va_pl L f) := hD
    have hP := hP.part (cx := [(jr, .inr (1, [.ref h0, .int dp, .int md, va_rf la])), (h0, .inr (8, [.ref qb, .ref qu, .int uc, .int ln, .int (nI n), .int (nI (skipB bf n i)), .int pl])), (qb, .inl (cB, 4096, .inl bf)), (qu, .inl (cI, 4096, .inl ug))]) [0, 2, 3, 1] rfl
    have hD := hD.part (cx := [(jr, .inr (1, [.ref h0, .int dp, .int md, va_rf la])), (h0, .inr (8, [.ref qb, .ref qu, .int uc, .int ln, .int (nI n), .int (nI (skipB bf n i)), .int pl])), (qb, .inl (cB, 4096, .inl bf)), (qu, .inl (cI, 4096, .inl ug))]) [0, 2, 3, 1] (by decide) rfl
    obtain ⟨p22, h_p22⟩ : ∃ z, z = skipB bf n i := ⟨_, rfl⟩
    have hb_p22 := skip_b (f := bf) (show i ≤ n by omega)
    rw [← h_p22] at hP hD hb_p22
    have hP : va_P (dC, dI) classes ([(jr, .inr (1, [.ref h0, .int dp, .int md, va_rf la])), (h0, .inr (8, [.ref qb, .ref qu, .int uc, .int ln, .int (nI n), .int (nI p22), .int pl])), (qb, .inl (cB, 4096, .inl bf)), (qu, .inl (cI, 4096, .inl ug))] ++ va_pl L f) H := hP
    have hD : va_D A ([(jr, .inr (1, [.ref h0, .int dp, .int md, va_rf la])), (h0, .inr (8, [.ref qb, .ref qu, .int uc, .int ln, .int (nI n), .int (nI p22), .int pl])), (qb, .inl (cB, 4096, .inl bf)), (qu, .inl (cI, 4096, .inl ug))] ++ va_pl L f) := hD
    refine lv_aload_n hx hb d_JsonReader_newName_7 rfl (lv_at hl 0 rfl) ?_
    refine va_get (D := (dC, dI)) (ci := 1) (v := .ref h0) (C := R_JsonReader) (T := F_JsonReader) (N := 4) hx hb hts in_JsonReader hown hK hP 0 rfl rfl 0 (by decide) (hts _ w_80) (fun _ h9 => h9) rfl d_JsonReader_newName_8 ?_
    refine va_get (D := (dC, dI)) (ci := 8) (v := .int (nI p22)) (C := R_Tape) (T := F_Tape) (N := 7) hx hb hts in_Tape hown hK hP 1 rfl rfl 5 (by decide) (hts _ z_52) (fun _ h9 => h9) rfl d_JsonReader_newName_11 ?_
    refine lv_istore_n (lv' := [(2, .int (nI p22)), (0, .ref jr), (1, .null)]) hx hb d_JsonReader_newName_14 rfl hl (by decide) rfl (fun ls hl => ?_)
    refine lv_aload_n hx hb d_JsonReader_newName_15 rfl (lv_at hl 1 rfl) ?_
    refine va_get (D := (dC, dI)) (ci := 1) (v := .ref h0) (C := R_JsonReader) (T := F_JsonReader) (N := 4) hx hb hts in_JsonReader hown hK hP 0 rfl rfl 0 (by decide) (hts _ w_80) (fun _ h9 => h9) rfl d_JsonReader_newName_16 ?_
    have hPc := hP.sub (ws' := [(h0, .inr (8, [.ref qb, .ref qu, .int uc, .int ln, .int (nI n), .int (nI p22), .int pl])), (qb, .inl (cB, 4096, .inl bf))]) [1, 2] rfl
    have hDc := hD.sub (ws' := [(h0, .inr (8, [.ref qb, .ref qu, .int uc, .int ln, .int (nI n), .int (nI p22), .int pl])), (qb, .inl (cB, 4096, .inl bf))]) [1, 2] (by decide) rfl
    have hFc := va_free (wc := [(h0, .inr (8, [.ref qb, .ref qu, .int uc, .int ln, .int (nI n), .int (nI p22), .int pl])), (qb, .inl (cB, 4096, .inl bf))]) hD hS hA [1, 2] rfl
    have hKc := hK.sub (tys' := [(cB, .byte)]) [0] rfl
    refine va_calli (va_runV (As := []) (rest := []) ⟨hx, hb, hml, hown, hts⟩ (c_Tape_here l dC dI cB h0 qb H (.ref qu) uc ln pl bf n p22 hn0 (by omega)) (cwV 0 hts (gt_V (own := R_JsonReader) (C := R_Tape) (i := 49) (y := y_Tape_here) i_Tape_here z_362 w_363 w_364 w_2) rfl rfl rfl (by decide +kernel) ⟨Nat.le_of_ble_eq_true rfl, Nat.le_of_ble_eq_true rfl⟩) ⟨mp_blind, va_recv hK hP (ci := 8) (q0 := 1) rfl rfl, fun U hU hW => ⟨rfl, hU, by rw [hU]; exact hPc, va_K.moved hW.alike hKc, hDc.weaken (fun _ _ _ _ => trivial)⟩⟩ rfl rfl hl.1 rfl (lv_room (Nat.le_of_ble_eq_true rfl)) d_JsonReader_newName_19 ⟨by show 0 + 0 ≤ 2; omega, by show 0 + 0 ≤ 12 + (n - i); omega⟩) hS (fun q _ h => hFc q h) hFc (fun h23 _u t9 H1 locs ht hvm hw hB hz1 hk1 hS => ?_)
    obtain ⟨hP1, hK1, hD1⟩ := hB
    rw [ht] at hP1
    obtain ⟨hP, hD⟩ := va_joinQ (wr := [(jr, .inr (1, [.ref h0, .int dp, .int md, va_rf la])), (qu, .inl (cI, 4096, .inl ug))]) (w1 := [(h0, .inr (8, [.ref qb, .ref qu, .int uc, .int ln, .int (nI n), .int (nI p22), .int pl])), (qb, .inl (cB, 4096, .inl bf))]) hP hD [1, 2] [0, 3] rfl rfl (by decide) (by decide) hk1 hFc hP1 hD1
    generalize H1 = H at hP hS ⊢
    have hP : va_P (dC, dI) classes ([(jr, .inr (1, [.ref h0, .int dp, .int md, va_rf la])), (qu, .inl (cI, 4096, .inl ug)), (h0, .inr (8, [.ref qb, .ref qu, .int uc, .int ln, .int (nI n), .int (nI p22), .int pl])), (qb, .inl (cB, 4096, .inl bf))] ++ va_pl L f) H := hP
    have hD : va_D A ([(jr, .inr (1, [.ref h0, .int dp, .int md, va_rf la])), (qu, .inl (cI, 4096, .inl ug)), (h0, .inr (8, [.ref qb, .ref qu, .int uc, .int ln, .int (nI n), .int (nI p22), .int pl])), (qb, .inl (cB, 4096, .inl bf))] ++ va_pl L f) := hD
    have hP := hP.part (cx := [(jr, .inr (1, [.ref h0, .int dp, .int md, va_rf la])), (h0, .inr (8, [.ref qb, .ref qu, .int uc, .int ln, .int (nI n), .int (nI p22), .int pl])), (qb, .inl (cB, 4096, .inl bf)), (qu, .inl (cI, 4096, .inl ug))]) [0, 2, 3, 1] rfl
    have hD := hD.part (cx := [(jr, .inr (1, [.ref h0, .int dp, .int md, va_rf la])), (h0, .inr (8, [.ref qb, .ref qu, .int uc, .int ln, .int (nI n), .int (nI p22), .int pl])), (qb, .inl (cB, 4096, .inl bf)), (qu, .inl (cI, 4096, .inl ug))]) [0, 2, 3, 1] (by decide) rfl
    have h_h23 : h23 = hereV bf n p22 := hw
    refine lv_bipush (v := 34) hx hb d_JsonReader_newName_22 (by decide) ?_
    refine lv_icmp_eq (tgt := 35) hx hb d_JsonReader_newName_24 (by decide) (fun c24 => ?_) (fun c24 => ?_)
    · refine lv_aload_n hx hb d_JsonReader_newName_35 rfl (lv_at hl 1 rfl) ?_
      refine va_get (D := (dC, dI)) (ci := 1) (v := .ref h0) (C := R_JsonReader) (T := F_JsonReader) (N := 4) hx hb hts in_JsonReader hown hK hP 0 rfl rfl 0 (by decide) (hts _ w_80) (fun _ h9 => h9) rfl d_JsonReader_newName_36 ?_
      have h34 : hereV bf n (skipB bf n i) = 34 := by rw [← h_p22, ← h_h23]; exact c24
      have hlt := here_lc ((c24.symm.trans h_h23)).symm (by decide)
      have hPc := hP.sub (ws' := [(h0, .inr (8, [.ref qb, .ref qu, .int uc, .int ln, .int (nI n), .int (nI p22), .int pl])), (qb, .inl (cB, 4096, .inl bf)), (qu, .inl (cI, 4096, .inl ug))]) [1, 2, 3] rfl
      have hDc := hD.sub (ws' := [(h0, .inr (8, [.ref qb, .ref qu, .int uc, .int ln, .int (nI n), .int (nI p22), .int pl])), (qb, .inl (cB, 4096, .inl bf)), (qu, .inl (cI, 4096, .inl ug))]) [1, 2, 3] (by decide) rfl
      have hFc := va_free (wc := [(h0, .inr (8, [.ref qb, .ref qu, .int uc, .int ln, .int (nI n), .int (nI p22), .int pl])), (qb, .inl (cB, 4096, .inl bf)), (qu, .inl (cI, 4096, .inl ug))]) hD hS hA [1, 2, 3] rfl
      have hKc := hK.sub (tys' := [(cB, .byte), (cI, .int)]) [0, 1] rfl
      refine w_same (fun hq0 => ?_)
      refine vx_callr (vx_runV (As := []) (rest := []) ⟨hx, hb, hml, hown, hts⟩ (c_Tape_quoted l hl9 dC dI cB cI h0 qb qu H uc ln pl bf ug n p22 hn0 hlt) (cwV 0 hts (gt_V (own := R_JsonReader) (C := R_Tape) (i := 62) (y := y_Tape_quoted) i_Tape_quoted z_405 z_406 z_407 w_2) rfl rfl rfl (by decide +kernel) ⟨Nat.le_of_ble_eq_true rfl, Nat.le_of_ble_eq_true rfl⟩) ⟨mx_blind, va_recv hK hP (ci := 8) (q0 := 1) rfl rfl, fun U hU hW => ⟨rfl, ⟨hU, by rw [hU]; exact hPc, va_K.moved hW.alike hKc, hDc.weaken (fun _ _ _ _ => trivial)⟩, hN.warm hW, by rw [hU]; exact ZX.moved' hW.alike (ZX.narrow' (ZX.kept' hZ hS.2.1) hFc)⟩⟩ rfl rfl hl.1 rfl (lv_room (Nat.le_of_ble_eq_true rfl)) d_JsonReader_newName_39 ⟨by show 0 + 1 ≤ 2; omega, by show 0 + (6 + qtN bf n p22) ≤ 12 + (n - i); have := qtN_le (f := bf) hlt; omega⟩) hS (fun q _ h => hFc q h) hFc (fun q _ h => hFc q h) (fun En ce q9 ⟨ax, cx, px, gx⟩ t9 H1 locs ht hvm hw hB hz1 hk1 hS hce hcv hcl => ?_) (fun ⟨j24, L24⟩ qn24 t9 H1 locs ht hvm hw hB hz1 hk1 hS => ?_)
      · obtain ⟨hEn, hP1, hK1, hD1⟩ := hB
        rw [ht] at hP1
        obtain ⟨hP, hD⟩ := va_joinQ (wr := [(jr, .inr (1, [.ref h0, .int dp, .int md, va_rf la]))]) (w1 := [(h0, .inr (8, [.ref qb, .ref qu, .int cx, .int ln, .int (nI n), .int ax, .int px])), (qb, .inl (cB, 4096, .inl bf)), (qu, .inl (cI, 4096, .inl gx))]) hP hD [1, 2, 3] [0] rfl rfl (by decide) (by decide) hk1 hFc hP1 hD1
        generalize H1 = H at hP hS hce ⊢
        have hP : va_P (dC, dI) classes ([(jr, .inr (1, [.ref h0, .int dp, .int md, va_rf la])), (h0, .inr (8, [.ref qb, .ref qu, .int cx, .int ln, .int (nI n), .int ax, .int px])), (qb, .inl (cB, 4096, .inl bf)), (qu, .inl (cI, 4096, .inl gx))] ++ va_pl L f) H := hP
        have hD : va_D A ([(jr, .inr (1, [.ref h0, .int dp, .int md, va_rf la])), (h0, .inr (8, [.ref qb, .ref qu, .int cx, .int ln, .int (nI n), .int ax, .int px])), (qb, .inl (cB, 4096, .inl bf)), (qu, .inl (cI, 4096, .inl gx))] ++ va_pl L f) := hD
        have hqn := qtN_le (f := bf) (n := n) (i := p22) hlt
        have hno : jNam bf n nms i = none := jNam_2 h34 (by rw [← h_p22]; exact hw)
        exact vx_out (fun x hx => (hex x hx).elim) hlocks hce hcv hcl (fun t9 ht2 ha => ⟨(ax, cx, px, gx), hno, ⟨hEn, by rw [ht2]; exact hP, va_K.moved ha hK, hD⟩, hS.F ht2⟩) hS.2.2 (by show 0 + 1 ≤ 2; omega) (by show 0 + (6 + qtN bf n p22) ≤ 12 + (n - i); omega)
      · obtain ⟨⟨hP1, hK1, hD1⟩, hz9⟩ := hB
        rw [ht] at hP1
        rw [ht] at hz9
        have hq0 : szk s.heap H1 (0 + 1) (0 + L24.length) := (hq0.trans hz9).mono (Nat.le_refl _) (Nat.le_refl _)
        refine w_tight hq0 ?_
        obtain ⟨hP, hD⟩ := va_joinQ (wr := [(jr, .inr (1, [.ref h0, .int dp, .int md, va_rf la]))]) (w1 := [(h0, .inr (8, [.ref qb, .ref qu, .int (nI L24.length), .int ln, .int (nI n), .int (nI (j24 + 1)), .int pl])), (qb, .inl (cB, 4096, .inl bf)), (qu, .inl (cI, 4096, .inl ((wrL ug 0 L24)))), (qn24, .inl (cI, L24.length, .inl (va_cpy (wrL ug 0 L24) (fun _ => 0) 0 0 L24.length)))]) hP hD [1, 2, 3] [0] rfl rfl (by decide) (by decide) hk1 hFc hP1 hD1
        generalize H1 = H at hP hS hq0 ⊢
        have hP : va_P (dC, dI) classes ([(jr, .inr (1, [.ref h0, .int dp, .int md, va_rf la])), (h0, .inr (8, [.ref qb, .ref qu, .int (nI L24.length), .int ln, .int (nI n), .int (nI (j24 + 1)), .int pl])), (qb, .inl (cB, 4096, .inl bf)), (qu, .inl (cI, 4096, .inl ((wrL ug 0 L24)))), (qn24, .inl (cI, L24.length, .inl (va_cpy (wrL ug 0 L24) (fun _ => 0) 0 0 L24.length)))] ++ va_pl L f) H := hP
        have hD : va_D A ([(jr, .inr (1, [.ref h0, .int dp, .int md, va_rf la])), (h0, .inr (8, [.ref qb, .ref qu, .int (nI L24.length), .int ln, .int (nI n), .int (nI (j24 + 1)), .int pl])), (qb, .inl (cB, 4096, .inl bf)), (qu, .inl (cI, 4096, .inl ((wrL ug 0 L24)))), (qn24, .inl (cI, L24.length, .inl (va_cpy (wrL ug 0 L24) (fun _ => 0) 0 0 L24.length)))] ++ va_pl L f) := hD
        have hb24 := qtR_b hlt (show qtR bf n p22 = some (j24, L24) from hw)
        obtain ⟨ha24, he24⟩ := hb24
        have hqt : qtR bf n (skipB bf n i) = some (j24, L24) := by rw [← h_p22]; exact hw
        have hqz : E qn24 = 0 := Classical.byContradiction (fun h => plD_new (X := [(jr, .inr (1, [.ref h0, .int dp, .int md, va_rf la])), (h0, .inr (8, [.ref qb, .ref qu, .int (nI L24.length), .int ln, .int (nI n), .int (nI (j24 + 1)), .int pl])), (qb, .inl (cB, 4096, .inl bf)), (qu, .inl (cI, 4096, .inl ((wrL ug 0 L24))))]) hD (hO.inL h))
        have hnL := plD_new (X := [(jr, .inr (1, [.ref h0, .int dp, .int md, va_rf la])), (h0, .inr (8, [.ref qb, .ref qu, .int (nI L24.length), .int ln, .int (nI n), .int (nI (j24 + 1)), .int pl])), (qb, .inl (cB, 4096, .inl bf)), (qu, .inl (cI, 4096, .inl ((wrL ug 0 L24))))]) hD
        have hP := plP_push (X := [(jr, .inr (1, [.ref h0, .int dp, .int md, va_rf la])), (h0, .inr (8, [.ref qb, .ref qu, .int (nI L24.length), .int ln, .int (nI n), .int (nI (j24 + 1)), .int pl])), (qb, .inl (cB, 4096, .inl bf)), (qu, .inl (cI, 4096, .inl ((wrL ug 0 L24))))]) hP hnL
        have hD := plD_push (X := [(jr, .inr (1, [.ref h0, .int dp, .int md, va_rf la])), (h0, .inr (8, [.ref qb, .ref qu, .int (nI L24.length), .int ln, .int (nI n), .int (nI (j24 + 1)), .int pl])), (qb, .inl (cB, 4096, .inl bf)), (qu, .inl (cI, 4096, .inl ((wrL ug 0 L24))))]) hD hnL
        have hO1 := hO.addT (g := va_cpy (wrL ug 0 L24) (fun _ => 0) 0 0 L24.length) hqz (show L24.length ≤ 4096 by omega)
        obtain ⟨E1, hE1⟩ : ∃ z, z = va_up E qn24 4 := ⟨_, rfl⟩
        obtain ⟨f1, hf1⟩ : ∃ z, z = va_up f qn24 (tE cI L24.length (va_cpy (wrL ug 0 L24) (fun _ => 0) 0 0 L24.length)) := ⟨_, rfl⟩
        rw [← hE1, ← hf1] at hO1
        have hP : va_P (dC, dI) classes ([(jr, .inr (1, [.ref h0, .int dp, .int md, va_rf la])), (h0, .inr (8, [.ref qb, .ref qu, .int (nI L24.length), .int ln, .int (nI n), .int (nI (j24 + 1)), .int pl])), (qb, .inl (cB, 4096, .inl bf)), (qu, .inl (cI, 4096, .inl ((wrL ug 0 L24))))] ++ va_pl ((L ++ [qn24])) f1) H := by rw [hf1]; exact hP
        have hD : va_D A ([(jr, .inr (1, [.ref h0, .int dp, .int md, va_rf la])), (h0, .inr (8, [.ref qb, .ref qu, .int (nI L24.length), .int ln, .int (nI n), .int (nI (j24 + 1)), .int pl])), (qb, .inl (cB, 4096, .inl bf)), (qu, .inl (cI, 4096, .inl ((wrL ug 0 L24))))] ++ va_pl ((L ++ [qn24])) f1) := by rw [hf1]; exact hD
        have hEq : E1 qn24 = 4 := by rw [hE1]; exact va_up_self _ _ _
        have hEX : EX E E1 := by rw [hE1]; exact EX.new hqz
        have hfk : ∀ a, E a ≠ 0 → f1 a = f a := fun a ha => by rw [hf1]; exact va_up_ne _ _ (fun e => ha (e ▸ hqz))
        have hnw : ∀ a, E a = 0 → E1 a ≠ 1 := fun a ha h1 => by
          rw [hE1] at h1
          by_cases e : a = qn24
          · rw [e, va_up_self] at h1; cases h1
          · rw [va_up_ne _ _ e, ha] at h1; cases h1
        have etx : txL f1 qn24 = L24 := (txL_t (by rw [hf1]; exact va_up_self _ _ _)).trans tx_list
        have hN1 : NMs f1 ms nms := hnm.keep hO (fun j a h => (hms j a h).2.1) hfk
        refine lv_astore_n (lv' := [(3, .ref qn24), (2, .int (nI p22)), (0, .ref jr), (1, .null)]) hx hb d_JsonReader_newName_42 rfl hl (by decide) rfl (fun ls hl => ?_)
        refine lv_aload_nN hx hb d_JsonReader_newName_43 rfl (lv_at hl 3 rfl) ?_
        refine lv_astoreN (lv' := [(4, .null), (3, .ref qn24), (2, .int (nI p22)), (0, .ref jr), (1, .null)]) hx hb d_JsonReader_newName_44 hl (by decide) rfl (fun ls hl => ?_)
        have hl : lv_has ls 5 [(4, va_rf (ms[0]?)), (3, .ref qn24), (2, .int (nI p22)), (0, .ref jr), (1, .null)] := by rw [← hfo]; exact hl
        refine w_loop (D := (dC, dI)) (cl := classes) (A := A) (H0 := s.heap) (nL := 5) 46 (σ := Nat) (fun j => j ≤ ms.length ∧ ∀ k a, k < j → ms[k]? = some a → nmL f1 a ≠ some L24) (fun j => ms.length + 1 - j) (fun j => [(jr, .inr (1, [.ref h0, .int dp, .int md, va_rf la])), (h0, .inr (8, [.ref qb, .ref qu, .int (nI L24.length), .int ln, .int (nI n), .int (nI (j24 + 1)), .int pl])), (qb, .inl (cB, 4096, .inl bf)), (qu, .inl (cI, 4096, .inl ((wrL ug 0 L24))))] ++ va_pl ((L ++ [qn24])) f1) (fun j => [(0, .ref jr), (2, .int (nI p22)), (3, .ref qn24), (4, va_rf (ms[j]?))]) ?_ 0 ⟨Nat.zero_le _, fun k a h => absurd h (Nat.not_lt_zero _)⟩ hP hD hS (lv_sub hl [3, 2, 1, 0] rfl)
        rintro j H locs ls hI ih hP hD hS hl
        have hP : va_P (dC, dI) classes ([(jr, .inr (1, [.ref h0, .int dp, .int md, va_rf la])), (h0, .inr (8, [.ref qb, .ref qu, .int (nI L24.length), .int ln, .int (nI n), .int (nI (j24 + 1)), .int pl])), (qb, .inl (cB, 4096, .inl bf)), (qu, .inl (cI, 4096, .inl ((wrL ug 0 L24))))] ++ va_pl ((L ++ [qn24])) f1) H := hP
        have hD : va_D A ([(jr, .inr (1, [.ref h0, .int dp, .int md, va_rf la])), (h0, .inr (8, [.ref qb, .ref qu, .int (nI L24.length), .int ln, .int (nI n), .int (nI (j24 + 1)), .int pl])), (qb, .inl (cB, 4096, .inl bf)), (qu, .inl (cI, 4096, .inl ((wrL ug 0 L24))))] ++ va_pl ((L ++ [qn24])) f1) := hD
        have hl : lv_has ls 5 [(0, .ref jr), (2, .int (nI p22)), (3, .ref qn24), (4, va_rf (ms[j]?))] := hl
        obtain ⟨hI, hjn⟩ := hI
        have hj : j ≤ ms.length := hI
        have hjn : ∀ k a, k < j → ms[k]? = some a → nmL f1 a ≠ some L24 := hjn
        rcases hoj : ms[j]? with _ | a9
        · rw [hoj] at hl
          have hl : lv_has ls 5 [(0, .ref jr), (2, .int (nI p22)), (3, .ref qn24), (4, .null)] := hl
          have hnin : ¬ L24 ∈ nms := hN1.nn (fun k a h => hjn k a (by have h1 := (List.getElem?_eq_some_iff.mp h).1; have h2 := List.getElem?_eq_none_iff.mp hoj; omega) h)
          refine lv_aloadN hx hb d_JsonReader_newName_46 (lv_at hl 3 rfl) ?_
          refine lv_ifnullN (tgt := 81) hx hb d_JsonReader_newName_48 (by decide) ?_
          refine lv_aload_n hx hb d_JsonReader_newName_81 rfl (lv_at hl 0 rfl) ?_
          refine va_get (D := (dC, dI)) (ci := 1) (v := .ref h0) (C := R_JsonReader) (T := F_JsonReader) (N := 4) hx hb hts in_JsonReader hown hK hP 0 rfl rfl 0 (by decide) (hts _ w_80) (fun _ h9 => h9) rfl d_JsonReader_newName_82 ?_
          have hPc := hP.sub (ws' := [(h0, .inr (8, [.ref qb, .ref qu, .int (nI L24.length), .int ln, .int (nI n), .int (nI (j24 + 1)), .int pl])), (qb, .inl (cB, 4096, .inl bf))]) [1, 2] rfl
          have hDc := hD.sub (ws' := [(h0, .inr (8, [.ref qb, .ref qu, .int (nI L24.length), .int ln, .int (nI n), .int (nI (j24 + 1)), .int pl])), (qb, .inl (cB, 4096, .inl bf))]) [1, 2] (by decide) rfl
          have hFc := va_free (wc := [(h0, .inr (8, [.ref qb, .ref qu, .int (nI L24.length), .int ln, .int (nI n), .int (nI (j24 + 1)), .int pl])), (qb, .inl (cB, 4096, .inl bf))]) hD hS hA [1, 2] rfl
          have hKc := hK.sub (tys' := [(cB, .byte)]) [0] rfl
          refine va_callv (va_runV (As := []) (rest := []) ⟨hx, hb, hml, hown, hts⟩ (c_Tape_skipBlanks l dC dI cB h0 qb H (.ref qu) ((nI L24.length)) ln pl bf n ((j24 + 1)) hn0 (by omega)) (cwV 0 hts (gt_V (own := R_JsonReader) (C := R_Tape) (i := 42) (y := y_Tape_skipBlanks) i_Tape_skipBlanks z_298 z_299 z_300 w_2) rfl rfl rfl (by decide +kernel) ⟨Nat.le_of_ble_eq_true rfl, Nat.le_of_ble_eq_true rfl⟩) ⟨mp_blind, va_recv hK hP (ci := 8) (q0 := 1) rfl rfl, fun U hU hW => ⟨rfl, hU, by rw [hU]; exact hPc, va_K.moved hW.alike hKc, hDc.weaken (fun _ _ _ _ => trivial)⟩⟩ rfl rfl hl.1 rfl (lv_room (Nat.le_of_ble_eq_true rfl)) d_JsonReader_newName_85 ⟨by show (0 + 1) + 0 ≤ 2; omega, by show (0 + L24.length) + 0 ≤ 12 + (n - i); omega⟩) hS (fun q _ h => hFc q h) hFc (fun _u t9 H1 locs ht hvm hw hB hz1 hk1 hS => ?_)
          obtain ⟨hP1, hK1, hD1⟩ := hB
          rw [ht] at hP1
          obtain ⟨hP, hD⟩ := va_joinQ (wr := [(jr, .inr (1, [.ref h0, .int dp, .int md, va_rf la])), (qu, .inl (cI, 4096, .inl ((wrL ug 0 L24))))]) (w1 := [(h0, .inr (8, [.ref qb, .ref qu, .int (nI L24.length), .int ln, .int (nI n), .int (nI (skipB bf n ((j24 + 1)))), .int pl])), (qb, .inl (cB, 4096, .inl bf))]) hP hD [1, 2] [0, 3] rfl rfl (by decide) (by decide) hk1 hFc hP1 hD1
          generalize H1 = H at hP hS ⊢
          have hP : va_P (dC, dI) classes ([(jr, .inr (1, [.ref h0, .int dp, .int md, va_rf la])), (qu, .inl (cI, 4096, .inl ((wrL ug 0 L24)))), (h0, .inr (8, [.ref qb, .ref qu, .int (nI L24.length), .int ln, .int (nI n), .int (nI (skipB bf n ((j24 + 1)))), .int pl])), (qb, .inl (cB, 4096, .inl bf))] ++ va_pl ((L ++ [qn24])) f1) H := hP
          have hD : va_D A ([(jr, .inr (1, [.ref h0, .int dp, .int md, va_rf la])), (qu, .inl (cI, 4096, .inl ((wrL ug 0 L24)))), (h0, .inr (8, [.ref qb, .ref qu, .int (nI L24.length), .int ln, .int (nI n), .int (nI (skipB bf n ((j24 + 1)))), .int pl])), (qb, .inl (cB, 4096, .inl bf))] ++ va_pl ((L ++ [qn24])) f1) := hD
          have hP := hP.part (cx := [(jr, .inr (1, [.ref h0, .int dp, .int md, va_rf la])), (h0, .inr (8, [.ref qb, .ref qu, .int (nI L24.length), .int ln, .int (nI n), .int (nI (skipB bf n ((j24 + 1)))), .int pl])), (qb, .inl (cB, 4096, .inl bf)), (qu, .inl (cI, 4096, .inl ((wrL ug 0 L24))))]) [0, 2, 3, 1] rfl
          have hD := hD.part (cx := [(jr, .inr (1, [.ref h0, .int dp, .int md, va_rf la])), (h0, .inr (8, [.ref qb, .ref qu, .int (nI L24.length), .int ln, .int (nI n), .int (nI (skipB bf n ((j24 + 1)))), .int pl])), (qb, .inl (cB, 4096, .inl bf)), (qu, .inl (cI, 4096, .inl ((wrL ug 0 L24))))]) [0, 2, 3, 1] (by decide) rfl
          obtain ⟨p25, h_p25⟩ : ∃ z, z = skipB bf n ((j24 + 1)) := ⟨_, rfl⟩
          have hb_p25 := skip_b (f := bf) (show ((j24 + 1)) ≤ n by omega)
          rw [← h_p25] at hP hD hb_p25
          have hP : va_P (dC, dI) classes ([(jr, .inr (1, [.ref h0, .int dp, .int md, va_rf la])), (h0, .inr (8, [.ref qb, .ref qu, .int (nI L24.length), .int ln, .int (nI n), .int (nI p25), .int pl])), (qb, .inl (cB, 4096, .inl bf)), (qu, .inl (cI, 4096, .inl ((wrL ug 0 L24))))] ++ va_pl ((L ++ [qn24])) f1) H := hP
          have hD : va_D A ([(jr, .inr (1, [.ref h0, .int dp, .int md, va_rf la])), (h0, .inr (8, [.ref qb, .ref qu, .int (nI L24.length), .int ln, .int (nI n), .int (nI p25), .int pl])), (qb, .inl (cB, 4096, .inl bf)), (qu, .inl (cI, 4096, .inl ((wrL ug 0 L24))))] ++ va_pl ((L ++ [qn24])) f1) := hD
          refine lv_aload_n hx hb d_JsonReader_newName_88 rfl (lv_at hl 0 rfl) ?_
          refine va_get (D := (dC, dI)) (ci := 1) (v := .ref h0) (C := R_JsonReader) (T := F_JsonReader) (N := 4) hx hb hts in_JsonReader hown hK hP 0 rfl rfl 0 (by decide) (hts _ w_80) (fun _ h9 => h9) rfl d_JsonReader_newName_89 ?_
          refine lv_bipush (v := 58) hx hb d_JsonReader_newName_92 (by decide) ?_
          have hPc := hP.sub (ws' := [(h0, .inr (8, [.ref qb, .ref qu, .int (nI L24.length), .int ln, .int (nI n), .int (nI p25), .int pl])), (qb, .inl (cB, 4096, .inl bf))]) [1, 2] rfl
          have hDc := hD.sub (ws' := [(h0, .inr (8, [.ref qb, .ref qu, .int (nI L24.length), .int ln, .int (nI n), .int (nI p25), .int pl])), (qb, .inl (cB, 4096, .inl bf))]) [1, 2] (by decide) rfl
          have hFc := va_free (wc := [(h0, .inr (8, [.ref qb, .ref qu, .int (nI L24.length), .int ln, .int (nI n), .int (nI p25), .int pl])), (qb, .inl (cB, 4096, .inl bf))]) hD hS hA [1, 2] rfl
          have hKc := hK.sub (tys' := [(cB, .byte)]) [0] rfl
          refine w_same (fun hq0 => ?_)
          refine vx_callv (vx_runV (As := [.int 58]) (rest := []) ⟨hx, hb, hml, hown, hts⟩ (c_Tape_take l hl9 dC dI cB h0 qb H (.ref qu) ((nI L24.length)) ln pl bf n p25 58 hn0 (by omega)) (cwV 1 hts (gt_V (own := R_JsonReader) (C := R_Tape) (i := 116) (y := y_Tape_take) i_Tape_take z_446 w_437 w_438 w_2) rfl rfl rfl (by decide +kernel) ⟨Nat.le_of_ble_eq_true rfl, Nat.le_of_ble_eq_true rfl⟩) ⟨mx_blind, va_recv hK hP (ci := 8) (q0 := 1) rfl rfl, fun U hU hW => ⟨rfl, ⟨hU, by rw [hU]; exact hPc, va_K.moved hW.alike hKc, hDc.weaken (fun _ _ _ _ => trivial)⟩, hN.warm hW, by rw [hU]; exact ZX.moved' hW.alike (ZX.narrow' (ZX.kept' hZ hS.2.1) hFc)⟩⟩ rfl rfl hl.1 rfl (lv_room (Nat.le_of_ble_eq_true rfl)) d_JsonReader_newName_94 ⟨by show (0 + 1) + 1 ≤ 2; omega, by show (0 + L24.length) + 6 ≤ 12 + (n - i); omega⟩) hS (fun q _ h => hFc q h) hFc (fun q _ h => hFc q h) (fun En ce q9 _u t9 H1 locs ht hvm hw hB hz1 hk1 hS hce hcv hcl => ?_) (fun _u t9 H1 locs ht hvm hw hB hz1 hk1 hS => ?_)
          · obtain ⟨hEn, hP1, hK1, hD1⟩ := hB
            rw [ht] at hP1
            obtain ⟨hP, hD⟩ := va_joinQ (wr := [(jr, .inr (1, [.ref h0, .int dp, .int md, va_rf la])), (qu, .inl (cI, 4096, .inl ((wrL ug 0 L24))))]) (w1 := [(h0, .inr (8, [.ref qb, .ref qu, .int (nI L24.length), .int ln, .int (nI n), .int (nI p25), .int (nI p25)])), (qb, .inl (cB, 4096, .inl bf))]) hP hD [1, 2] [0, 3] rfl rfl (by decide) (by decide) hk1 hFc hP1 hD1
            generalize H1 = H at hP hS hce ⊢
            have hP : va_P (dC, dI) classes ([(jr, .inr (1, [.ref h0, .int dp, .int md, va_rf la])), (qu, .inl (cI, 4096, .inl ((wrL ug 0 L24)))), (h0, .inr (8, [.ref qb, .ref qu, .int (nI L24.length), .int ln, .int (nI n), .int (nI p25), .int (nI p25)])), (qb, .inl (cB, 4096, .inl bf))] ++ va_pl ((L ++ [qn24])) f1) H := hP
            have hD : va_D A ([(jr, .inr (1, [.ref h0, .int dp, .int md, va_rf la])), (qu, .inl (cI, 4096, .inl ((wrL ug 0 L24)))), (h0, .inr (8, [.ref qb, .ref qu, .int (nI L24.length), .int ln, .int (nI n), .int (nI p25), .int (nI p25)])), (qb, .inl (cB, 4096, .inl bf))] ++ va_pl ((L ++ [qn24])) f1) := hD
            have hP := hP.part (cx := [(jr, .inr (1, [.ref h0, .int dp, .int md, va_rf la])), (h0, .inr (8, [.ref qb, .ref qu, .int (nI L24.length), .int ln, .int (nI n), .int (nI p25), .int (nI p25)])), (qb, .inl (cB, 4096, .inl bf)), (qu, .inl (cI, 4096, .inl ((wrL ug 0 L24))))]) [0, 2, 3, 1] rfl
            have hD := hD.part (cx := [(jr, .inr (1, [.ref h0, .int dp, .int md, va_rf la])), (h0, .inr (8, [.ref qb, .ref qu, .int (nI L24.length), .int ln, .int (nI n), .int (nI p25), .int (nI p25)])), (qb, .inl (cB, 4096, .inl bf)), (qu, .inl (cI, 4096, .inl ((wrL ug 0 L24))))]) [0, 2, 3, 1] (by decide) rfl
            have hP := plP_pre hP
            have hD := plD_pre hD
            have hP : va_P (dC, dI) classes ([(jr, .inr (1, [.ref h0, .int dp, .int md, va_rf la])), (h0, .inr (8, [.ref qb, .ref qu, .int (nI L24.length), .int ln, .int (nI n), .int (nI p25), .int (nI p25)])), (qb, .inl (cB, 4096, .inl bf)), (qu, .inl (cI, 4096, .inl ((wrL ug 0 L24))))] ++ va_pl L f) H := by rw [← va_pl_off hnL]; rw [hf1] at hP; exact hP
            have hD : va_D A ([(jr, .inr (1, [.ref h0, .int dp, .int md, va_rf la])), (h0, .inr (8, [.ref qb, .ref qu, .int (nI L24.length), .int ln, .int (nI n), .int (nI p25), .int (nI p25)])), (qb, .inl (cB, 4096, .inl bf)), (qu, .inl (cI, 4096, .inl ((wrL ug 0 L24))))] ++ va_pl L f) := by rw [← va_pl_off hnL]; rw [hf1] at hD; exact hD
            have hno : jNam bf n nms i = none := jNam_4 h34 hqt (by rw [← h_p25]; exact hw)
            exact vx_out (fun x hx => (hex x hx).elim) hlocks hce hcv hcl (fun t9 ht2 ha => ⟨(nI p25, (nI L24.length), nI p25, (wrL ug 0 L24)), hno, ⟨hEn, by rw [ht2]; exact hP, va_K.moved ha hK, hD⟩, hS.F ht2⟩) hS.2.2 (by show (0 + 1) + 1 ≤ 2; omega) (by show (0 + L24.length) + (6) ≤ 12 + (n - i); omega)
          · obtain ⟨⟨hP1, hK1, hD1⟩, hz9⟩ := hB
            rw [ht] at hP1
            rw [ht] at hz9
            refine w_tight (hq0.trans hz9) ?_
            have hq0 := hq0.trans hz9
            obtain ⟨hP, hD⟩ := va_joinQ (wr := [(jr, .inr (1, [.ref h0, .int dp, .int md, va_rf la])), (qu, .inl (cI, 4096, .inl ((wrL ug 0 L24))))]) (w1 := [(h0, .inr (8, [.ref qb, .ref qu, .int (nI L24.length), .int ln, .int (nI n), .int (nI (p25 + 1)), .int pl])), (qb, .inl (cB, 4096, .inl bf))]) hP hD [1, 2] [0, 3] rfl rfl (by decide) (by decide) hk1 hFc hP1 hD1
            generalize H1 = H at hP hS hq0 ⊢
            have hP : va_P (dC, dI) classes ([(jr, .inr (1, [.ref h0, .int dp, .int md, va_rf la])), (qu, .inl (cI, 4096, .inl ((wrL ug 0 L24)))), (h0, .inr (8, [.ref qb, .ref qu, .int (nI L24.length), .int ln, .int (nI n), .int (nI (p25 + 1)), .int pl])), (qb, .inl (cB, 4096, .inl bf))] ++ va_pl ((L ++ [qn24])) f1) H := hP
            have hD : va_D A ([(jr, .inr (1, [.ref h0, .int dp, .int md, va_rf la])), (qu, .inl (cI, 4096, .inl ((wrL ug 0 L24)))), (h0, .inr (8, [.ref qb, .ref qu, .int (nI L24.length), .int ln, .int (nI n), .int (nI (p25 + 1)), .int pl])), (qb, .inl (cB, 4096, .inl bf))] ++ va_pl ((L ++ [qn24])) f1) := hD
            have hP := hP.part (cx := [(jr, .inr (1, [.ref h0, .int dp, .int md, va_rf la])), (h0, .inr (8, [.ref qb, .ref qu, .int (nI L24.length), .int ln, .int (nI n), .int (nI (p25 + 1)), .int pl])), (qb, .inl (cB, 4096, .inl bf)), (qu, .inl (cI, 4096, .inl ((wrL ug 0 L24))))]) [0, 2, 3, 1] rfl
            have hD := hD.part (cx := [(jr, .inr (1, [.ref h0, .int dp, .int md, va_rf la])), (h0, .inr (8, [.ref qb, .ref qu, .int (nI L24.length), .int ln, .int (nI n), .int (nI (p25 + 1)), .int pl])), (qb, .inl (cB, 4096, .inl bf)), (qu, .inl (cI, 4096, .inl ((wrL ug 0 L24))))]) [0, 2, 3, 1] (by decide) rfl
            have ht26 : hereV bf n p25 = 58 := hw
            have hl26 := here_lc ht26 (by decide)
            refine lv_aload_n hx hb d_JsonReader_newName_97 rfl (lv_at hl 2 rfl) ?_
            have hok : jNam bf n nms i = some (txL f1 qn24, p25 + 1) := by rw [etx, h_p25]; exact jNam_ok h34 hqt hnin (by rw [← h_p25]; exact ht26)
            refine w_same (fun hq => ?_)
            refine W.widen (k := 2) (n := 12 + (n - i)) (by show (0 + 1) ≤ 2; omega) (by show (0 + L24.length) ≤ 12 + (n - i); omega) ?_
            refine vx_ret ?_
            exact W.aret (v := .ref qn24) hx hb hr (Or.inr ⟨_, rfl⟩) (Or.inr ⟨_, rfl⟩) (fun t9 ht hW => ⟨⟨(qn24, (p25 + 1), (nI L24.length), (wrL ug 0 L24), E1, f1), qn24, rfl, ⟨by show i + 2 ≤ (p25 + 1); omega, by show (p25 + 1) ≤ n; omega, hO1, hqz, hEX, hEq, hfk, hnw, hok⟩, ⟨by rw [ht]; exact hP, va_K.moved hW.alike hK, hD⟩, by rw [ht]; exact ⟨hq.mono (by show (0 + 1) ≤ 1; omega) (by show (0 + L24.length) ≤ (p25 + 1) - i; omega), rfl⟩⟩, hS.F ht⟩) hS.2.2 d_JsonReader_newName_98
        · rw [hoj] at hl
          have hl : lv_has ls 5 [(0, .ref jr), (2, .int (nI p22)), (3, .ref qn24), (4, .ref a9)] := hl
          have ha9 := hms j a9 hoj
          have hjl := (List.getElem?_eq_some_iff.mp hoj).1
          have ha91 : E1 a9 = 3 := (hEX a9 ha9.1).trans ha9.2.2.1
          refine lv_aload hx hb d_JsonReader_newName_46 (lv_at hl 3 rfl) ?_
          refine lv_ifnull hx hb d_JsonReader_newName_48 ?_
          refine lv_aload hx hb d_JsonReader_newName_51 (lv_at hl 3 rfl) ?_
          obtain ⟨kd27, nu27, tx27, me27, pa27, na27, ix27, nm27, no27, sp27, ef27, hv27⟩ := hO1.val ((Or.inr (Or.inr ha91)))
          rcases na27 with _ | b28
          · exact absurd rfl (hv27.2.2.2.2.2.2.2 ha91).1
          · refine vq_get (D := (dC, dI)) (ci := 9) (v := .ref b28) (C := R_Value) (T := F_Value) (N := 10) hx hb hts in_Value hown hK hP (hO1.inV (Or.inr (Or.inr ha91))) ef27 rfl 5 (by decide) (hts _ z_333) (fun _ h9 => h9) rfl d_JsonReader_newName_53 ?_
            refine lv_aload_n hx hb d_JsonReader_newName_56 rfl (lv_at hl 2 rfl) ?_
            refine vp_callSi (va_Run.run (va_runSN (As := [.ref b28, .ref qn24]) (rest := []) ⟨hx, hb, hml, hown, hts⟩ (f_QB_sameText l dC dI H cI cV E1 lv (L ++ [qn24]) f1 hO1 b28 qn24 (hv27.2.2.2.1 b28 rfl) (hEq)) (⟨va_cnB (host := "QueryBench") 2 hts (gt_code i_QB_sameText) rfl rfl rfl (hN _ nz_443) (hts _ w_1) (by decide +kernel) ⟨Nat.le_of_ble_eq_true rfl, Nat.le_of_ble_eq_true rfl⟩, hts _ z_444, trivial⟩) ⟨mq_blind, fun U hU hW => ⟨rfl, hU, by rw [hU]; exact hP.part (cx := []) [] rfl, va_K.moved hW.alike (hK.sub (tys' := [(cI, .int), (cV, .object "QueryBench$Value")]) [1, 2] rfl), hN.warm hW⟩⟩ rfl rfl hl.1 rfl (lv_room (Nat.le_of_ble_eq_true rfl)) d_JsonReader_newName_57 ⟨by show (0 + 1) + 0 ≤ 2; omega, by show (0 + L24.length) + 0 ≤ 12 + (n - i); omega⟩)) (fun r29 h_r29 => ?_)
            refine lv_if_eq (tgt := 71) hx hb d_JsonReader_newName_60 (by decide) (fun c60 => ?_) (fun c60 => ?_)
            · refine lv_aload hx hb d_JsonReader_newName_71 (lv_at hl 3 rfl) ?_
              rcases nm27 with _ | b30
              · refine vq_get (D := (dC, dI)) (ci := 9) (v := .null) (C := R_Value) (T := F_Value) (N := 10) hx hb hts in_Value hown hK hP (hO1.inV (Or.inr (Or.inr ha91))) ef27 rfl 7 (by decide) (hts _ z_336) (fun _ h9 => h9) rfl d_JsonReader_newName_73 ?_
                refine lv_astoreN (lv' := [(4, .null), (0, .ref jr), (2, .int (nI p22)), (3, .ref qn24)]) hx hb d_JsonReader_newName_76 hl (by decide) rfl (fun ls hl => ?_)
                refine lv_goto (tgt := 46) hx hb d_JsonReader_newName_78 (by decide) ?_
                have hnn := (nmF_v ((hfk a9 ha9.1).symm.trans ef27)).symm.trans ha9.2.2.2
                have hl : lv_has ls 5 [(4, va_rf (ms[j + 1]?)), (0, .ref jr), (2, .int (nI p22)), (3, .ref qn24)] := by rw [← hnn]; exact hl
                have hjn2 : ∀ k a, k < j + 1 → ms[k]? = some a → nmL f1 a ≠ some L24 := fun k a hk ha e => by
                  by_cases ek : k = j
                  · rw [ek, hoj] at ha
                    obtain rfl := Option.some.inj ha
                    rw [nmL_v ef27] at e
                    have e9 : txL f1 b28 = L24 := Option.some.inj e
                    rcases h_r29.2 with h9 | h9
                    · exact absurd (h9.1.symm.trans c60) (by decide)
                    · exact h9.2 (e9.trans etx.symm)
                  · exact hjn k a (by omega) ha e
                exact ih (j + 1) _ _ _ ⟨show j + 1 ≤ ms.length by omega, hjn2⟩ (by show ms.length + 1 - (j + 1) < ms.length + 1 - j; omega) hP hD hS (lv_sub hl [1, 2, 3, 0] rfl)
              · refine vq_get (D := (dC, dI)) (ci := 9) (v := .ref b30) (C := R_Value) (T := F_Value) (N := 10) hx hb hts in_Value hown hK hP (hO1.inV (Or.inr (Or.inr ha91))) ef27 rfl 7 (by decide) (hts _ z_336) (fun _ h9 => h9) rfl d_JsonReader_newName_73 ?_
                refine lv_astore (lv' := [(4, .ref b30), (0, .ref jr), (2, .int (nI p22)), (3, .ref qn24)]) hx hb d_JsonReader_newName_76 hl (by decide) rfl (fun ls hl => ?_)
                refine lv_goto (tgt := 46) hx hb d_JsonReader_newName_78 (by decide) ?_
                have hnn := (nmF_v ((hfk a9 ha9.1).symm.trans ef27)).symm.trans ha9.2.2.2
                have hl : lv_has ls 5 [(4, va_rf (ms[j + 1]?)), (0, .ref jr), (2, .int (nI p22)), (3, .ref qn24)] := by rw [← hnn]; exact hl
                have hjn2 : ∀ k a, k < j + 1 → ms[k]? = some a → nmL f1 a ≠ some L24 := fun k a hk ha e => by
                  by_cases ek : k = j
                  · rw [ek, hoj] at ha
                    obtain rfl := Option.some.inj ha
                    rw [nmL_v ef27] at e
                    have e9 : txL f1 b28 = L24 := Option.some.inj e
                    rcases h_r29.2 with h9 | h9
                    · exact absurd (h9.1.symm.trans c60) (by decide)
                    · exact h9.2 (e9.trans etx.symm)
                  · exact hjn k a (by omega) ha e
                exact ih (j + 1) _ _ _ ⟨show j + 1 ≤ ms.length by omega, hjn2⟩ (by show ms.length + 1 - (j + 1) < ms.length + 1 - j; omega) hP hD hS (lv_sub hl [1, 2, 3, 0] rfl)
            · refine lv_aload_n hx hb d_JsonReader_newName_63 rfl (lv_at hl 0 rfl) ?_
              refine va_get (D := (dC, dI)) (ci := 1) (v := .ref h0) (C := R_JsonReader) (T := F_JsonReader) (N := 4) hx hb hts in_JsonReader hown hK hP 0 rfl rfl 0 (by decide) (hts _ w_80) (fun _ h9 => h9) rfl d_JsonReader_newName_64 ?_
              refine lv_iload_n hx hb d_JsonReader_newName_67 rfl (lv_at hl 1 rfl) ?_
              have hPc := hP.sub (ws' := [(h0, .inr (8, [.ref qb, .ref qu, .int (nI L24.length), .int ln, .int (nI n), .int (nI (j24 + 1)), .int pl])), (qb, .inl (cB, 4096, .inl bf))]) [1, 2] rfl
              have hDc := hD.sub (ws' := [(h0, .inr (8, [.ref qb, .ref qu, .int (nI L24.length), .int ln, .int (nI n), .int (nI (j24 + 1)), .int pl])), (qb, .inl (cB, 4096, .inl bf))]) [1, 2] (by decide) rfl
              have hFc := va_free (wc := [(h0, .inr (8, [.ref qb, .ref qu, .int (nI L24.length), .int ln, .int (nI n), .int (nI (j24 + 1)), .int pl])), (qb, .inl (cB, 4096, .inl bf))]) hD hS hA [1, 2] rfl
              have hKc := hK.sub (tys' := [(cB, .byte)]) [0] rfl
              refine w_same (fun hq0 => ?_)
              refine vx_callv (vx_runV (As := [.int (nI p22)]) (rest := []) ⟨hx, hb, hml, hown, hts⟩ (c_Tape_fail l hl9 dC dI cB h0 qb H (.ref qu) ((nI L24.length)) ln (nI n) (nI ((j24 + 1))) pl bf ((nI p22))) (cwV 1 hts (gt_V (own := R_JsonReader) (C := R_Tape) (i := 38) (y := y_Tape_fail) i_Tape_fail z_370 w_371 w_372 w_2) rfl rfl rfl (by decide +kernel) ⟨Nat.le_of_ble_eq_true rfl, Nat.le_of_ble_eq_true rfl⟩) ⟨mx_blind, va_recv hK hP (ci := 8) (q0 := 1) rfl rfl, fun U hU hW => ⟨rfl, ⟨hU, by rw [hU]; exact hPc, va_K.moved hW.alike hKc, hDc.weaken (fun _ _ _ _ => trivial)⟩, hN.warm hW, by rw [hU]; exact ZX.moved' hW.alike (ZX.narrow' (ZX.kept' hZ hS.2.1) hFc)⟩⟩ rfl rfl hl.1 rfl (lv_room (Nat.le_of_ble_eq_true rfl)) d_JsonReader_newName_68 ⟨by show (0 + 1) + 1 ≤ 2; omega, by show (0 + L24.length) + 6 ≤ 12 + (n - i); omega⟩) hS (fun q _ h => hFc q h) hFc (fun q _ h => hFc q h) (fun En ce q9 _u t9 H1 locs ht hvm hw hB hz1 hk1 hS hce hcv hcl => ?_) (fun _u t9 H1 locs ht hvm hw hB hz1 hk1 hS => ?_)
              · obtain ⟨hEn, hP1, hK1, hD1⟩ := hB
                rw [ht] at hP1
                obtain ⟨hP, hD⟩ := va_joinQ (wr := [(jr, .inr (1, [.ref h0, .int dp, .int md, va_rf la])), (qu, .inl (cI, 4096, .inl ((wrL ug 0 L24))))]) (w1 := [(h0, .inr (8, [.ref qb, .ref qu, .int (nI L24.length), .int ln, .int (nI n), .int (nI (j24 + 1)), .int (nI p22)])), (qb, .inl (cB, 4096, .inl bf))]) hP hD [1, 2] [0, 3] rfl rfl (by decide) (by decide) hk1 hFc hP1 hD1
                generalize H1 = H at hP hS hce ⊢
                have hP : va_P (dC, dI) classes ([(jr, .inr (1, [.ref h0, .int dp, .int md, va_rf la])), (qu, .inl (cI, 4096, .inl ((wrL ug 0 L24)))), (h0, .inr (8, [.ref qb, .ref qu, .int (nI L24.length), .int ln, .int (nI n), .int (nI (j24 + 1)), .int (nI p22)])), (qb, .inl (cB, 4096, .inl bf))] ++ va_pl ((L ++ [qn24])) f1) H := hP
                have hD : va_D A ([(jr, .inr (1, [.ref h0, .int dp, .int md, va_rf la])), (qu, .inl (cI, 4096, .inl ((wrL ug 0 L24)))), (h0, .inr (8, [.ref qb, .ref qu, .int (nI L24.length), .int ln, .int (nI n), .int (nI (j24 + 1)), .int (nI p22)])), (qb, .inl (cB, 4096, .inl bf))] ++ va_pl ((L ++ [qn24])) f1) := hD
                have hP := hP.part (cx := [(jr, .inr (1, [.ref h0, .int dp, .int md, va_rf la])), (h0, .inr (8, [.ref qb, .ref qu, .int (nI L24.length), .int ln, .int (nI n), .int (nI (j24 + 1)), .int (nI p22)])), (qb, .inl (cB, 4096, .inl bf)), (qu, .inl (cI, 4096, .inl ((wrL ug 0 L24))))]) [0, 2, 3, 1] rfl
                have hD := hD.part (cx := [(jr, .inr (1, [.ref h0, .int dp, .int md, va_rf la])), (h0, .inr (8, [.ref qb, .ref qu, .int (nI L24.length), .int ln, .int (nI n), .int (nI (j24 + 1)), .int (nI p22)])), (qb, .inl (cB, 4096, .inl bf)), (qu, .inl (cI, 4096, .inl ((wrL ug 0 L24))))]) [0, 2, 3, 1] (by decide) rfl
                have hP := plP_pre hP
                have hD := plD_pre hD
                have hP : va_P (dC, dI) classes ([(jr, .inr (1, [.ref h0, .int dp, .int md, va_rf la])), (h0, .inr (8, [.ref qb, .ref qu, .int (nI L24.length), .int ln, .int (nI n), .int (nI (j24 + 1)), .int (nI p22)])), (qb, .inl (cB, 4096, .inl bf)), (qu, .inl (cI, 4096, .inl ((wrL ug 0 L24))))] ++ va_pl L f) H := by rw [← va_pl_off hnL]; rw [hf1] at hP; exact hP
                have hD : va_D A ([(jr, .inr (1, [.ref h0, .int dp, .int md, va_rf la])), (h0, .inr (8, [.ref qb, .ref qu, .int (nI L24.length), .int ln, .int (nI n), .int (nI (j24 + 1)), .int (nI p22)])), (qb, .inl (cB, 4096, .inl bf)), (qu, .inl (cI, 4096, .inl ((wrL ug 0 L24))))] ++ va_pl L f) := by rw [← va_pl_off hnL]; rw [hf1] at hD; exact hD
                have hno : jNam bf n nms i = none := jNam_3 h34 hqt (hN1.sm hoj (by rw [nmL_v ef27]; show some (txL f1 b28) = _; rcases h_r29.2 with h9 | h9; (· rw [h9.2, etx]); (· exact absurd h9.1 c60)))
                exact vx_out (fun x hx => (hex x hx).elim) hlocks hce hcv hcl (fun t9 ht2 ha => ⟨(nI (j24 + 1), (nI L24.length), (nI p22), (wrL ug 0 L24)), hno, ⟨hEn, by rw [ht2]; exact hP, va_K.moved ha hK, hD⟩, hS.F ht2⟩) hS.2.2 (by show (0 + 1) + 1 ≤ 2; omega) (by show (0 + L24.length) + (6) ≤ 12 + (n - i); omega)
              · obtain ⟨⟨hP1, hK1, hD1⟩, hz9⟩ := hB
                rw [ht] at hP1
                rw [ht] at hz9
                refine w_tight (hq0.trans hz9) ?_
                have hq0 := hq0.trans hz9
                obtain ⟨hP, hD⟩ := va_joinQ (wr := [(jr, .inr (1, [.ref h0, .int dp, .int md, va_rf la])), (qu, .inl (cI, 4096, .inl ((wrL ug 0 L24))))]) (w1 := [(h0, .inr (8, [.ref qb, .ref qu, .int (nI L24.length), .int ln, .int (nI n), .int (nI (j24 + 1)), .int pl])), (qb, .inl (cB, 4096, .inl bf))]) hP hD [1, 2] [0, 3] rfl rfl (by decide) (by decide) hk1 hFc hP1 hD1
                generalize H1 = H at hP hS hq0 ⊢
                have hP : va_P (dC, dI) classes ([(jr, .inr (1, [.ref h0, .int dp, .int md, va_rf la])), (qu, .inl (cI, 4096, .inl ((wrL ug 0 L24)))), (h0, .inr (8, [.ref qb, .ref qu, .int (nI L24.length), .int ln, .int (nI n), .int (nI (j24 + 1)), .int pl])), (qb, .inl (cB, 4096, .inl bf))] ++ va_pl ((L ++ [qn24])) f1) H := hP
                have hD : va_D A ([(jr, .inr (1, [.ref h0, .int dp, .int md, va_rf la])), (qu, .inl (cI, 4096, .inl ((wrL ug 0 L24)))), (h0, .inr (8, [.ref qb, .ref qu, .int (nI L24.length), .int ln, .int (nI n), .int (nI (j24 + 1)), .int pl])), (qb, .inl (cB, 4096, .inl bf))] ++ va_pl ((L ++ [qn24])) f1) := hD
                have hP := hP.part (cx := [(jr, .inr (1, [.ref h0, .int dp, .int md, va_rf la])), (h0, .inr (8, [.ref qb, .ref qu, .int (nI L24.length), .int ln, .int (nI n), .int (nI (j24 + 1)), .int pl])), (qb, .inl (cB, 4096, .inl bf)), (qu, .inl (cI, 4096, .inl ((wrL ug 0 L24))))]) [0, 2, 3, 1] rfl
                have hD := hD.part (cx := [(jr, .inr (1, [.ref h0, .int dp, .int md, va_rf la])), (h0, .inr (8, [.ref qb, .ref qu, .int (nI L24.length), .int ln, .int (nI n), .int (nI (j24 + 1)), .int pl])), (qb, .inl (cB, 4096, .inl bf)), (qu, .inl (cI, 4096, .inl ((wrL ug 0 L24))))]) [0, 2, 3, 1] (by decide) rfl
                exact hw.elim
    · refine lv_aload_n hx hb d_JsonReader_newName_27 rfl (lv_at hl 1 rfl) ?_
      refine va_get (D := (dC, dI)) (ci := 1) (v := .ref h0) (C := R_JsonReader) (T := F_JsonReader) (N := 4) hx hb hts in_JsonReader hown hK hP 0 rfl rfl 0 (by decide) (hts _ w_80) (fun _ h9 => h9) rfl d_JsonReader_newName_28 ?_
      refine lv_iload_n hx hb d_JsonReader_newName_31 rfl (lv_at hl 0 rfl) ?_
      have hPc := hP.sub (ws' := [(h0, .inr (8, [.ref qb, .ref qu, .int uc, .int ln, .int (nI n), .int (nI p22), .int pl])), (qb, .inl (cB, 4096, .inl bf))]) [1, 2] rfl
      have hDc := hD.sub (ws' := [(h0, .inr (8, [.ref qb, .ref qu, .int uc, .int ln, .int (nI n), .int (nI p22), .int pl])), (qb, .inl (cB, 4096, .inl bf))]) [1, 2] (by decide) rfl
      have hFc := va_free (wc := [(h0, .inr (8, [.ref qb, .ref qu, .int uc, .int ln, .int (nI n), .int (nI p22), .int pl])), (qb, .inl (cB, 4096, .inl bf))]) hD hS hA [1, 2] rfl
      have hKc := hK.sub (tys' := [(cB, .byte)]) [0] rfl
      refine w_same (fun hq0 => ?_)
      refine vx_callv (vx_runV (As := [.int (nI p22)]) (rest := []) ⟨hx, hb, hml, hown, hts⟩ (c_Tape_fail l hl9 dC dI cB h0 qb H (.ref qu) uc ln (nI n) (nI p22) pl bf ((nI p22))) (cwV 1 hts (gt_V (own := R_JsonReader) (C := R_Tape) (i := 38) (y := y_Tape_fail) i_Tape_fail z_370 w_371 w_372 w_2) rfl rfl rfl (by decide +kernel) ⟨Nat.le_of_ble_eq_true rfl, Nat.le_of_ble_eq_true rfl⟩) ⟨mx_blind, va_recv hK hP (ci := 8) (q0 := 1) rfl rfl, fun U hU hW => ⟨rfl, ⟨hU, by rw [hU]; exact hPc, va_K.moved hW.alike hKc, hDc.weaken (fun _ _ _ _ => trivial)⟩, hN.warm hW, by rw [hU]; exact ZX.moved' hW.alike (ZX.narrow' (ZX.kept' hZ hS.2.1) hFc)⟩⟩ rfl rfl hl.1 rfl (lv_room (Nat.le_of_ble_eq_true rfl)) d_JsonReader_newName_32 ⟨by show 0 + 1 ≤ 2; omega, by show 0 + 6 ≤ 12 + (n - i); omega⟩) hS (fun q _ h => hFc q h) hFc (fun q _ h => hFc q h) (fun En ce q9 _u t9 H1 locs ht hvm hw hB hz1 hk1 hS hce hcv hcl => ?_) (fun _u t9 H1 locs ht hvm hw hB hz1 hk1 hS => ?_)
      · obtain ⟨hEn, hP1, hK1, hD1⟩ := hB
        rw [ht] at hP1
        obtain ⟨hP, hD⟩ := va_joinQ (wr := [(jr, .inr (1, [.ref h0, .int dp, .int md, va_rf la])), (qu, .inl (cI, 4096, .inl ug))]) (w1 := [(h0, .inr (8, [.ref qb, .ref qu, .int uc, .int ln, .int (nI n), .int (nI p22), .int (nI p22)])), (qb, .inl (cB, 4096, .inl bf))]) hP hD [1, 2] [0, 3] rfl rfl (by decide) (by decide) hk1 hFc hP1 hD1
        generalize H1 = H at hP hS hce ⊢
        have hP : va_P (dC, dI) classes ([(jr, .inr (1, [.ref h0, .int dp, .int md, va_rf la])), (qu, .inl (cI, 4096, .inl ug)), (h0, .inr (8, [.ref qb, .ref qu, .int uc, .int ln, .int (nI n), .int (nI p22), .int (nI p22)])), (qb, .inl (cB, 4096, .inl bf))] ++ va_pl L f) H := hP
        have hD : va_D A ([(jr, .inr (1, [.ref h0, .int dp, .int md, va_rf la])), (qu, .inl (cI, 4096, .inl ug)), (h0, .inr (8, [.ref qb, .ref qu, .int uc, .int ln, .int (nI n), .int (nI p22), .int (nI p22)])), (qb, .inl (cB, 4096, .inl bf))] ++ va_pl L f) := hD
        have hP := hP.part (cx := [(jr, .inr (1, [.ref h0, .int dp, .int md, va_rf la])), (h0, .inr (8, [.ref qb, .ref qu, .int uc, .int ln, .int (nI n), .int (nI p22), .int (nI p22)])), (qb, .inl (cB, 4096, .inl bf)), (qu, .inl (cI, 4096, .inl ug))]) [0, 2, 3, 1] rfl
        have hD := hD.part (cx := [(jr, .inr (1, [.ref h0, .int dp, .int md, va_rf la])), (h0, .inr (8, [.ref qb, .ref qu, .int uc, .int ln, .int (nI n), .int (nI p22), .int (nI p22)])), (qb, .inl (cB, 4096, .inl bf)), (qu, .inl (cI, 4096, .inl ug))]) [0, 2, 3, 1] (by decide) rfl
        have hno : jNam bf n nms i = none := jNam_1 (by rw [← h_p22, ← h_h23]; exact c24)
        exact vx_out (fun x hx => (hex x hx).elim) hlocks hce hcv hcl (fun t9 ht2 ha => ⟨(nI p22, uc, (nI p22), ug), hno, ⟨hEn, by rw [ht2]; exact hP, va_K.moved ha hK, hD⟩, hS.F ht2⟩) hS.2.2 (by show 0 + 1 ≤ 2; omega) (by show 0 + (6) ≤ 12 + (n - i); omega)
      · obtain ⟨⟨hP1, hK1, hD1⟩, hz9⟩ := hB
        rw [ht] at hP1
        rw [ht] at hz9
        refine w_tight (hq0.trans hz9) ?_
        have hq0 := hq0.trans hz9
        obtain ⟨hP, hD⟩ := va_joinQ (wr := [(jr, .inr (1, [.ref h0, .int dp, .int md, va_rf la])), (qu, .inl (cI, 4096, .inl ug))]) (w1 := [(h0, .inr (8, [.ref qb, .ref qu, .int uc, .int ln, .int (nI n), .int (nI p22), .int pl])), (qb, .inl (cB, 4096, .inl bf))]) hP hD [1, 2] [0, 3] rfl rfl (by decide) (by decide) hk1 hFc hP1 hD1
        generalize H1 = H at hP hS hq0 ⊢
        have hP : va_P (dC, dI) classes ([(jr, .inr (1, [.ref h0, .int dp, .int md, va_rf la])), (qu, .inl (cI, 4096, .inl ug)), (h0, .inr (8, [.ref qb, .ref qu, .int uc, .int ln, .int (nI n), .int (nI p22), .int pl])), (qb, .inl (cB, 4096, .inl bf))] ++ va_pl L f) H := hP
        have hD : va_D A ([(jr, .inr (1, [.ref h0, .int dp, .int md, va_rf la])), (qu, .inl (cI, 4096, .inl ug)), (h0, .inr (8, [.ref qb, .ref qu, .int uc, .int ln, .int (nI n), .int (nI p22), .int pl])), (qb, .inl (cB, 4096, .inl bf))] ++ va_pl L f) := hD
        have hP := hP.part (cx := [(jr, .inr (1, [.ref h0, .int dp, .int md, va_rf la])), (h0, .inr (8, [.ref qb, .ref qu, .int uc, .int ln, .int (nI n), .int (nI p22), .int pl])), (qb, .inl (cB, 4096, .inl bf)), (qu, .inl (cI, 4096, .inl ug))]) [0, 2, 3, 1] rfl
        have hD := hD.part (cx := [(jr, .inr (1, [.ref h0, .int dp, .int md, va_rf la])), (h0, .inr (8, [.ref qb, .ref qu, .int uc, .int ln, .int (nI n), .int (nI p22), .int pl])), (qb, .inl (cB, 4096, .inl bf)), (qu, .inl (cI, 4096, .inl ug))]) [0, 2, 3, 1] (by decide) rfl
        exact hw.elim
  · change vx_Met _ _ _ _ (va_Pc [.ref jr, .ref b21] _) _ _ _ _ _
    refine vx_ofW (cc := b_JsonReader_newName) (maxL := 5) (ret := (some (.array .int))) (by decide) rfl ?_
    intro p e s m args below meth c s₁ B hml hex hv
    obtain ⟨rfl, ⟨hsz, hP, hK, hD0⟩, hN, hZ, hC, hV⟩ := hv
    have hx := B.exec
    have hb := B.bytes
    have hr := B.returns
    have hts0 := atoms_spec (ws := k_JsonReader_newName :: gtbl) B.pre
    have hts := fun w h => hts0 w (List.mem_cons_of_mem _ h)
    have hown : s.vm.findClass R_JsonReader = some m.cls := findClass_of_methodNamed B.named
    have hlocks := B.notSynchronized
    subst hsz
    have hD := hD0.self (sz := s.heap.size)
    generalize hAe : va_A ([(jr, .inr (1, [.ref h0, .int dp, .int md, va_rf la])), (h0, .inr (8, [.ref qb, .ref qu, .int uc, .int ln, .int (nI n), .int (nI i), .int pl])), (qb, .inl (cB, 4096, .inl bf)), (qu, .inl (cI, 4096, .inl ug))] ++ va_pl L f) s.heap.size = A at hD hZ hC ⊢
    have hA : ∀ q : Nat, s.heap.size ≤ q → A q := fun q h => by rw [← hAe]; exact Or.inr h
    have hS : va_S A s.heap s.heap [] := va_S.rf
    have hP : va_P (dC, dI) classes ([(jr, .inr (1, [.ref h0, .int dp, .int md, va_rf la])), (h0, .inr (8, [.ref qb, .ref qu, .int uc, .int ln, .int (nI n), .int (nI i), .int pl])), (qb, .inl (cB, 4096, .inl bf)), (qu, .inl (cI, 4096, .inl ug))] ++ va_pl L f) s.heap := hP
    have hl := lv_entry ([.ref jr, .ref b21]) (n := 5) (Nat.le_of_ble_eq_true rfl)
    rw [lg_entry_eq]
    generalize (lg_sl ([.ref jr, .ref b21]) ++ List.replicate (5 - (lg_sl ([.ref jr, .ref b21])).length) Slot.unset).toArray = ls at hl ⊢
    have hl : lv_has ls 5 [(0, .ref jr), (1, .ref b21)] := hl
    refine lv_aload_n hx hb d_JsonReader_newName_0 rfl (lv_at hl 0 rfl) ?_
    refine va_get (D := (dC, dI)) (ci := 1) (v := .ref h0) (C := R_JsonReader) (T := F_JsonReader) (N := 4) hx hb hts in_JsonReader hown hK hP 0 rfl rfl 0 (by decide) (hts _ w_80) (fun _ h9 => h9) rfl d_JsonReader_newName_1 ?_
    have hPc := hP.sub (ws' := [(h0, .inr (8, [.ref qb, .ref qu, .int uc, .int ln, .int (nI n), .int (nI i), .int pl])), (qb, .inl (cB, 4096, .inl bf))]) [1, 2] rfl
    have hDc := hD.sub (ws' := [(h0, .inr (8, [.ref qb, .ref qu, .int uc, .int ln, .int (nI n), .int (nI i), .int pl])), (qb, .inl (cB, 4096, .inl bf))]) [1, 2] (by decide) rfl
    have hFc := va_free (wc := [(h0, .inr (8, [.ref qb, .ref qu, .int uc, .int ln, .int (nI n), .int (nI i), .int pl])), (qb, .inl (cB, 4096, .inl bf))]) hD hS hA [1, 2] rfl
    have hKc := hK.sub (tys' := [(cB, .byte)]) [0] rfl
    refine va_callv (va_runV (As := []) (rest := []) ⟨hx, hb, hml, hown, hts⟩ (c_Tape_skipBlanks l dC dI cB h0 qb s.heap (.ref qu) uc ln pl bf n i hn0 (by omega)) (cwV 0 hts (gt_V (own := R_JsonReader) (C := R_Tape) (i := 42) (y := y_Tape_skipBlanks) i_Tape_skipBlanks z_298 z_299 z_300 w_2) rfl rfl rfl (by decide +kernel) ⟨Nat.le_of_ble_eq_true rfl, Nat.le_of_ble_eq_true rfl⟩) ⟨mp_blind, va_recv hK hP (ci := 8) (q0 := 1) rfl rfl, fun U hU hW => ⟨rfl, hU, by rw [hU]; exact hPc, va_K.moved hW.alike hKc, hDc.weaken (fun _ _ _ _ => trivial)⟩⟩ rfl rfl hl.1 rfl (lv_room (Nat.le_of_ble_eq_true rfl)) d_JsonReader_newName_4 ⟨by show 0 + 0 ≤ 2; omega, by show 0 + 0 ≤ 12 + (n - i); omega⟩) hS (fun q _ h => hFc q h) hFc (fun _u t9 H1 locs ht hvm hw hB hz1 hk1 hS => ?_)
    obtain ⟨hP1, hK1, hD1⟩ := hB
    rw [ht] at hP1
    obtain ⟨hP, hD⟩ := va_joinQ (wr := [(jr, .inr (1, [.ref h0, .int dp, .int md, va_rf la])), (qu, .inl (cI, 4096, .inl ug))]) (w1 := [(h0, .inr (8, [.ref qb, .ref qu, .int uc, .int ln, .int (nI n), .int (nI (skipB bf n i)), .int pl])), (qb, .inl (cB, 4096, .inl bf))]) hP hD [1, 2] [0, 3] rfl rfl (by decide) (by decide) hk1 hFc hP1 hD1
    generalize H1 = H at hP hS ⊢
    have hP : va_P (dC, dI) classes ([(jr, .inr (1, [.ref h0, .int dp, .int md, va_rf la])), (qu, .inl (cI, 4096, .inl ug)), (h0, .inr (8, [.ref qb, .ref qu, .int uc, .int ln, .int (nI n), .int (nI (skipB bf n i)), .int pl])), (qb, .inl (cB, 4096, .inl bf))] ++ va_pl L f) H := hP
    have hD : va_D A ([(jr, .inr (1, [.ref h0, .int dp, .int md, va_rf la])), (qu, .inl (cI, 4096, .inl ug)), (h0, .inr (8, [.ref qb, .ref qu, .int uc, .int ln, .int (nI n), .int (nI (skipB bf n i)), .int pl])), (qb, .inl (cB, 4096, .inl bf))] ++ va_pl L f) := hD
    have hP := hP.part (cx := [(jr, .inr (1, [.ref h0, .int dp, .int md, va_rf la])), (h0, .inr (8, [.ref qb, .ref qu, .int uc, .int ln, .int (nI n), .int (nI (skipB bf n i)), .int pl])), (qb, .inl (cB, 4096, .inl bf)), (qu, .inl (cI, 4096, .inl ug))]) [0, 2, 3, 1] rfl
    have hD := hD.part (cx := [(jr, .inr (1, [.ref h0, .int dp, .int md, va_rf la])), (h0, .inr (8, [.ref qb, .ref qu, .int uc, .int ln, .int (nI n), .int (nI (skipB bf n i)), .int pl])), (qb, .inl (cB, 4096, .inl bf)), (qu, .inl (cI, 4096, .inl ug))]) [0, 2, 3, 1] (by decide) rfl
    obtain ⟨p31, h_p31⟩ : ∃ z, z = skipB bf n i := ⟨_, rfl⟩
    have hb_p31 := skip_b (f := bf) (show i ≤ n by omega)
    rw [← h_p31] at hP hD hb_p31
    have hP : va_P (dC, dI) classes ([(jr, .inr (1, [.ref h0, .int dp, .int md, va_rf la])), (h0, .inr (8, [.ref qb, .ref qu, .int uc, .int ln, .int (nI n), .int (nI p31), .int pl])), (qb, .inl (cB, 4096, .inl bf)), (qu, .inl (cI, 4096, .inl ug))] ++ va_pl L f) H := hP
    have hD : va_D A ([(jr, .inr (1, [.ref h0, .int dp, .int md, va_rf la])), (h0, .inr (8, [.ref qb, .ref qu, .int uc, .int ln, .int (nI n), .int (nI p31), .int pl])), (qb, .inl (cB, 4096, .inl bf)), (qu, .inl (cI, 4096, .inl ug))] ++ va_pl L f) := hD
    refine lv_aload_n hx hb d_JsonReader_newName_7 rfl (lv_at hl 0 rfl) ?_
    refine va_get (D := (dC, dI)) (ci := 1) (v := .ref h0) (C := R_JsonReader) (T := F_JsonReader) (N := 4) hx hb hts in_JsonReader hown hK hP 0 rfl rfl 0 (by decide) (hts _ w_80) (fun _ h9 => h9) rfl d_JsonReader_newName_8 ?_
    refine va_get (D := (dC, dI)) (ci := 8) (v := .int (nI p31)) (C := R_Tape) (T := F_Tape) (N := 7) hx hb hts in_Tape hown hK hP 1 rfl rfl 5 (by decide) (hts _ z_52) (fun _ h9 => h9) rfl d_JsonReader_newName_11 ?_
    refine lv_istore_n (lv' := [(2, .int (nI p31)), (0, .ref jr), (1, .ref b21)]) hx hb d_JsonReader_newName_14 rfl hl (by decide) rfl (fun ls hl => ?_)
    refine lv_aload_n hx hb d_JsonReader_newName_15 rfl (lv_at hl 1 rfl) ?_
    refine va_get (D := (dC, dI)) (ci := 1) (v := .ref h0) (C := R_JsonReader) (T := F_JsonReader) (N := 4) hx hb hts in_JsonReader hown hK hP 0 rfl rfl 0 (by decide) (hts _ w_80) (fun _ h9 => h9) rfl d_JsonReader_newName_16 ?_
    have hPc := hP.sub (ws' := [(h0, .inr (8, [.ref qb, .ref qu, .int uc, .int ln, .int (nI n), .int (nI p31), .int pl])), (qb, .inl (cB, 4096, .inl bf))]) [1, 2] rfl
    have hDc := hD.sub (ws' := [(h0, .inr (8, [.ref qb, .ref qu, .int uc, .int ln, .int (nI n), .int (nI p31), .int pl])), (qb, .inl (cB, 4096, .inl bf))]) [1, 2] (by decide) rfl
    have hFc := va_free (wc := [(h0, .inr (8, [.ref qb, .ref qu, .int uc, .int ln, .int (nI n), .int (nI p31), .int pl])), (qb, .inl (cB, 4096, .inl bf))]) hD hS hA [1, 2] rfl
    have hKc := hK.sub (tys' := [(cB, .byte)]) [0] rfl
    refine va_calli (va_runV (As := []) (rest := []) ⟨hx, hb, hml, hown, hts⟩ (c_Tape_here l dC dI cB h0 qb H (.ref qu) uc ln pl bf n p31 hn0 (by omega)) (cwV 0 hts (gt_V (own := R_JsonReader) (C := R_Tape) (i := 49) (y := y_Tape_here) i_Tape_here z_362 w_363 w_364 w_2) rfl rfl rfl (by decide +kernel) ⟨Nat.le_of_ble_eq_true rfl, Nat.le_of_ble_eq_true rfl⟩) ⟨mp_blind, va_recv hK hP (ci := 8) (q0 := 1) rfl rfl, fun U hU hW => ⟨rfl, hU, by rw [hU]; exact hPc, va_K.moved hW.alike hKc, hDc.weaken (fun _ _ _ _ => trivial)⟩⟩ rfl rfl hl.1 rfl (lv_room (Nat.le_of_ble_eq_true rfl)) d_JsonReader_newName_19 ⟨by show 0 + 0 ≤ 2; omega, by show 0 + 0 ≤ 12 + (n - i); omega⟩) hS (fun q _ h => hFc q h) hFc (fun h32 _u t9 H1 locs ht hvm hw hB hz1 hk1 hS => ?_)
    obtain ⟨hP1, hK1, hD1⟩ := hB
    rw [ht] at hP1
    obtain ⟨hP, hD⟩ := va_joinQ (wr := [(jr, .inr (1, [.ref h0, .int dp, .int md, va_rf la])), (qu, .inl (cI, 4096, .inl ug))]) (w1 := [(h0, .inr (8, [.ref qb, .ref qu, .int uc, .int ln, .int (nI n), .int (nI p31), .int pl])), (qb, .inl (cB, 4096, .inl bf))]) hP hD [1, 2] [0, 3] rfl rfl (by decide) (by decide) hk1 hFc hP1 hD1
    generalize H1 = H at hP hS ⊢
    have hP : va_P (dC, dI) classes ([(jr, .inr (1, [.ref h0, .int dp, .int md, va_rf la])), (qu, .inl (cI, 4096, .inl ug)), (h0, .inr (8, [.ref qb, .ref qu, .int uc, .int ln, .int (nI n), .int (nI p31), .int pl])), (qb, .inl (cB, 4096, .inl bf))] ++ va_pl L f) H := hP
    have hD : va_D A ([(jr, .inr (1, [.ref h0, .int dp, .int md, va_rf la])), (qu, .inl (cI, 4096, .inl ug)), (h0, .inr (8, [.ref qb, .ref qu, .int uc, .int ln, .int (nI n), .int (nI p31), .int pl])), (qb, .inl (cB, 4096, .inl bf))] ++ va_pl L f) := hD
    have hP := hP.part (cx := [(jr, .inr (1, [.ref h0, .int dp, .int md, va_rf la])), (h0, .inr (8, [.ref qb, .ref qu, .int uc, .int ln, .int (nI n), .int (nI p31), .int pl])), (qb, .inl (cB, 4096, .inl bf)), (qu, .inl (cI, 4096, .inl ug))]) [0, 2, 3, 1] rfl
    have hD := hD.part (cx := [(jr, .inr (1, [.ref h0, .int dp, .int md, va_rf la])), (h0, .inr (8, [.ref qb, .ref qu, .int uc, .int ln, .int (nI n), .int (nI p31), .int pl])), (qb, .inl (cB, 4096, .inl bf)), (qu, .inl (cI, 4096, .inl ug))]) [0, 2, 3, 1] (by decide) rfl
    have h_h32 : h32 = hereV bf n p31 := hw
    refine lv_bipush (v := 34) hx hb d_JsonReader_newName_22 (by decide) ?_
    refine lv_icmp_eq (tgt := 35) hx hb d_JsonReader_newName_24 (by decide) (fun c24 => ?_) (fun c24 => ?_)
    · refine lv_aload_n hx hb d_JsonReader_newName_35 rfl (lv_at hl 1 rfl) ?_
      refine va_get (D := (dC, dI)) (ci := 1) (v := .ref h0) (C := R_JsonReader) (T := F_JsonReader) (N := 4) hx hb hts in_JsonReader hown hK hP 0 rfl rfl 0 (by decide) (hts _ w_80) (fun _ h9 => h9) rfl d_JsonReader_newName_36 ?_
      have h34 : hereV bf n (skipB bf n i) = 34 := by rw [← h_p31, ← h_h32]; exact c24
      have hlt := here_lc ((c24.symm.trans h_h32)).symm (by decide)
      have hPc := hP.sub (ws' := [(h0, .inr (8, [.ref qb, .ref qu, .int uc, .int ln, .int (nI n), .int (nI p31), .int pl])), (qb, .inl (cB, 4096, .inl bf)), (qu, .inl (cI, 4096, .inl ug))]) [1, 2, 3] rfl
      have hDc := hD.sub (ws' := [(h0, .inr (8, [.ref qb, .ref qu, .int uc, .int ln, .int (nI n), .int (nI p31), .int pl])), (qb, .inl (cB, 4096, .inl bf)), (qu, .inl (cI, 4096, .inl ug))]) [1, 2, 3] (by decide) rfl
      have hFc := va_free (wc := [(h0, .inr (8, [.ref qb, .ref qu, .int uc, .int ln, .int (nI n), .int (nI p31), .int pl])), (qb, .inl (cB, 4096, .inl bf)), (qu, .inl (cI, 4096, .inl ug))]) hD hS hA [1, 2, 3] rfl
      have hKc := hK.sub (tys' := [(cB, .byte), (cI, .int)]) [0, 1] rfl
      refine w_same (fun hq0 => ?_)
      refine vx_callr (vx_runV (As := []) (rest := []) ⟨hx, hb, hml, hown, hts⟩ (c_Tape_quoted l hl9 dC dI cB cI h0 qb qu H uc ln pl bf ug n p31 hn0 hlt) (cwV 0 hts (gt_V (own := R_JsonReader) (C := R_Tape) (i := 62) (y := y_Tape_quoted) i_Tape_quoted z_405 z_406 z_407 w_2) rfl rfl rfl (by decide +kernel) ⟨Nat.le_of_ble_eq_true rfl, Nat.le_of_ble_eq_true rfl⟩) ⟨mx_blind, va_recv hK hP (ci := 8) (q0 := 1) rfl rfl, fun U hU hW => ⟨rfl, ⟨hU, by rw [hU]; exact hPc, va_K.moved hW.alike hKc, hDc.weaken (fun _ _ _ _ => trivial)⟩, hN.warm hW, by rw [hU]; exact ZX.moved' hW.alike (ZX.narrow' (ZX.kept' hZ hS.2.1) hFc)⟩⟩ rfl rfl hl.1 rfl (lv_room (Nat.le_of_ble_eq_true rfl)) d_JsonReader_newName_39 ⟨by show 0 + 1 ≤ 2; omega, by show 0 + (6 + qtN bf n p31) ≤ 12 + (n - i); have := qtN_le (f := bf) hlt; omega⟩) hS (fun q _ h => hFc q h) hFc (fun q _ h => hFc q h) (fun En ce q9 ⟨ax, cx, px, gx⟩ t9 H1 locs ht hvm hw hB hz1 hk1 hS hce hcv hcl => ?_) (fun ⟨j33, L33⟩ qn33 t9 H1 locs ht hvm hw hB hz1 hk1 hS => ?_)
      · obtain ⟨hEn, hP1, hK1, hD1⟩ := hB
        rw [ht] at hP1
        obtain ⟨hP, hD⟩ := va_joinQ (wr := [(jr, .inr (1, [.ref h0, .int dp, .int md, va_rf la]))]) (w1 := [(h0, .inr (8, [.ref qb, .ref qu, .int cx, .int ln, .int (nI n), .int ax, .int px])), (qb, .inl (cB, 4096, .inl bf)), (qu, .inl (cI, 4096, .inl gx))]) hP hD [1, 2, 3] [0] rfl rfl (by decide) (by decide) hk1 hFc hP1 hD1
        generalize H1 = H at hP hS hce ⊢
        have hP : va_P (dC, dI) classes ([(jr, .inr (1, [.ref h0, .int dp, .int md, va_rf la])), (h0, .inr (8, [.ref qb, .ref qu, .int cx, .int ln, .int (nI n), .int ax, .int px])), (qb, .inl (cB, 4096, .inl bf)), (qu, .inl (cI, 4096, .inl gx))] ++ va_pl L f) H := hP
        have hD : va_D A ([(jr, .inr (1, [.ref h0, .int dp, .int md, va_rf la])), (h0, .inr (8, [.ref qb, .ref qu, .int cx, .int ln, .int (nI n), .int ax, .int px])), (qb, .inl (cB, 4096, .inl bf)), (qu, .inl (cI, 4096, .inl gx))] ++ va_pl L f) := hD
        have hqn := qtN_le (f := bf) (n := n) (i := p31) hlt
        have hno : jNam bf n nms i = none := jNam_2 h34 (by rw [← h_p31]; exact hw)
        exact vx_out (fun x hx => (hex x hx).elim) hlocks hce hcv hcl (fun t9 ht2 ha => ⟨(ax, cx, px, gx), hno, ⟨hEn, by rw [ht2]; exact hP, va_K.moved ha hK, hD⟩, hS.F ht2⟩) hS.2.2 (by show 0 + 1 ≤ 2; omega) (by show 0 + (6 + qtN bf n p31) ≤ 12 + (n - i); omega)
      · obtain ⟨⟨hP1, hK1, hD1⟩, hz9⟩ := hB
        rw [ht] at hP1
        rw [ht] at hz9
        have hq0 : szk s.heap H1 (0 + 1) (0 + L33.length) := (hq0.trans hz9).mono (Nat.le_refl _) (Nat.le_refl _)
        refine w_tight hq0 ?_
        obtain ⟨hP, hD⟩ := va_joinQ (wr := [(jr, .inr (1, [.ref h0, .int dp, .int md, va_rf la]))]) (w1 := [(h0, .inr (8, [.ref qb, .ref qu, .int (nI L33.length), .int ln, .int (nI n), .int (nI (j33 + 1)), .int pl])), (qb, .inl (cB, 4096, .inl bf)), (qu, .inl (cI, 4096, .inl ((wrL ug 0 L33)))), (qn33, .inl (cI, L33.length, .inl (va_cpy (wrL ug 0 L33) (fun _ => 0) 0 0 L33.length)))]) hP hD [1, 2, 3] [0] rfl rfl (by decide) (by decide) hk1 hFc hP1 hD1
        generalize H1 = H at hP hS hq0 ⊢
        have hP : va_P (dC, dI) classes ([(jr, .inr (1, [.ref h0, .int dp, .int md, va_rf la])), (h0, .inr (8, [.ref qb, .ref qu, .int (nI L33.length), .int ln, .int (nI n), .int (nI (j33 + 1)), .int pl])), (qb, .inl (cB, 4096, .inl bf)), (qu, .inl (cI, 4096, .inl ((wrL ug 0 L33)))), (qn33, .inl (cI, L33.length, .inl (va_cpy (wrL ug 0 L33) (fun _ => 0) 0 0 L33.length)))] ++ va_pl L f) H := hP
        have hD : va_D A ([(jr, .inr (1, [.ref h0, .int dp, .int md, va_rf la])), (h0, .inr (8, [.ref qb, .ref qu, .int (nI L33.length), .int ln, .int (nI n), .int (nI (j33 + 1)), .int pl])), (qb, .inl (cB, 4096, .inl bf)), (qu, .inl (cI, 4096, .inl ((wrL ug 0 L33)))), (qn33, .inl (cI, L33.length, .inl (va_cpy (wrL ug 0 L33) (fun _ => 0) 0 0 L33.length)))] ++ va_pl L f) := hD
        have hb33 := qtR_b hlt (show qtR bf n p31 = some (j33, L33) from hw)
        obtain ⟨ha33, he33⟩ := hb33
        have hqt : qtR bf n (skipB bf n i) = some (j33, L33) := by rw [← h_p31]; exact hw
        have hqz : E qn33 = 0 := Classical.byContradiction (fun h => plD_new (X := [(jr, .inr (1, [.ref h0, .int dp, .int md, va_rf la])), (h0, .inr (8, [.ref qb, .ref qu, .int (nI L33.length), .int ln, .int (nI n), .int (nI (j33 + 1)), .int pl])), (qb, .inl (cB, 4096, .inl bf)), (qu, .inl (cI, 4096, .inl ((wrL ug 0 L33))))]) hD (hO.inL h))
        have hnL := plD_new (X := [(jr, .inr (1, [.ref h0, .int dp, .int md, va_rf la])), (h0, .inr (8, [.ref qb, .ref qu, .int (nI L33.length), .int ln, .int (nI n), .int (nI (j33 + 1)), .int pl])), (qb, .inl (cB, 4096, .inl bf)), (qu, .inl (cI, 4096, .inl ((wrL ug 0 L33))))]) hD
        have hP := plP_push (X := [(jr, .inr (1, [.ref h0, .int dp, .int md, va_rf la])), (h0, .inr (8, [.ref qb, .ref qu, .int (nI L33.length), .int ln, .int (nI n), .int (nI (j33 + 1)), .int pl])), (qb, .inl (cB, 4096, .inl bf)), (qu, .inl (cI, 4096, .inl ((wrL ug 0 L33))))]) hP hnL
        have hD := plD_push (X := [(jr, .inr (1, [.ref h0, .int dp, .int md, va_rf la])), (h0, .inr (8, [.ref qb, .ref qu, .int (nI L33.length), .int ln, .int (nI n), .int (nI (j33 + 1)), .int pl])), (qb, .inl (cB, 4096, .inl bf)), (qu, .inl (cI, 4096, .inl ((wrL ug 0 L33))))]) hD hnL
        have hO1 := hO.addT (g := va_cpy (wrL ug 0 L33) (fun _ => 0) 0 0 L33.length) hqz (show L33.length ≤ 4096 by omega)
        obtain ⟨E1, hE1⟩ : ∃ z, z = va_up E qn33 4 := ⟨_, rfl⟩
        obtain ⟨f1, hf1⟩ : ∃ z, z = va_up f qn33 (tE cI L33.length (va_cpy (wrL ug 0 L33) (fun _ => 0) 0 0 L33.length)) := ⟨_, rfl⟩
        rw [← hE1, ← hf1] at hO1
        have hP : va_P (dC, dI) classes ([(jr, .inr (1, [.ref h0, .int dp, .int md, va_rf la])), (h0, .inr (8, [.ref qb, .ref qu, .int (nI L33.length), .int ln, .int (nI n), .int (nI (j33 + 1)), .int pl])), (qb, .inl (cB, 4096, .inl bf)), (qu, .inl (cI, 4096, .inl ((wrL ug 0 L33))))] ++ va_pl ((L ++ [qn33])) f1) H := by rw [hf1]; exact hP
        have hD : va_D A ([(jr, .inr (1, [.ref h0, .int dp, .int md, va_rf la])), (h0, .inr (8, [.ref qb, .ref qu, .int (nI L33.length), .int ln, .int (nI n), .int (nI (j33 + 1)), .int pl])), (qb, .inl (cB, 4096, .inl bf)), (qu, .inl (cI, 4096, .inl ((wrL ug 0 L33))))] ++ va_pl ((L ++ [qn33])) f1) := by rw [hf1]; exact hD
        have hEq : E1 qn33 = 4 := by rw [hE1]; exact va_up_self _ _ _
        have hEX : EX E E1 := by rw [hE1]; exact EX.new hqz
        have hfk : ∀ a, E a ≠ 0 → f1 a = f a := fun a ha => by rw [hf1]; exact va_up_ne _ _ (fun e => ha (e ▸ hqz))
        have hnw : ∀ a, E a = 0 → E1 a ≠ 1 := fun a ha h1 => by
          rw [hE1] at h1
          by_cases e : a = qn33
          · rw [e, va_up_self] at h1; cases h1
          · rw [va_up_ne _ _ e, ha] at h1; cases h1
        have etx : txL f1 qn33 = L33 := (txL_t (by rw [hf1]; exact va_up_self _ _ _)).trans tx_list
        have hN1 : NMs f1 ms nms := hnm.keep hO (fun j a h => (hms j a h).2.1) hfk
        refine lv_astore_n (lv' := [(3, .ref qn33), (2, .int (nI p31)), (0, .ref jr), (1, .ref b21)]) hx hb d_JsonReader_newName_42 rfl hl (by decide) rfl (fun ls hl => ?_)
        refine lv_aload_n hx hb d_JsonReader_newName_43 rfl (lv_at hl 3 rfl) ?_
        refine lv_astore (lv' := [(4, .ref b21), (3, .ref qn33), (2, .int (nI p31)), (0, .ref jr), (1, .ref b21)]) hx hb d_JsonReader_newName_44 hl (by decide) rfl (fun ls hl => ?_)
        have hl : lv_has ls 5 [(4, va_rf (ms[0]?)), (3, .ref qn33), (2, .int (nI p31)), (0, .ref jr), (1, .ref b21)] := by rw [← hfo]; exact hl
        refine w_loop (D := (dC, dI)) (cl := classes) (A := A) (H0 := s.heap) (nL := 5) 46 (σ := Nat) (fun j => j ≤ ms.length ∧ ∀ k a, k < j → ms[k]? = some a → nmL f1 a ≠ some L33) (fun j => ms.length + 1 - j) (fun j => [(jr, .inr (1, [.ref h0, .int dp, .int md, va_rf la])), (h0, .inr (8, [.ref qb, .ref qu, .int (nI L33.length), .int ln, .int (nI n), .int (nI (j33 + 1)), .int pl])), (qb, .inl (cB, 4096, .inl bf)), (qu, .inl (cI, 4096, .inl ((wrL ug 0 L33))))] ++ va_pl ((L ++ [qn33])) f1) (fun j => [(0, .ref jr), (2, .int (nI p31)), (3, .ref qn33), (4, va_rf (ms[j]?))]) ?_ 0 ⟨Nat.zero_le _, fun k a h => absurd h (Nat.not_lt_zero _)⟩ hP hD hS (lv_sub hl [3, 2, 1, 0] rfl)
        rintro j H locs ls hI ih hP hD hS hl
        have hP : va_P (dC, dI) classes ([(jr, .inr (1, [.ref h0, .int dp, .int md, va_rf la])), (h0, .inr (8, [.ref qb, .ref qu, .int (nI L33.length), .int ln, .int (nI n), .int (nI (j33 + 1)), .int pl])), (qb, .inl (cB, 4096, .inl bf)), (qu, .inl (cI, 4096, .inl ((wrL ug 0 L33))))] ++ va_pl ((L ++ [qn33])) f1) H := hP
        have hD : va_D A ([(jr, .inr (1, [.ref h0, .int dp, .int md, va_rf la])), (h0, .inr (8, [.ref qb, .ref qu, .int (nI L33.length), .int ln, .int (nI n), .int (nI (j33 + 1)), .int pl])), (qb, .inl (cB, 4096, .inl bf)), (qu, .inl (cI, 4096, .inl ((wrL ug 0 L33))))] ++ va_pl ((L ++ [qn33])) f1) := hD
        have hl : lv_has ls 5 [(0, .ref jr), (2, .int (nI p31)), (3, .ref qn33), (4, va_rf (ms[j]?))] := hl
        obtain ⟨hI, hjn⟩ := hI
        have hj : j ≤ ms.length := hI
        have hjn : ∀ k a, k < j → ms[k]? = some a → nmL f1 a ≠ some L33 := hjn
        rcases hoj : ms[j]? with _ | a9
        · rw [hoj] at hl
          have hl : lv_has ls 5 [(0, .ref jr), (2, .int (nI p31)), (3, .ref qn33), (4, .null)] := hl
          have hnin : ¬ L33 ∈ nms := hN1.nn (fun k a h => hjn k a (by have h1 := (List.getElem?_eq_some_iff.mp h).1; have h2 := List.getElem?_eq_none_iff.mp hoj; omega) h)
          refine lv_aloadN hx hb d_JsonReader_newName_46 (lv_at hl 3 rfl) ?_
          refine lv_ifnullN (tgt := 81) hx hb d_JsonReader_newName_48 (by decide) ?_
          refine lv_aload_n hx hb d_JsonReader_newName_81 rfl (lv_at hl 0 rfl) ?_
          refine va_get (D := (dC, dI)) (ci := 1) (v := .ref h0) (C := R_JsonReader) (T := F_JsonReader) (N := 4) hx hb hts in_JsonReader hown hK hP 0 rfl rfl 0 (by decide) (hts _ w_80) (fun _ h9 => h9) rfl d_JsonReader_newName_82 ?_
          have hPc := hP.sub (ws' := [(h0, .inr (8, [.ref qb, .ref qu, .int (nI L33.length), .int ln, .int (nI n), .int (nI (j33 + 1)), .int pl])), (qb, .inl (cB, 4096, .inl bf))]) [1, 2] rfl
          have hDc := hD.sub (ws' := [(h0, .inr (8, [.ref qb, .ref qu, .int (nI L33.length), .int ln, .int (nI n), .int (nI (j33 + 1)), .int pl])), (qb, .inl (cB, 4096, .inl bf))]) [1, 2] (by decide) rfl
          have hFc := va_free (wc := [(h0, .inr (8, [.ref qb, .ref qu, .int (nI L33.length), .int ln, .int (nI n), .int (nI (j33 + 1)), .int pl])), (qb, .inl (cB, 4096, .inl bf))]) hD hS hA [1, 2] rfl
          have hKc := hK.sub (tys' := [(cB, .byte)]) [0] rfl
          refine va_callv (va_runV (As := []) (rest := []) ⟨hx, hb, hml, hown, hts⟩ (c_Tape_skipBlanks l dC dI cB h0 qb H (.ref qu) ((nI L33.length)) ln pl bf n ((j33 + 1)) hn0 (by omega)) (cwV 0 hts (gt_V (own := R_JsonReader) (C := R_Tape) (i := 42) (y := y_Tape_skipBlanks) i_Tape_skipBlanks z_298 z_299 z_300 w_2) rfl rfl rfl (by decide +kernel) ⟨Nat.le_of_ble_eq_true rfl, Nat.le_of_ble_eq_true rfl⟩) ⟨mp_blind, va_recv hK hP (ci := 8) (q0 := 1) rfl rfl, fun U hU hW => ⟨rfl, hU, by rw [hU]; exact hPc, va_K.moved hW.alike hKc, hDc.weaken (fun _ _ _ _ => trivial)⟩⟩ rfl rfl hl.1 rfl (lv_room (Nat.le_of_ble_eq_true rfl)) d_JsonReader_newName_85 ⟨by show (0 + 1) + 0 ≤ 2; omega, by show (0 + L33.length) + 0 ≤ 12 + (n - i); omega⟩) hS (fun q _ h => hFc q h) hFc (fun _u t9 H1 locs ht hvm hw hB hz1 hk1 hS => ?_)
          obtain ⟨hP1, hK1, hD1⟩ := hB
          rw [ht] at hP1
          obtain ⟨hP, hD⟩ := va_joinQ (wr := [(jr, .inr (1, [.ref h0, .int dp, .int md, va_rf la])), (qu, .inl (cI, 4096, .inl ((wrL ug 0 L33))))]) (w1 := [(h0, .inr (8, [.ref qb, .ref qu, .int (nI L33.length), .int ln, .int (nI n), .int (nI (skipB bf n ((j33 + 1)))), .int pl])), (qb, .inl (cB, 4096, .inl bf))]) hP hD [1, 2] [0, 3] rfl rfl (by decide) (by decide) hk1 hFc hP1 hD1
          generalize H1 = H at hP hS ⊢
          have hP : va_P (dC, dI) classes ([(jr, .inr (1, [.ref h0, .int dp, .int md, va_rf la])), (qu, .inl (cI, 4096, .inl ((wrL ug 0 L33)))), (h0, .inr (8, [.ref qb, .ref qu, .int (nI L33.length), .int ln, .int (nI n), .int (nI (skipB bf n ((j33 + 1)))), .int pl])), (qb, .inl (cB, 4096, .inl bf))] ++ va_pl ((L ++ [qn33])) f1) H := hP
          have hD : va_D A ([(jr, .inr (1, [.ref h0, .int dp, .int md, va_rf la])), (qu, .inl (cI, 4096, .inl ((wrL ug 0 L33)))), (h0, .inr (8, [.ref qb, .ref qu, .int (nI L33.length), .int ln, .int (nI n), .int (nI (skipB bf n ((j33 + 1)))), .int pl])), (qb, .inl (cB, 4096, .inl bf))] ++ va_pl ((L ++ [qn33])) f1) := hD
          have hP := hP.part (cx := [(jr, .inr (1, [.ref h0, .int dp, .int md, va_rf la])), (h0, .inr (8, [.ref qb, .ref qu, .int (nI L33.length), .int ln, .int (nI n), .int (nI (skipB bf n ((j33 + 1)))), .int pl])), (qb, .inl (cB, 4096, .inl bf)), (qu, .inl (cI, 4096, .inl ((wrL ug 0 L33))))]) [0, 2, 3, 1] rfl
          have hD := hD.part (cx := [(jr, .inr (1, [.ref h0, .int dp, .int md, va_rf la])), (h0, .inr (8, [.ref qb, .ref qu, .int (nI L33.length), .int ln, .int (nI n), .int (nI (skipB bf n ((j33 + 1)))), .int pl])), (qb, .inl (cB, 4096, .inl bf)), (qu, .inl (cI, 4096, .inl ((wrL ug 0 L33))))]) [0, 2, 3, 1] (by decide) rfl
          obtain ⟨p34, h_p34⟩ : ∃ z, z = skipB bf n ((j33 + 1)) := ⟨_, rfl⟩
          have hb_p34 := skip_b (f := bf) (show ((j33 + 1)) ≤ n by omega)
          rw [← h_p34] at hP hD hb_p34
          have hP : va_P (dC, dI) classes ([(jr, .inr (1, [.ref h0, .int dp, .int md, va_rf la])), (h0, .inr (8, [.ref qb, .ref qu, .int (nI L33.length), .int ln, .int (nI n), .int (nI p34), .int pl])), (qb, .inl (cB, 4096, .inl bf)), (qu, .inl (cI, 4096, .inl ((wrL ug 0 L33))))] ++ va_pl ((L ++ [qn33])) f1) H := hP
          have hD : va_D A ([(jr, .inr (1, [.ref h0, .int dp, .int md, va_rf la])), (h0, .inr (8, [.ref qb, .ref qu, .int (nI L33.length), .int ln, .int (nI n), .int (nI p34), .int pl])), (qb, .inl (cB, 4096, .inl bf)), (qu, .inl (cI, 4096, .inl ((wrL ug 0 L33))))] ++ va_pl ((L ++ [qn33])) f1) := hD
          refine lv_aload_n hx hb d_JsonReader_newName_88 rfl (lv_at hl 0 rfl) ?_
          refine va_get (D := (dC, dI)) (ci := 1) (v := .ref h0) (C := R_JsonReader) (T := F_JsonReader) (N := 4) hx hb hts in_JsonReader hown hK hP 0 rfl rfl 0 (by decide) (hts _ w_80) (fun _ h9 => h9) rfl d_JsonReader_newName_89 ?_
          refine lv_bipush (v := 58) hx hb d_JsonReader_newName_92 (by decide) ?_
          have hPc := hP.sub (ws' := [(h0, .inr (8, [.ref qb, .ref qu, .int (nI L33.length), .int ln, .int (nI n), .int (nI p34), .int pl])), (qb, .inl (cB, 4096, .inl bf))]) [1, 2] rfl
          have hDc := hD.sub (ws' := [(h0, .inr (8, [.ref qb, .ref qu, .int (nI L33.length), .int ln, .int (nI n), .int (nI p34), .int pl])), (qb, .inl (cB, 4096, .inl bf))]) [1, 2] (by decide) rfl
          have hFc := va_free (wc := [(h0, .inr (8, [.ref qb, .ref qu, .int (nI L33.length), .int ln, .int (nI n), .int (nI p34), .int pl])), (qb, .inl (cB, 4096, .inl bf))]) hD hS hA [1, 2] rfl
          have hKc := hK.sub (tys' := [(cB, .byte)]) [0] rfl
          refine w_same (fun hq0 => ?_)
          refine vx_callv (vx_runV (As := [.int 58]) (rest := []) ⟨hx, hb, hml, hown, hts⟩ (c_Tape_take l hl9 dC dI cB h0 qb H (.ref qu) ((nI L33.length)) ln pl bf n p34 58 hn0 (by omega)) (cwV 1 hts (gt_V (own := R_JsonReader) (C := R_Tape) (i := 116) (y := y_Tape_take) i_Tape_take z_446 w_437 w_438 w_2) rfl rfl rfl (by decide +kernel) ⟨Nat.le_of_ble_eq_true rfl, Nat.le_of_ble_eq_true rfl⟩) ⟨mx_blind, va_recv hK hP (ci := 8) (q0 := 1) rfl rfl, fun U hU hW => ⟨rfl, ⟨hU, by rw [hU]; exact hPc, va_K.moved hW.alike hKc, hDc.weaken (fun _ _ _ _ => trivial)⟩, hN.warm hW, by rw [hU]; exact ZX.moved' hW.alike (ZX.narrow' (ZX.kept' hZ hS.2.1) hFc)⟩⟩ rfl rfl hl.1 rfl (lv_room (Nat.le_of_ble_eq_true rfl)) d_JsonReader_newName_94 ⟨by show (0 + 1) + 1 ≤ 2; omega, by show (0 + L33.length) + 6 ≤ 12 + (n - i); omega⟩) hS (fun q _ h => hFc q h) hFc (fun q _ h => hFc q h) (fun En ce q9 _u t9 H1 locs ht hvm hw hB hz1 hk1 hS hce hcv hcl => ?_) (fun _u t9 H1 locs ht hvm hw hB hz1 hk1 hS => ?_)
          · obtain ⟨hEn, hP1, hK1, hD1⟩ := hB
            rw [ht] at hP1
            obtain ⟨hP, hD⟩ := va_joinQ (wr := [(jr, .inr (1, [.ref h0, .int dp, .int md, va_rf la])), (qu, .inl (cI, 4096, .inl ((wrL ug 0 L33))))]) (w1 := [(h0, .inr (8, [.ref qb, .ref qu, .int (nI L33.length), .int ln, .int (nI n), .int (nI p34), .int (nI p34)])), (qb, .inl (cB, 4096, .inl bf))]) hP hD [1, 2] [0, 3] rfl rfl (by decide) (by decide) hk1 hFc hP1 hD1
            generalize H1 = H at hP hS hce ⊢
            have hP : va_P (dC, dI) classes ([(jr, .inr (1, [.ref h0, .int dp, .int md, va_rf la])), (qu, .inl (cI, 4096, .inl ((wrL ug 0 L33)))), (h0, .inr (8, [.ref qb, .ref qu, .int (nI L33.length), .int ln, .int (nI n), .int (nI p34), .int (nI p34)])), (qb, .inl (cB, 4096, .inl bf))] ++ va_pl ((L ++ [qn33])) f1) H := hP
            have hD : va_D A ([(jr, .inr (1, [.ref h0, .int dp, .int md, va_rf la])), (qu, .inl (cI, 4096, .inl ((wrL ug 0 L33)))), (h0, .inr (8, [.ref qb, .ref qu, .int (nI L33.length), .int ln, .int (nI n), .int (nI p34), .int (nI p34)])), (qb, .inl (cB, 4096, .inl bf))] ++ va_pl ((L ++ [qn33])) f1) := hD
            have hP := hP.part (cx := [(jr, .inr (1, [.ref h0, .int dp, .int md, va_rf la])), (h0, .inr (8, [.ref qb, .ref qu, .int (nI L33.length), .int ln, .int (nI n), .int (nI p34), .int (nI p34)])), (qb, .inl (cB, 4096, .inl bf)), (qu, .inl (cI, 4096, .inl ((wrL ug 0 L33))))]) [0, 2, 3, 1] rfl
            have hD := hD.part (cx := [(jr, .inr (1, [.ref h0, .int dp, .int md, va_rf la])), (h0, .inr (8, [.ref qb, .ref qu, .int (nI L33.length), .int ln, .int (nI n), .int (nI p34), .int (nI p34)])), (qb, .inl (cB, 4096, .inl bf)), (qu, .inl (cI, 4096, .inl ((wrL ug 0 L33))))]) [0, 2, 3, 1] (by decide) rfl
            have hP := plP_pre hP
            have hD := plD_pre hD
            have hP : va_P (dC, dI) classes ([(jr, .inr (1, [.ref h0, .int dp, .int md, va_rf la])), (h0, .inr (8, [.ref qb, .ref qu, .int (nI L33.length), .int ln, .int (nI n), .int (nI p34), .int (nI p34)])), (qb, .inl (cB, 4096, .inl bf)), (qu, .inl (cI, 4096, .inl ((wrL ug 0 L33))))] ++ va_pl L f) H := by rw [← va_pl_off hnL]; rw [hf1] at hP; exact hP
            have hD : va_D A ([(jr, .inr (1, [.ref h0, .int dp, .int md, va_rf la])), (h0, .inr (8, [.ref qb, .ref qu, .int (nI L33.length), .int ln, .int (nI n), .int (nI p34), .int (nI p34)])), (qb, .inl (cB, 4096, .inl bf)), (qu, .inl (cI, 4096, .inl ((wrL ug 0 L33))))] ++ va_pl L f) := by rw [← va_pl_off hnL]; rw [hf1] at hD; exact hD
            have hno : jNam bf n nms i = none := jNam_4 h34 hqt (by rw [← h_p34]; exact hw)
            exact vx_out (fun x hx => (hex x hx).elim) hlocks hce hcv hcl (fun t9 ht2 ha => ⟨(nI p34, (nI L33.length), nI p34, (wrL ug 0 L33)), hno, ⟨hEn, by rw [ht2]; exact hP, va_K.moved ha hK, hD⟩, hS.F ht2⟩) hS.2.2 (by show (0 + 1) + 1 ≤ 2; omega) (by show (0 + L33.length) + (6) ≤ 12 + (n - i); omega)
          · obtain ⟨⟨hP1, hK1, hD1⟩, hz9⟩ := hB
            rw [ht] at hP1
            rw [ht] at hz9
            refine w_tight (hq0.trans hz9) ?_
            have hq0 := hq0.trans hz9
            obtain ⟨hP, hD⟩ := va_joinQ (wr := [(jr, .inr (1, [.ref h0, .int dp, .int md, va_rf la])), (qu, .inl (cI, 4096, .inl ((wrL ug 0 L33))))]) (w1 := [(h0, .inr (8, [.ref qb, .ref qu, .int (nI L33.length), .int ln, .int (nI n), .int (nI (p34 + 1)), .int pl])), (qb, .inl (cB, 4096, .inl bf))]) hP hD [1, 2] [0, 3] rfl rfl (by decide) (by decide) hk1 hFc hP1 hD1
            generalize H1 = H at hP hS hq0 ⊢
            have hP : va_P (dC, dI) classes ([(jr, .inr (1, [.ref h0, .int dp, .int md, va_rf la])), (qu, .inl (cI, 4096, .inl ((wrL ug 0 L33)))), (h0, .inr (8, [.ref qb, .ref qu, .int (nI L33.length), .int ln, .int (nI n), .int (nI (p34 + 1)), .int pl])), (qb, .inl (cB, 4096, .inl bf))] ++ va_pl ((L ++ [qn33])) f1) H := hP
            have hD : va_D A ([(jr, .inr (1, [.ref h0, .int dp, .int md, va_rf la])), (qu, .inl (cI, 4096, .inl ((wrL ug 0 L33)))), (h0, .inr (8, [.ref qb, .ref qu, .int (nI L33.length), .int ln, .int (nI n), .int (nI (p34 + 1)), .int pl])), (qb, .inl (cB, 4096, .inl bf))] ++ va_pl ((L ++ [qn33])) f1) := hD
            have hP := hP.part (cx := [(jr, .inr (1, [.ref h0, .int dp, .int md, va_rf la])), (h0, .inr (8, [.ref qb, .ref qu, .int (nI L33.length), .int ln, .int (nI n), .int (nI (p34 + 1)), .int pl])), (qb, .inl (cB, 4096, .inl bf)), (qu, .inl (cI, 4096, .inl ((wrL ug 0 L33))))]) [0, 2, 3, 1] rfl
            have hD := hD.part (cx := [(jr, .inr (1, [.ref h0, .int dp, .int md, va_rf la])), (h0, .inr (8, [.ref qb, .ref qu, .int (nI L33.length), .int ln, .int (nI n), .int (nI (p34 + 1)), .int pl])), (qb, .inl (cB, 4096, .inl bf)), (qu, .inl (cI, 4096, .inl ((wrL ug 0 L33))))]) [0, 2, 3, 1] (by decide) rfl
            have ht35 : hereV bf n p34 = 58 := hw
            have hl35 := here_lc ht35 (by decide)
            refine lv_aload_n hx hb d_JsonReader_newName_97 rfl (lv_at hl 2 rfl) ?_
            have hok : jNam bf n nms i = some (txL f1 qn33, p34 + 1) := by rw [etx, h_p34]; exact jNam_ok h34 hqt hnin (by rw [← h_p34]; exact ht35)
            refine w_same (fun hq => ?_)
            refine W.widen (k := 2) (n := 12 + (n - i)) (by show (0 + 1) ≤ 2; omega) (by show (0 + L33.length) ≤ 12 + (n - i); omega) ?_
            refine vx_ret ?_
            exact W.aret (v := .ref qn33) hx hb hr (Or.inr ⟨_, rfl⟩) (Or.inr ⟨_, rfl⟩) (fun t9 ht hW => ⟨⟨(qn33, (p34 + 1), (nI L33.length), (wrL ug 0 L33), E1, f1), qn33, rfl, ⟨by show i + 2 ≤ (p34 + 1); omega, by show (p34 + 1) ≤ n; omega, hO1, hqz, hEX, hEq, hfk, hnw, hok⟩, ⟨by rw [ht]; exact hP, va_K.moved hW.alike hK, hD⟩, by rw [ht]; exact ⟨hq.mono (by show (0 + 1) ≤ 1; omega) (by show (0 + L33.length) ≤ (p34 + 1) - i; omega), rfl⟩⟩, hS.F ht⟩) hS.2.2 d_JsonReader_newName_98
        · rw [hoj] at hl
          have hl : lv_has ls 5 [(0, .ref jr), (2, .int (nI p31)), (3, .ref qn33), (4, .ref a9)] := hl
          have ha9 := hms j a9 hoj
          have hjl := (List.getElem?_eq_some_iff.mp hoj).1
          have ha91 : E1 a9 = 3 := (hEX a9 ha9.1).trans ha9.2.2.1
          refine lv_aload hx hb d_JsonReader_newName_46 (lv_at hl 3 rfl) ?_
          refine lv_ifnull hx hb d_JsonReader_newName_48 ?_
          refine lv_aload hx hb d_JsonReader_newName_51 (lv_at hl 3 rfl) ?_
          obtain ⟨kd36, nu36, tx36, me36, pa36, na36, ix36, nm36, no36, sp36, ef36, hv36⟩ := hO1.val ((Or.inr (Or.inr ha91)))
          rcases na36 with _ | b37
          · exact absurd rfl (hv36.2.2.2.2.2.2.2 ha91).1
          · refine vq_get (D := (dC, dI)) (ci := 9) (v := .ref b37) (C := R_Value) (T := F_Value) (N := 10) hx hb hts in_Value hown hK hP (hO1.inV (Or.inr (Or.inr ha91))) ef36 rfl 5 (by decide) (hts _ z_333) (fun _ h9 => h9) rfl d_JsonReader_newName_53 ?_
            refine lv_aload_n hx hb d_JsonReader_newName_56 rfl (lv_at hl 2 rfl) ?_
            refine vp_callSi (va_Run.run (va_runSN (As := [.ref b37, .ref qn33]) (rest := []) ⟨hx, hb, hml, hown, hts⟩ (f_QB_sameText l dC dI H cI cV E1 lv (L ++ [qn33]) f1 hO1 b37 qn33 (hv36.2.2.2.1 b37 rfl) (hEq)) (⟨va_cnB (host := "QueryBench") 2 hts (gt_code i_QB_sameText) rfl rfl rfl (hN _ nz_443) (hts _ w_1) (by decide +kernel) ⟨Nat.le_of_ble_eq_true rfl, Nat.le_of_ble_eq_true rfl⟩, hts _ z_444, trivial⟩) ⟨mq_blind, fun U hU hW => ⟨rfl, hU, by rw [hU]; exact hP.part (cx := []) [] rfl, va_K.moved hW.alike (hK.sub (tys' := [(cI, .int), (cV, .object "QueryBench$Value")]) [1, 2] rfl), hN.warm hW⟩⟩ rfl rfl hl.1 rfl (lv_room (Nat.le_of_ble_eq_true rfl)) d_JsonReader_newName_57 ⟨by show (0 + 1) + 0 ≤ 2; omega, by show (0 + L33.length) + 0 ≤ 12 + (n - i); omega⟩)) (fun r38 h_r38 => ?_)
            refine lv_if_eq (tgt := 71) hx hb d_JsonReader_newName_60 (by decide) (fun c60 => ?_) (fun c60 => ?_)
            · refine lv_aload hx hb d_JsonReader_newName_71 (lv_at hl 3 rfl) ?_
              rcases nm36 with _ | b39
              · refine vq_get (D := (dC, dI)) (ci := 9) (v := .null) (C := R_Value) (T := F_Value) (N := 10) hx hb hts in_Value hown hK hP (hO1.inV (Or.inr (Or.inr ha91))) ef36 rfl 7 (by decide) (hts _ z_336) (fun _ h9 => h9) rfl d_JsonReader_newName_73 ?_
                refine lv_astoreN (lv' := [(4, .null), (0, .ref jr), (2, .int (nI p31)), (3, .ref qn33)]) hx hb d_JsonReader_newName_76 hl (by decide) rfl (fun ls hl => ?_)
                refine lv_goto (tgt := 46) hx hb d_JsonReader_newName_78 (by decide) ?_
                have hnn := (nmF_v ((hfk a9 ha9.1).symm.trans ef36)).symm.trans ha9.2.2.2
                have hl : lv_has ls 5 [(4, va_rf (ms[j + 1]?)), (0, .ref jr), (2, .int (nI p31)), (3, .ref qn33)] := by rw [← hnn]; exact hl
                have hjn2 : ∀ k a, k < j + 1 → ms[k]? = some a → nmL f1 a ≠ some L33 := fun k a hk ha e => by
                  by_cases ek : k = j
                  · rw [ek, hoj] at ha
                    obtain rfl := Option.some.inj ha
                    rw [nmL_v ef36] at e
                    have e9 : txL f1 b37 = L33 := Option.some.inj e
                    rcases h_r38.2 with h9 | h9
                    · exact absurd (h9.1.symm.trans c60) (by decide)
                    · exact h9.2 (e9.trans etx.symm)
                  · exact hjn k a (by omega) ha e
                exact ih (j + 1) _ _ _ ⟨show j + 1 ≤ ms.length by omega, hjn2⟩ (by show ms.length + 1 - (j + 1) < ms.length + 1 - j; omega) hP hD hS (lv_sub hl [1, 2, 3, 0] rfl)
              · refine vq_get (D := (dC, dI)) (ci := 9) (v := .ref b39) (C := R_Value) (T := F_Value) (N := 10) hx hb hts in_Value hown hK hP (hO1.inV (Or.inr (Or.inr ha91))) ef36 rfl 7 (by decide) (hts _ z_336) (fun _ h9 => h9) rfl d_JsonReader_newName_73 ?_
                refine lv_astore (lv' := [(4, .ref b39), (0, .ref jr), (2, .int (nI p31)), (3, .ref qn33)]) hx hb d_JsonReader_newName_76 hl (by decide) rfl (fun ls hl => ?_)
                refine lv_goto (tgt := 46) hx hb d_JsonReader_newName_78 (by decide) ?_
                have hnn := (nmF_v ((hfk a9 ha9.1).symm.trans ef36)).symm.trans ha9.2.2.2
                have hl : lv_has ls 5 [(4, va_rf (ms[j + 1]?)), (0, .ref jr), (2, .int (nI p31)), (3, .ref qn33)] := by rw [← hnn]; exact hl
                have hjn2 : ∀ k a, k < j + 1 → ms[k]? = some a → nmL f1 a ≠ some L33 := fun k a hk ha e => by
                  by_cases ek : k = j
                  · rw [ek, hoj] at ha
                    obtain rfl := Option.some.inj ha
                    rw [nmL_v ef36] at e
                    have e9 : txL f1 b37 = L33 := Option.some.inj e
                    rcases h_r38.2 with h9 | h9
                    · exact absurd (h9.1.symm.trans c60) (by decide)
                    · exact h9.2 (e9.trans etx.symm)
                  · exact hjn k a (by omega) ha e
                exact ih (j + 1) _ _ _ ⟨show j + 1 ≤ ms.length by omega, hjn2⟩ (by show ms.length + 1 - (j + 1) < ms.length + 1 - j; omega) hP hD hS (lv_sub hl [1, 2, 3, 0] rfl)
            · refine lv_aload_n hx hb d_JsonReader_newName_63 rfl (lv_at hl 0 rfl) ?_
              refine va_get (D := (dC, dI)) (ci := 1) (v := .ref h0) (C := R_JsonReader) (T := F_JsonReader) (N := 4) hx hb hts in_JsonReader hown hK hP 0 rfl rfl 0 (by decide) (hts _ w_80) (fun _ h9 => h9) rfl d_JsonReader_newName_64 ?_
              refine lv_iload_n hx hb d_JsonReader_newName_67 rfl (lv_at hl 1 rfl) ?_
              have hPc := hP.sub (ws' := [(h0, .inr (8, [.ref qb, .ref qu, .int (nI L33.length), .int ln, .int (nI n), .int (nI (j33 + 1)), .int pl])), (qb, .inl (cB, 4096, .inl bf))]) [1, 2] rfl
              have hDc := hD.sub (ws' := [(h0, .inr (8, [.ref qb, .ref qu, .int (nI L33.length), .int ln, .int (nI n), .int (nI (j33 + 1)), .int pl])), (qb, .inl (cB, 4096, .inl bf))]) [1, 2] (by decide) rfl
              have hFc := va_free (wc := [(h0, .inr (8, [.ref qb, .ref qu, .int (nI L33.length), .int ln, .int (nI n), .int (nI (j33 + 1)), .int pl])), (qb, .inl (cB, 4096, .inl bf))]) hD hS hA [1, 2] rfl
              have hKc := hK.sub (tys' := [(cB, .byte)]) [0] rfl
              refine w_same (fun hq0 => ?_)
              refine vx_callv (vx_runV (As := [.int (nI p31)]) (rest := []) ⟨hx, hb, hml, hown, hts⟩ (c_Tape_fail l hl9 dC dI cB h0 qb H (.ref qu) ((nI L33.length)) ln (nI n) (nI ((j33 + 1))) pl bf ((nI p31))) (cwV 1 hts (gt_V (own := R_JsonReader) (C := R_Tape) (i := 38) (y := y_Tape_fail) i_Tape_fail z_370 w_371 w_372 w_2) rfl rfl rfl (by decide +kernel) ⟨Nat.le_of_ble_eq_true rfl, Nat.le_of_ble_eq_true rfl⟩) ⟨mx_blind, va_recv hK hP (ci := 8) (q0 := 1) rfl rfl, fun U hU hW => ⟨rfl, ⟨hU, by rw [hU]; exact hPc, va_K.moved hW.alike hKc, hDc.weaken (fun _ _ _ _ => trivial)⟩, hN.warm hW, by rw [hU]; exact ZX.moved' hW.alike (ZX.narrow' (ZX.kept' hZ hS.2.1) hFc)⟩⟩ rfl rfl hl.1 rfl (lv_room (Nat.le_of_ble_eq_true rfl)) d_JsonReader_newName_68 ⟨by show (0 + 1) + 1 ≤ 2; omega, by show (0 + L33.length) + 6 ≤ 12 + (n - i); omega⟩) hS (fun q _ h => hFc q h) hFc (fun q _ h => hFc q h) (fun En ce q9 _u t9 H1 locs ht hvm hw hB hz1 hk1 hS hce hcv hcl => ?_) (fun _u t9 H1 locs ht hvm hw hB hz1 hk1 hS => ?_)
              · obtain ⟨hEn, hP1, hK1, hD1⟩ := hB
                rw [ht] at hP1
                obtain ⟨hP, hD⟩ := va_joinQ (wr := [(jr, .inr (1, [.ref h0, .int dp, .int md, va_rf la])), (qu, .inl (cI, 4096, .inl ((wrL ug 0 L33))))]) (w1 := [(h0, .inr (8, [.ref qb, .ref qu, .int (nI L33.length), .int ln, .int (nI n), .int (nI (j33 + 1)), .int (nI p31)])), (qb, .inl (cB, 4096, .inl bf))]) hP hD [1, 2] [0, 3] rfl rfl (by decide) (by decide) hk1 hFc hP1 hD1
                generalize H1 = H at hP hS hce ⊢
                have hP : va_P (dC, dI) classes ([(jr, .inr (1, [.ref h0, .int dp, .int md, va_rf la])), (qu, .inl (cI, 4096, .inl ((wrL ug 0 L33)))), (h0, .inr (8, [.ref qb, .ref qu, .int (nI L33.length), .int ln, .int (nI n), .int (nI (j33 + 1)), .int (nI p31)])), (qb, .inl (cB, 4096, .inl bf))] ++ va_pl ((L ++ [qn33])) f1) H := hP
                have hD : va_D A ([(jr, .inr (1, [.ref h0, .int dp, .int md, va_rf la])), (qu, .inl (cI, 4096, .inl ((wrL ug 0 L33)))), (h0, .inr (8, [.ref qb, .ref qu, .int (nI L33.length), .int ln, .int (nI n), .int (nI (j33 + 1)), .int (nI p31)])), (qb, .inl (cB, 4096, .inl bf))] ++ va_pl ((L ++ [qn33])) f1) := hD
                have hP := hP.part (cx := [(jr, .inr (1, [.ref h0, .int dp, .int md, va_rf la])), (h0, .inr (8, [.ref qb, .ref qu, .int (nI L33.length), .int ln, .int (nI n), .int (nI (j33 + 1)), .int (nI p31)])), (qb, .inl (cB, 4096, .inl bf)), (qu, .inl (cI, 4096, .inl ((wrL ug 0 L33))))]) [0, 2, 3, 1] rfl
                have hD := hD.part (cx := [(jr, .inr (1, [.ref h0, .int dp, .int md, va_rf la])), (h0, .inr (8, [.ref qb, .ref qu, .int (nI L33.length), .int ln, .int (nI n), .int (nI (j33 + 1)), .int (nI p31)])), (qb, .inl (cB, 4096, .inl bf)), (qu, .inl (cI, 4096, .inl ((wrL ug 0 L33))))]) [0, 2, 3, 1] (by decide) rfl
                have hP := plP_pre hP
                have hD := plD_pre hD
                have hP : va_P (dC, dI) classes ([(jr, .inr (1, [.ref h0, .int dp, .int md, va_rf la])), (h0, .inr (8, [.ref qb, .ref qu, .int (nI L33.length), .int ln, .int (nI n), .int (nI (j33 + 1)), .int (nI p31)])), (qb, .inl (cB, 4096, .inl bf)), (qu, .inl (cI, 4096, .inl ((wrL ug 0 L33))))] ++ va_pl L f) H := by rw [← va_pl_off hnL]; rw [hf1] at hP; exact hP
                have hD : va_D A ([(jr, .inr (1, [.ref h0, .int dp, .int md, va_rf la])), (h0, .inr (8, [.ref qb, .ref qu, .int (nI L33.length), .int ln, .int (nI n), .int (nI (j33 + 1)), .int (nI p31)])), (qb, .inl (cB, 4096, .inl bf)), (qu, .inl (cI, 4096, .inl ((wrL ug 0 L33))))] ++ va_pl L f) := by rw [← va_pl_off hnL]; rw [hf1] at hD; exact hD
                have hno : jNam bf n nms i = none := jNam_3 h34 hqt (hN1.sm hoj (by rw [nmL_v ef36]; show some (txL f1 b37) = _; rcases h_r38.2 with h9 | h9; (· rw [h9.2, etx]); (· exact absurd h9.1 c60)))
                exact vx_out (fun x hx => (hex x hx).elim) hlocks hce hcv hcl (fun t9 ht2 ha => ⟨(nI (j33 + 1), (nI L33.length), (nI p31), (wrL ug 0 L33)), hno, ⟨hEn, by rw [ht2]; exact hP, va_K.moved ha hK, hD⟩, hS.F ht2⟩) hS.2.2 (by show (0 + 1) + 1 ≤ 2; omega) (by show (0 + L33.length) + (6) ≤ 12 + (n - i); omega)
              · obtain ⟨⟨hP1, hK1, hD1⟩, hz9⟩ := hB
                rw [ht] at hP1
                rw [ht] at hz9
                refine w_tight (hq0.trans hz9) ?_
                have hq0 := hq0.trans hz9
                obtain ⟨hP, hD⟩ := va_joinQ (wr := [(jr, .inr (1, [.ref h0, .int dp, .int md, va_rf la])), (qu, .inl (cI, 4096, .inl ((wrL ug 0 L33))))]) (w1 := [(h0, .inr (8, [.ref qb, .ref qu, .int (nI L33.length), .int ln, .int (nI n), .int (nI (j33 + 1)), .int pl])), (qb, .inl (cB, 4096, .inl bf))]) hP hD [1, 2] [0, 3] rfl rfl (by decide) (by decide) hk1 hFc hP1 hD1
                generalize H1 = H at hP hS hq0 ⊢
                have hP : va_P (dC, dI) classes ([(jr, .inr (1, [.ref h0, .int dp, .int md, va_rf la])), (qu, .inl (cI, 4096, .inl ((wrL ug 0 L33)))), (h0, .inr (8, [.ref qb, .ref qu, .int (nI L33.length), .int ln, .int (nI n), .int (nI (j33 + 1)), .int pl])), (qb, .inl (cB, 4096, .inl bf))] ++ va_pl ((L ++ [qn33])) f1) H := hP
                have hD : va_D A ([(jr, .inr (1, [.ref h0, .int dp, .int md, va_rf la])), (qu, .inl (cI, 4096, .inl ((wrL ug 0 L33)))), (h0, .inr (8, [.ref qb, .ref qu, .int (nI L33.length), .int ln, .int (nI n), .int (nI (j33 + 1)), .int pl])), (qb, .inl (cB, 4096, .inl bf))] ++ va_pl ((L ++ [qn33])) f1) := hD
                have hP := hP.part (cx := [(jr, .inr (1, [.ref h0, .int dp, .int md, va_rf la])), (h0, .inr (8, [.ref qb, .ref qu, .int (nI L33.length), .int ln, .int (nI n), .int (nI (j33 + 1)), .int pl])), (qb, .inl (cB, 4096, .inl bf)), (qu, .inl (cI, 4096, .inl ((wrL ug 0 L33))))]) [0, 2, 3, 1] rfl
                have hD := hD.part (cx := [(jr, .inr (1, [.ref h0, .int dp, .int md, va_rf la])), (h0, .inr (8, [.ref qb, .ref qu, .int (nI L33.length), .int ln, .int (nI n), .int (nI (j33 + 1)), .int pl])), (qb, .inl (cB, 4096, .inl bf)), (qu, .inl (cI, 4096, .inl ((wrL ug 0 L33))))]) [0, 2, 3, 1] (by decide) rfl
                exact hw.elim
    · refine lv_aload_n hx hb d_JsonReader_newName_27 rfl (lv_at hl 1 rfl) ?_
      refine va_get (D := (dC, dI)) (ci := 1) (v := .ref h0) (C := R_JsonReader) (T := F_JsonReader) (N := 4) hx hb hts in_JsonReader hown hK hP 0 rfl rfl 0 (by decide) (hts _ w_80) (fun _ h9 => h9) rfl d_JsonReader_newName_28 ?_
      refine lv_iload_n hx hb d_JsonReader_newName_31 rfl (lv_at hl 0 rfl) ?_
      have hPc := hP.sub (ws' := [(h0, .inr (8, [.ref qb, .ref qu, .int uc, .int ln, .int (nI n), .int (nI p31), .int pl])), (qb, .inl (cB, 4096, .inl bf))]) [1, 2] rfl
      have hDc := hD.sub (ws' := [(h0, .inr (8, [.ref qb, .ref qu, .int uc, .int ln, .int (nI n), .int (nI p31), .int pl])), (qb, .inl (cB, 4096, .inl bf))]) [1, 2] (by decide) rfl
      have hFc := va_free (wc := [(h0, .inr (8, [.ref qb, .ref qu, .int uc, .int ln, .int (nI n), .int (nI p31), .int pl])), (qb, .inl (cB, 4096, .inl bf))]) hD hS hA [1, 2] rfl
      have hKc := hK.sub (tys' := [(cB, .byte)]) [0] rfl
      refine w_same (fun hq0 => ?_)
      refine vx_callv (vx_runV (As := [.int (nI p31)]) (rest := []) ⟨hx, hb, hml, hown, hts⟩ (c_Tape_fail l hl9 dC dI cB h0 qb H (.ref qu) uc ln (nI n) (nI p31) pl bf ((nI p31))) (cwV 1 hts (gt_V (own := R_JsonReader) (C := R_Tape) (i := 38) (y := y_Tape_fail) i_Tape_fail z_370 w_371 w_372 w_2) rfl rfl rfl (by decide +kernel) ⟨Nat.le_of_ble_eq_true rfl, Nat.le_of_ble_eq_true rfl⟩) ⟨mx_blind, va_recv hK hP (ci := 8) (q0 := 1) rfl rfl, fun U hU hW => ⟨rfl, ⟨hU, by rw [hU]; exact hPc, va_K.moved hW.alike hKc, hDc.weaken (fun _ _ _ _ => trivial)⟩, hN.warm hW, by rw [hU]; exact ZX.moved' hW.alike (ZX.narrow' (ZX.kept' hZ hS.2.1) hFc)⟩⟩ rfl rfl hl.1 rfl (lv_room (Nat.le_of_ble_eq_true rfl)) d_JsonReader_newName_32 ⟨by show 0 + 1 ≤ 2; omega, by show 0 + 6 ≤ 12 + (n - i); omega⟩) hS (fun q _ h => hFc q h) hFc (fun q _ h => hFc q h) (fun En ce q9 _u t9 H1 locs ht hvm hw hB hz1 hk1 hS hce hcv hcl => ?_) (fun _u t9 H1 locs ht hvm hw hB hz1 hk1 hS => ?_)
      · obtain ⟨hEn, hP1, hK1, hD1⟩ := hB
        rw [ht] at hP1
        obtain ⟨hP, hD⟩ := va_joinQ (wr := [(jr, .inr (1, [.ref h0, .int dp, .int md, va_rf la])), (qu, .inl (cI, 4096, .inl ug))]) (w1 := [(h0, .inr (8, [.ref qb, .ref qu, .int uc, .int ln, .int (nI n), .int (nI p31), .int (nI p31)])), (qb, .inl (cB, 4096, .inl bf))]) hP hD [1, 2] [0, 3] rfl rfl (by decide) (by decide) hk1 hFc hP1 hD1
        generalize H1 = H at hP hS hce ⊢
        have hP : va_P (dC, dI) classes ([(jr, .inr (1, [.ref h0, .int dp, .int md, va_rf la])), (qu, .inl (cI, 4096, .inl ug)), (h0, .inr (8, [.ref qb, .ref qu, .int uc, .int ln, .int (nI n), .int (nI p31), .int (nI p31)])), (qb, .inl (cB, 4096, .inl bf))] ++ va_pl L f) H := hP
        have hD : va_D A ([(jr, .inr (1, [.ref h0, .int dp, .int md, va_rf la])), (qu, .inl (cI, 4096, .inl ug)), (h0, .inr (8, [.ref qb, .ref qu, .int uc, .int ln, .int (nI n), .int (nI p31), .int (nI p31)])), (qb, .inl (cB, 4096, .inl bf))] ++ va_pl L f) := hD
        have hP := hP.part (cx := [(jr, .inr (1, [.ref h0, .int dp, .int md, va_rf la])), (h0, .inr (8, [.ref qb, .ref qu, .int uc, .int ln, .int (nI n), .int (nI p31), .int (nI p31)])), (qb, .inl (cB, 4096, .inl bf)), (qu, .inl (cI, 4096, .inl ug))]) [0, 2, 3, 1] rfl
        have hD := hD.part (cx := [(jr, .inr (1, [.ref h0, .int dp, .int md, va_rf la])), (h0, .inr (8, [.ref qb, .ref qu, .int uc, .int ln, .int (nI n), .int (nI p31), .int (nI p31)])), (qb, .inl (cB, 4096, .inl bf)), (qu, .inl (cI, 4096, .inl ug))]) [0, 2, 3, 1] (by decide) rfl
        have hno : jNam bf n nms i = none := jNam_1 (by rw [← h_p31, ← h_h32]; exact c24)
        exact vx_out (fun x hx => (hex x hx).elim) hlocks hce hcv hcl (fun t9 ht2 ha => ⟨(nI p31, uc, (nI p31), ug), hno, ⟨hEn, by rw [ht2]; exact hP, va_K.moved ha hK, hD⟩, hS.F ht2⟩) hS.2.2 (by show 0 + 1 ≤ 2; omega) (by show 0 + (6) ≤ 12 + (n - i); omega)
      · obtain ⟨⟨hP1, hK1, hD1⟩, hz9⟩ := hB
        rw [ht] at hP1
        rw [ht] at hz9
        refine w_tight (hq0.trans hz9) ?_
        have hq0 := hq0.trans hz9
        obtain ⟨hP, hD⟩ := va_joinQ (wr := [(jr, .inr (1, [.ref h0, .int dp, .int md, va_rf la])), (qu, .inl (cI, 4096, .inl ug))]) (w1 := [(h0, .inr (8, [.ref qb, .ref qu, .int uc, .int ln, .int (nI n), .int (nI p31), .int pl])), (qb, .inl (cB, 4096, .inl bf))]) hP hD [1, 2] [0, 3] rfl rfl (by decide) (by decide) hk1 hFc hP1 hD1
        generalize H1 = H at hP hS hq0 ⊢
        have hP : va_P (dC, dI) classes ([(jr, .inr (1, [.ref h0, .int dp, .int md, va_rf la])), (qu, .inl (cI, 4096, .inl ug)), (h0, .inr (8, [.ref qb, .ref qu, .int uc, .int ln, .int (nI n), .int (nI p31), .int pl])), (qb, .inl (cB, 4096, .inl bf))] ++ va_pl L f) H := hP
        have hD : va_D A ([(jr, .inr (1, [.ref h0, .int dp, .int md, va_rf la])), (qu, .inl (cI, 4096, .inl ug)), (h0, .inr (8, [.ref qb, .ref qu, .int uc, .int ln, .int (nI n), .int (nI p31), .int pl])), (qb, .inl (cB, 4096, .inl bf))] ++ va_pl L f) := hD
        have hP := hP.part (cx := [(jr, .inr (1, [.ref h0, .int dp, .int md, va_rf la])), (h0, .inr (8, [.ref qb, .ref qu, .int uc, .int ln, .int (nI n), .int (nI p31), .int pl])), (qb, .inl (cB, 4096, .inl bf)), (qu, .inl (cI, 4096, .inl ug))]) [0, 2, 3, 1] rfl
        have hD := hD.part (cx := [(jr, .inr (1, [.ref h0, .int dp, .int md, va_rf la])), (h0, .inr (8, [.ref qb, .ref qu, .int uc, .int ln, .int (nI n), .int (nI p31), .int pl])), (qb, .inl (cB, 4096, .inl bf)), (qu, .inl (cI, 4096, .inl ug))]) [0, 2, 3, 1] (by decide) rfl
        exact hw.elim
