theorem z_83 : (.fieldLink "QueryBench$JsonReader" 19 "QueryBench$JsonReader" "made" "I" : Cond) ∈ gtbl := gt_in 83 (by decide +kernel) (by decide +kernel)
theorem z_84 : (.fieldLink "QueryBench$JsonReader" 22 "QueryBench$JsonReader" "latest" "LQueryBench$Value;" : Cond) ∈ gtbl := gt_in 84 (by decide +kernel) (by decide +kernel)
theorem z_306 : (.classLink "QueryBench$JsonReader" 53 "QueryBench$Value" : Cond) ∈ gtbl := gt_in 306 (by decide +kernel) (by decide +kernel)
theorem z_307 : (.instantiable "QueryBench$Value" 10 : Cond) ∈ gtbl := gt_in 307 (by decide +kernel) (by decide +kernel)
theorem z_308 : (.methodLink "QueryBench$JsonReader" 90 ⟨"QueryBench$Value", "<init>", "(I)V"⟩ : Cond) ∈ gtbl := gt_in 308 (by decide +kernel) (by decide +kernel)
theorem z_309 : (.instanceMethod ⟨"QueryBench$Value", "<init>", "(I)V"⟩ : Cond) ∈ gtbl := gt_in 309 (by decide +kernel) (by decide +kernel)
theorem z_311 : (.methodLink "QueryBench$Value" 3 ⟨"java/lang/Object", "<init>", "()V"⟩ : Cond) ∈ gtbl := gt_in 311 (by decide +kernel) (by decide +kernel)
theorem z_337 : (.fieldLink "QueryBench$JsonReader" 92 "QueryBench$Value" "nextOfAll" "LQueryBench$Value;" : Cond) ∈ gtbl := gt_in 337 (by decide +kernel) (by decide +kernel)
abbrev b_Value_init : ByteArray := prog_11_method_1_code
def y_Value_init : MethodName := ⟨"QueryBench$Value", "<init>", "(I)V"⟩
abbrev k_Value_init : Cond := .code y_Value_init b_Value_init 2 none
theorem i_Value_init : k_Value_init ∈ gtbl := gt_in 310 (by decide +kernel) (by decide +kernel)
theorem d_Value_init_0 : decode b_Value_init 0 = .ok (.aload_n 0, 1) := by decide +kernel
theorem d_Value_init_1 : decode b_Value_init 1 = .ok (.invokespecial 3, 3) := by decide +kernel
theorem d_Value_init_4 : decode b_Value_init 4 = .ok (.aload_n 0, 1) := by decide +kernel
theorem d_Value_init_5 : decode b_Value_init 5 = .ok (.iload_n 1, 1) := by decide +kernel
theorem d_Value_init_6 : decode b_Value_init 6 = .ok (.putfield 9, 3) := by decide +kernel
theorem d_Value_init_9 : decode b_Value_init 9 = .ok (.return_, 1) := by decide +kernel
set_option maxHeartbeats 4000000 in
set_option maxRecDepth 100000 in
/-- Value() -/
theorem c_Value_init (l : Launch) (dC : Nat → ClassId) (dI : Nat → Nat → Nat) (sz : Heap) (q : Nat) (k : Int32) : Met l y_Value_init (k_Value_init :: gtbl) ({ frames := 1, cells := 0, slots := 0, locals := 20 }) (va_Pc [.ref q, .int k] (mp dC dI ([(q, .inr (9, [.int 0, .long 0, .null, .null, .null, .null, .int 0, .null, .null, .int 0]))]) [] sz)) (va_Qv (fun (u : Unit) => True) (fun u t9 => mz dC dI ([(q, .inr (9, [.int k, .long 0, .null, .null, .null, .null, .int 0, .null, .null, .int 0]))]) [] (va_A ([(q, .inr (9, [.int 0, .long 0, .null, .null, .null, .null, .int 0, .null, .null, .int 0]))]) sz.size) t9 ∧ szk sz t9.heap (0) (0)) (va_A ([(q, .inr (9, [.int 0, .long 0, .null, .null, .null, .null, .int 0, .null, .null, .int 0]))]) sz.size)) (0) (0) (va_A ([(q, .inr (9, [.int 0, .long 0, .null, .null, .null, .null, .int 0, .null, .null, .int 0]))]) sz.size) := by
  refine Met.ofW (cc := b_Value_init) (maxL := 2) (ret := none) (by decide) rfl ?_
  intro p e s m args below meth c s₁ B hml hv
  obtain ⟨rfl, hsz, hP, hK, hD0⟩ := hv
  have hx := B.exec
  have hb := B.bytes
  have hr := B.returns
  have hts0 := atoms_spec (ws := k_Value_init :: gtbl) B.pre
  have hts := fun w h => hts0 w (List.mem_cons_of_mem _ h)
  have hown : s.vm.findClass R_Value = some m.cls := findClass_of_methodNamed B.named
  have hlocks := B.notSynchronized
  have hin : meth.name = "<init>" := (name_of_methodNamed B.named B.method).1
  subst hsz
  have hD := hD0.self (sz := s.heap.size)
  generalize hAe : va_A ([(q, .inr (9, [.int 0, .long 0, .null, .null, .null, .null, .int 0, .null, .null, .int 0]))]) s.heap.size = A at hD ⊢
  have hA : ∀ q : Nat, s.heap.size ≤ q → A q := fun q h => by rw [← hAe]; exact Or.inr h
  have hS : va_S A s.heap s.heap [] := va_S.rf
  have hP : va_P (dC, dI) classes ([(q, .inr (9, [.int 0, .long 0, .null, .null, .null, .null, .int 0, .null, .null, .int 0]))]) s.heap := hP
  have hl := lv_entry ([.ref q, .int k]) (n := 2) (Nat.le_of_ble_eq_true rfl)
  rw [lg_entry_eq]
  generalize (lg_sl ([.ref q, .int k]) ++ List.replicate (2 - (lg_sl ([.ref q, .int k])).length) Slot.unset).toArray = ls at hl ⊢
  have hl : lv_has ls 2 [(0, .ref q), (1, .int k)] := hl
  refine lv_aload_n hx hb d_Value_init_0 rfl (lv_at hl 0 rfl) ?_
  refine W.objInit hx hb hown (hts _ z_311) (hts _ w_35) (hts _ w_obj) rfl (by rw [hml]; exact hl.1) rfl d_Value_init_1 (Nat.le_of_ble_eq_true rfl) (Nat.le_of_ble_eq_true rfl) ?_
  refine W.eq (g2 := F0 m 4 ls []) rfl ?_
  refine lv_aload_n hx hb d_Value_init_4 rfl (lv_at hl 0 rfl) ?_
  refine lv_iload_n hx hb d_Value_init_5 rfl (lv_at hl 1 rfl) ?_
  refine va_put (D := (dC, dI)) (ci := 9) (v := .int k) (ty := .int) (C := R_Value) (T := F_Value) (N := 10) hx hb hts in_Value t_Value t_Value_ok n_Value hown hK hP hD hS 0 rfl rfl 0 (by decide) (hts _ z_312) (fun _ h9 => h9) rfl (by decide +kernel) rfl rfl (Nat.le_of_ble_eq_true rfl) d_Value_init_6 (fun H locs hP hD hS => ?_)
  have hP : va_P (dC, dI) classes ([(q, .inr (9, [.int k, .long 0, .null, .null, .null, .null, .int 0, .null, .null, .int 0]))]) H := hP
  have hD : va_D A ([(q, .inr (9, [.int k, .long 0, .null, .null, .null, .null, .int 0, .null, .null, .int 0]))]) := hD
  refine w_same (fun hq => ?_)
  refine W.widen (k := 0) (n := 0) (Nat.zero_le _) (Nat.zero_le _) ?_
  exact W.vret hx hb hr (fun t9 ht hW => ⟨⟨(), rfl, trivial, ⟨by rw [ht]; exact hP, va_K.moved hW.alike hK, hD⟩, by rw [ht]; exact hq⟩, hS.F ht⟩) hS.2.2 d_Value_init_9
abbrev b_JsonReader_fresh : ByteArray := prog_3_method_4_code
def y_JsonReader_fresh : MethodName := ⟨"QueryBench$JsonReader", "fresh", "()LQueryBench$Value;"⟩
abbrev k_JsonReader_fresh : Cond := .code y_JsonReader_fresh b_JsonReader_fresh 2 (some (.object "QueryBench$Value"))
theorem i_JsonReader_fresh : k_JsonReader_fresh ∈ gtbl := gt_in 305 (by decide +kernel) (by decide +kernel)
theorem d_JsonReader_fresh_0 : decode b_JsonReader_fresh 0 = .ok (.new 53, 3) := by decide +kernel
theorem d_JsonReader_fresh_3 : decode b_JsonReader_fresh 3 = .ok (.dup, 1) := by decide +kernel
theorem d_JsonReader_fresh_4 : decode b_JsonReader_fresh 4 = .ok (.iconst 0, 1) := by decide +kernel
theorem d_JsonReader_fresh_5 : decode b_JsonReader_fresh 5 = .ok (.invokespecial 90, 3) := by decide +kernel
theorem d_JsonReader_fresh_8 : decode b_JsonReader_fresh 8 = .ok (.astore_n 1, 1) := by decide +kernel
theorem d_JsonReader_fresh_9 : decode b_JsonReader_fresh 9 = .ok (.aload_n 0, 1) := by decide +kernel
theorem d_JsonReader_fresh_10 : decode b_JsonReader_fresh 10 = .ok (.getfield 22, 3) := by decide +kernel
theorem d_JsonReader_fresh_13 : decode b_JsonReader_fresh 13 = .ok (.ifnull 11, 3) := by decide +kernel
theorem d_JsonReader_fresh_16 : decode b_JsonReader_fresh 16 = .ok (.aload_n 0, 1) := by decide +kernel
theorem d_JsonReader_fresh_17 : decode b_JsonReader_fresh 17 = .ok (.getfield 22, 3) := by decide +kernel
theorem d_JsonReader_fresh_20 : decode b_JsonReader_fresh 20 = .ok (.aload_n 1, 1) := by decide +kernel
theorem d_JsonReader_fresh_21 : decode b_JsonReader_fresh 21 = .ok (.putfield 92, 3) := by decide +kernel
theorem d_JsonReader_fresh_24 : decode b_JsonReader_fresh 24 = .ok (.aload_n 0, 1) := by decide +kernel
theorem d_JsonReader_fresh_25 : decode b_JsonReader_fresh 25 = .ok (.aload_n 1, 1) := by decide +kernel
theorem d_JsonReader_fresh_26 : decode b_JsonReader_fresh 26 = .ok (.putfield 22, 3) := by decide +kernel
theorem d_JsonReader_fresh_29 : decode b_JsonReader_fresh 29 = .ok (.aload_n 0, 1) := by decide +kernel
theorem d_JsonReader_fresh_30 : decode b_JsonReader_fresh 30 = .ok (.dup, 1) := by decide +kernel
theorem d_JsonReader_fresh_31 : decode b_JsonReader_fresh 31 = .ok (.getfield 19, 3) := by decide +kernel
theorem d_JsonReader_fresh_34 : decode b_JsonReader_fresh 34 = .ok (.iconst 1, 1) := by decide +kernel
theorem d_JsonReader_fresh_35 : decode b_JsonReader_fresh 35 = .ok (.iadd, 1) := by decide +kernel
theorem d_JsonReader_fresh_36 : decode b_JsonReader_fresh 36 = .ok (.putfield 19, 3) := by decide +kernel
theorem d_JsonReader_fresh_39 : decode b_JsonReader_fresh 39 = .ok (.aload_n 1, 1) := by decide +kernel
theorem d_JsonReader_fresh_40 : decode b_JsonReader_fresh 40 = .ok (.areturn, 1) := by decide +kernel
/-- a value's new nextOfAll -/
theorem PO.nxt {cI cV : ClassId} {E lv : Nat → Nat} {L : List Nat} {f : Nat → va_E} {q lb : Nat} (h : PO cI cV E lv L f) (hq : E q = 0) (hlb : isV E lb) {kd : Int32} {nu : Int64} {tx me pa na : Option Nat} {ix : Int32} {nm no : Option Nat} {sp : Int32} (ef : f lb = vE kd nu tx me pa na ix nm no sp) (hv : VO E lb kd tx me pa na nm no) :
    PO cI cV (va_up E q 1) lv (L ++ [q]) (va_up (va_up f lb (vE kd nu tx me pa na ix nm (some q) sp)) q (vE 0 0 none none none none 0 none none 0)) := by
  have hx := EX.new (s := 1) hq
  have hl0 : E lb ≠ 0 := by rcases hlb with h | h | h <;> omega
  have hlq : lb ≠ q := fun e => hl0 (e ▸ hq)
  have hE1 : va_up E q 1 lb = E lb := hx lb hl0
  refine h.go hx.el (fun _ _ => rfl) (fun a ha => ?_) (fun a ha => ?_)
  · by_cases e : a = q
    · rw [e]; exact List.mem_append_right _ (List.mem_singleton.mpr rfl)
    · rw [va_up_ne _ _ e] at ha; exact List.mem_append_left _ (h.inL ha)
  · by_cases e : a = q
    · subst e
      right
      rw [va_up_self]
      exact CO.V (Or.inl (va_up_self _ _ _)) ⟨_, _, _, _, _, _, _, _, _, _, rfl, ⟨fun b h => (nomatch h), fun b h => (nomatch h), fun b h => (nomatch h), fun b h => (nomatch h), fun b h => (nomatch h), fun b h => (nomatch h), fun h => absurd (va_up_self _ _ _) h, fun h => by rw [va_up_self] at h; cases h⟩⟩
    · by_cases e2 : a = lb
      · subst e2
        right
        rw [va_up_ne _ _ e, va_up_self]
        obtain ⟨h1, h2, h3, h4, h5, h6, h7, h8⟩ := hv.mono hx.el hE1
        exact CO.V (hx.el.v hlb) ⟨_, _, _, _, _, _, _, _, _, _, rfl, ⟨h1, h2, h3, h4, h5, fun b h => by cases h; exact Or.inl (va_up_self _ _ _), h7, h8⟩⟩
      · left
        rw [va_up_ne _ _ e, va_up_ne _ _ e, va_up_ne _ _ e2]
        exact ⟨rfl, rfl⟩
theorem PO.nxt0 {cI cV : ClassId} {E lv : Nat → Nat} {L : List Nat} {f : Nat → va_E} {q : Nat} (h : PO cI cV E lv L f) (hq : E q = 0) : PO cI cV (va_up E q 1) lv (L ++ [q]) (va_up f q (vE 0 0 none none none none 0 none none 0)) := by
  have hx := EX.new (s := 1) hq
  refine h.go hx.el (fun _ _ => rfl) (fun a ha => ?_) (fun a ha => ?_)
  · by_cases e : a = q
    · rw [e]; exact List.mem_append_right _ (List.mem_singleton.mpr rfl)
    · rw [va_up_ne _ _ e] at ha; exact List.mem_append_left _ (h.inL ha)
  · by_cases e : a = q
    · subst e
      right
      rw [va_up_self]
      exact CO.V (Or.inl (va_up_self _ _ _)) ⟨_, _, _, _, _, _, _, _, _, _, rfl, ⟨fun b h => (nomatch h), fun b h => (nomatch h), fun b h => (nomatch h), fun b h => (nomatch h), fun b h => (nomatch h), fun b h => (nomatch h), fun h => absurd (va_up_self _ _ _) h, fun h => by rw [va_up_self] at h; cases h⟩⟩
    · left
      rw [va_up_ne _ _ e, va_up_ne _ _ e]
      exact ⟨rfl, rfl⟩
set_option maxHeartbeats 4000000 in
set_option maxRecDepth 100000 in
/-- JsonReader.fresh -/
theorem c_JsonReader_fresh (l : Launch) (K : Nat → Nat × Nat) (dC : Nat → ClassId) (dI : Nat → Nat → Nat) (sz : Heap) (cI cV : ClassId) (E lv : Nat → Nat) (L : List Nat) (f : Nat → va_E) (hO : PO cI cV E lv L f) (jr h0 : Nat) (dp md : Int32) (la : Option Nat) (hla : oR (isV E) la) : Met l y_JsonReader_fresh (k_JsonReader_fresh :: gtbl) ({ frames := 2, cells := 1, slots := 10, locals := 60 }) (va_Pc [.ref jr] (ml K dC dI ([(jr, .inr (1, [.ref h0, .int dp, .int md, va_rf la]))] ++ va_pl L f) [(cI, .int), (cV, .object "QueryBench$Value")] sz)) (va_Qr (fun (u : Nat × (Nat → va_E)) => PO cI cV (va_up E u.1 1) lv (L ++ [u.1]) u.2 ∧ E u.1 = 0 ∧ u.2 u.1 = vE 0 0 none none none none 0 none none 0 ∧ KX E la f u.2 ∧ ∀ z, la = some z → refE 8 (u.2 z) = some u.1) (fun u a9 t9 => mz dC dI ([(jr, .inr (1, [.ref h0, .int dp, .int (md + 1), .ref u.1]))] ++ va_pl ((L ++ [u.1])) u.2) [(cI, .int), (cV, .object "QueryBench$Value")] (va_A ([(jr, .inr (1, [.ref h0, .int dp, .int md, va_rf la]))] ++ va_pl L f) sz.size) t9 ∧ szk sz t9.heap (1) (10) ∧ a9 = u.1) (va_A ([(jr, .inr (1, [.ref h0, .int dp, .int md, va_rf la]))] ++ va_pl L f) sz.size)) (1) (10) (va_A ([(jr, .inr (1, [.ref h0, .int dp, .int md, va_rf la]))] ++ va_pl L f) sz.size) := by
  refine Met.ofW (cc := b_JsonReader_fresh) (maxL := 2) (ret := (some (.object "QueryBench$Value"))) (by decide) rfl ?_
  intro p e s m args below meth c s₁ B hml hv
  obtain ⟨rfl, ⟨hsz, hP, hK, hD0⟩, hN, hZ, hC, hV⟩ := hv
  have hx := B.exec
  have hb := B.bytes
  have hr := B.returns
  have hts0 := atoms_spec (ws := k_JsonReader_fresh :: gtbl) B.pre
  have hts := fun w h => hts0 w (List.mem_cons_of_mem _ h)
  have hown : s.vm.findClass R_JsonReader = some m.cls := findClass_of_methodNamed B.named
  have hlocks := B.notSynchronized
  subst hsz
  have hD := hD0.self (sz := s.heap.size)
  generalize hAe : va_A ([(jr, .inr (1, [.ref h0, .int dp, .int md, va_rf la]))] ++ va_pl L f) s.heap.size = A at hD hZ hC ⊢
  have hA : ∀ q : Nat, s.heap.size ≤ q → A q := fun q h => by rw [← hAe]; exact Or.inr h
  have hS : va_S A s.heap s.heap [] := va_S.rf
  have hP : va_P (dC, dI) classes ([(jr, .inr (1, [.ref h0, .int dp, .int md, va_rf la]))] ++ va_pl L f) s.heap := hP
  have hl := lv_entry ([.ref jr]) (n := 2) (Nat.le_of_ble_eq_true rfl)
  rw [lg_entry_eq]
  generalize (lg_sl ([.ref jr]) ++ List.replicate (2 - (lg_sl ([.ref jr])).length) Slot.unset).toArray = ls at hl ⊢
  have hl : lv_has ls 2 [(0, .ref jr)] := hl
  refine va_new (ci := 9) (fs := [.int 0, .long 0, .null, .null, .null, .null, .int 0, .null, .null, .int 0]) (C := R_Value) (T := F_Value) (N := 10) hx hb hts in_Value t_Value t_Value_ok hown (hts _ z_306) (hts _ z_307) (hts _ z_14) hK hP hD hS hA rfl (fun j hj => by rcases (show j = 0 ∨ j = 1 ∨ j = 2 ∨ j = 3 ∨ j = 4 ∨ j = 5 ∨ j = 6 ∨ j = 7 ∨ j = 8 ∨ j = 9 by omega) with rfl | rfl | rfl | rfl | rfl | rfl | rfl | rfl | rfl | rfl <;> rfl) (Nat.le_of_ble_eq_true rfl) (Nat.le_of_ble_eq_true rfl) d_JsonReader_fresh_0 (fun q H hP hD hS => ?_)
  have hP := hP.swap
  have hD := hD.swap
  have hP : va_P (dC, dI) classes ([(jr, .inr (1, [.ref h0, .int dp, .int md, va_rf la])), (q, .inr (9, [.int 0, .long 0, .null, .null, .null, .null, .int 0, .null, .null, .int 0]))] ++ va_pl L f) H := hP
  have hD : va_D A ([(jr, .inr (1, [.ref h0, .int dp, .int md, va_rf la])), (q, .inr (9, [.int 0, .long 0, .null, .null, .null, .null, .int 0, .null, .null, .int 0]))] ++ va_pl L f) := hD
  refine lv_dup hx hb d_JsonReader_fresh_3 rfl ?_
  refine lv_iconst (v := 0) hx hb d_JsonReader_fresh_4 (by decide) ?_
  have hPc := hP.sub (ws' := [(q, .inr (9, [.int 0, .long 0, .null, .null, .null, .null, .int 0, .null, .null, .int 0]))]) [1] rfl
  have hDc := hD.sub (ws' := [(q, .inr (9, [.int 0, .long 0, .null, .null, .null, .null, .int 0, .null, .null, .int 0]))]) [1] (by decide) rfl
  have hFc := va_free (wc := [(q, .inr (9, [.int 0, .long 0, .null, .null, .null, .null, .int 0, .null, .null, .int 0]))]) hD hS hA [1] rfl
  have hKc := hK.sub (tys' := []) [] rfl
  refine w_same (fun hq0 => ?_)
  refine va_callv (va_runI (As := [.int 0]) (rest := [.ref q]) ⟨hx, hb, hml, hown, hts⟩ (c_Value_init l dC dI H q 0) (cwI 1 hts (gt_code i_Value_init) rfl rfl rfl (hts _ z_14) (hts _ z_308) (hts _ z_309) rfl (by decide +kernel) ⟨Nat.le_of_ble_eq_true rfl, Nat.le_of_ble_eq_true rfl⟩) ⟨mp_blind, fun U hU hW => ⟨rfl, hU, by rw [hU]; exact hPc, va_K.moved hW.alike hKc, hDc.weaken (fun _ _ _ _ => trivial)⟩⟩ rfl rfl hl.1 rfl (lv_room (Nat.le_of_ble_eq_true rfl)) d_JsonReader_fresh_5 ⟨Nat.le_of_ble_eq_true rfl, Nat.le_of_ble_eq_true rfl⟩) hS (fun q _ h => hFc q h) hFc (fun _u t9 H1 locs ht hvm hw hB hz1 hk1 hS => ?_)
  obtain ⟨⟨hP1, hK1, hD1⟩, hz9⟩ := hB
  rw [ht] at hP1
  rw [ht] at hz9
  have hq0 : szk s.heap H1 ((0 + 1)) ((0 + 10)) := (hq0.trans hz9).mono (Nat.le_of_eq (Nat.add_zero _)) (Nat.le_of_eq (Nat.add_zero _))
  refine w_tight hq0 ?_
  obtain ⟨hP, hD⟩ := va_joinQ (wr := [(jr, .inr (1, [.ref h0, .int dp, .int md, va_rf la]))]) (w1 := [(q, .inr (9, [.int 0, .long 0, .null, .null, .null, .null, .int 0, .null, .null, .int 0]))]) hP hD [1] [0] rfl rfl (by decide) (by decide) hk1 hFc hP1 hD1
  generalize H1 = H at hP hS hq0 ⊢
  have hP : va_P (dC, dI) classes ([(jr, .inr (1, [.ref h0, .int dp, .int md, va_rf la])), (q, .inr (9, [.int 0, .long 0, .null, .null, .null, .null, .int 0, .null, .null, .int 0]))] ++ va_pl L f) H := hP
  have hD : va_D A ([(jr, .inr (1, [.ref h0, .int dp, .int md, va_rf la])), (q, .inr (9, [.int 0, .long 0, .null, .null, .null, .null, .int 0, .null, .null, .int 0]))] ++ va_pl L f) := hD
  refine lv_astore_n (lv' := [(1, .ref q), (0, .ref jr)]) hx hb d_JsonReader_fresh_8 rfl hl (by decide) rfl (fun ls hl => ?_)
  refine lv_aload_n hx hb d_JsonReader_fresh_9 rfl (lv_at hl 1 rfl) ?_
  rcases la with _ | lb
  · have hP : va_P (dC, dI) classes ([(jr, .inr (1, [.ref h0, .int dp, .int md, .null])), (q, .inr (9, [.int 0, .long 0, .null, .null, .null, .null, .int 0, .null, .null, .int 0]))] ++ va_pl L f) H := hP
    have hD : va_D A ([(jr, .inr (1, [.ref h0, .int dp, .int md, .null])), (q, .inr (9, [.int 0, .long 0, .null, .null, .null, .null, .int 0, .null, .null, .int 0]))] ++ va_pl L f) := hD
    refine va_get (D := (dC, dI)) (ci := 1) (v := .null) (C := R_JsonReader) (T := F_JsonReader) (N := 4) hx hb hts in_JsonReader hown hK hP 0 rfl rfl 3 (by decide) (hts _ z_84) (fun _ h9 => h9) rfl d_JsonReader_fresh_10 ?_
    refine lv_ifnullN (tgt := 24) hx hb d_JsonReader_fresh_13 (by decide) ?_
    refine lv_aload_n hx hb d_JsonReader_fresh_24 rfl (lv_at hl 1 rfl) ?_
    refine lv_aload_n hx hb d_JsonReader_fresh_25 rfl (lv_at hl 0 rfl) ?_
    refine va_put (D := (dC, dI)) (ci := 1) (v := .ref q) (ty := .object "QueryBench$Value") (C := R_JsonReader) (T := F_JsonReader) (N := 4) hx hb hts in_JsonReader t_JsonReader t_JsonReader_ok n_JsonReader hown hK hP hD hS 0 rfl rfl 3 (by decide) (hts _ z_84) (fun _ h9 => h9) rfl (by decide +kernel) rfl rfl (Nat.le_of_ble_eq_true rfl) d_JsonReader_fresh_26 (fun H locs hP hD hS => ?_)
    have hP : va_P (dC, dI) classes ([(jr, .inr (1, [.ref h0, .int dp, .int md, .ref q])), (q, .inr (9, [.int 0, .long 0, .null, .null, .null, .null, .int 0, .null, .null, .int 0]))] ++ va_pl L f) H := hP
    have hD : va_D A ([(jr, .inr (1, [.ref h0, .int dp, .int md, .ref q])), (q, .inr (9, [.int 0, .long 0, .null, .null, .null, .null, .int 0, .null, .null, .int 0]))] ++ va_pl L f) := hD
    refine lv_aload_n hx hb d_JsonReader_fresh_29 rfl (lv_at hl 1 rfl) ?_
    refine lv_dup hx hb d_JsonReader_fresh_30 rfl ?_
    refine va_get (D := (dC, dI)) (ci := 1) (v := .int md) (C := R_JsonReader) (T := F_JsonReader) (N := 4) hx hb hts in_JsonReader hown hK hP 0 rfl rfl 2 (by decide) (hts _ z_83) (fun _ h9 => h9) rfl d_JsonReader_fresh_31 ?_
    refine lv_iconst (v := 1) hx hb d_JsonReader_fresh_34 (by decide) ?_
    refine lv_iadd hx hb d_JsonReader_fresh_35 ?_
    refine va_put (D := (dC, dI)) (ci := 1) (v := .int (md + 1)) (ty := .int) (C := R_JsonReader) (T := F_JsonReader) (N := 4) hx hb hts in_JsonReader t_JsonReader t_JsonReader_ok n_JsonReader hown hK hP hD hS 0 rfl rfl 2 (by decide) (hts _ z_83) (fun _ h9 => h9) rfl (by decide +kernel) rfl rfl (Nat.le_of_ble_eq_true rfl) d_JsonReader_fresh_36 (fun H locs hP hD hS => ?_)
    have hP : va_P (dC, dI) classes ([(jr, .inr (1, [.ref h0, .int dp, .int (md + 1), .ref q])), (q, .inr (9, [.int 0, .long 0, .null, .null, .null, .null, .int 0, .null, .null, .int 0]))] ++ va_pl L f) H := hP
    have hD : va_D A ([(jr, .inr (1, [.ref h0, .int dp, .int (md + 1), .ref q])), (q, .inr (9, [.int 0, .long 0, .null, .null, .null, .null, .int 0, .null, .null, .int 0]))] ++ va_pl L f) := hD
    refine lv_aload_n hx hb d_JsonReader_fresh_39 rfl (lv_at hl 0 rfl) ?_
    have hq0 : E q = 0 := Classical.byContradiction (fun h => plD_new (X := [(jr, .inr (1, [.ref h0, .int dp, .int (md + 1), .ref q]))]) hD (hO.inL h))
    have hqL := plD_new (X := [(jr, .inr (1, [.ref h0, .int dp, .int (md + 1), .ref q]))]) hD
    have hP := plP_push (X := [(jr, .inr (1, [.ref h0, .int dp, .int (md + 1), .ref q]))]) hP hqL
    have hD := plD_push (X := [(jr, .inr (1, [.ref h0, .int dp, .int (md + 1), .ref q]))]) hD hqL
    have hP : va_P (dC, dI) classes ([(jr, .inr (1, [.ref h0, .int dp, .int (md + 1), .ref q]))] ++ va_pl ((L ++ [q])) ((va_up f q (vE 0 0 none none none none 0 none none 0)))) H := hP
    have hD : va_D A ([(jr, .inr (1, [.ref h0, .int dp, .int (md + 1), .ref q]))] ++ va_pl ((L ++ [q])) ((va_up f q (vE 0 0 none none none none 0 none none 0)))) := hD
    have hne : ∀ a, E a ≠ 0 → a ≠ q := fun a ha e => ha (e ▸ hq0)
    have hKX : KX E none f (va_up f q (vE 0 0 none none none none 0 none none 0)) := ⟨fun a ha => by rw [va_up_ne _ _ (hne a ha)], fun a ha _ => by rw [va_up_ne _ _ (hne a ha)]⟩
    have hlk : ∀ z, none = some z → refE 8 ((va_up f q (vE 0 0 none none none none 0 none none 0)) z) = some q := fun z hz => by cases hz
    refine w_same (fun hq => ?_)
    refine W.widen (k := 1) (n := 10) (Nat.le_of_ble_eq_true rfl) (Nat.le_of_ble_eq_true rfl) ?_
    exact W.aret (v := .ref q) hx hb hr (Or.inl ⟨_, rfl⟩) (Or.inr ⟨_, rfl⟩) (fun t9 ht hW => ⟨⟨(q, va_up f q (vE 0 0 none none none none 0 none none 0)), q, rfl, ⟨hO.nxt0 hq0, hq0, va_up_self _ _ _, hKX, hlk⟩, ⟨by rw [ht]; exact hP, va_K.moved hW.alike hK, hD⟩, by rw [ht]; exact ⟨hq, rfl⟩⟩, hS.F ht⟩) hS.2.2 d_JsonReader_fresh_40
  · have hP : va_P (dC, dI) classes ([(jr, .inr (1, [.ref h0, .int dp, .int md, .ref lb])), (q, .inr (9, [.int 0, .long 0, .null, .null, .null, .null, .int 0, .null, .null, .int 0]))] ++ va_pl L f) H := hP
    have hD : va_D A ([(jr, .inr (1, [.ref h0, .int dp, .int md, .ref lb])), (q, .inr (9, [.int 0, .long 0, .null, .null, .null, .null, .int 0, .null, .null, .int 0]))] ++ va_pl L f) := hD
    refine va_get (D := (dC, dI)) (ci := 1) (v := .ref lb) (C := R_JsonReader) (T := F_JsonReader) (N := 4) hx hb hts in_JsonReader hown hK hP 0 rfl rfl 3 (by decide) (hts _ z_84) (fun _ h9 => h9) rfl d_JsonReader_fresh_10 ?_
    refine lv_ifnull hx hb d_JsonReader_fresh_13 ?_
    refine lv_aload_n hx hb d_JsonReader_fresh_16 rfl (lv_at hl 1 rfl) ?_
    refine va_get (D := (dC, dI)) (ci := 1) (v := .ref lb) (C := R_JsonReader) (T := F_JsonReader) (N := 4) hx hb hts in_JsonReader hown hK hP 0 rfl rfl 3 (by decide) (hts _ z_84) (fun _ h9 => h9) rfl d_JsonReader_fresh_17 ?_
    refine lv_aload_n hx hb d_JsonReader_fresh_20 rfl (lv_at hl 0 rfl) ?_
    obtain ⟨kd21, nu21, tx21, me21, pa21, na21, ix21, nm21, no21, sp21, ef21, hv21⟩ := hO.val ((hla lb rfl))
    refine vq_put (D := (dC, dI)) (ci := 9) (v := .ref q) (ty := .object "QueryBench$Value") (C := R_Value) (T := F_Value) (N := 10) hx hb hts in_Value t_Value t_Value_ok n_Value hown hK hP hD hS (hO.inV (hla lb rfl)) ef21 rfl 8 (by decide) (hts _ z_337) (fun _ h9 => h9) rfl (by decide +kernel) rfl rfl (Nat.le_of_ble_eq_true rfl) d_JsonReader_fresh_21 (fun H locs hP hD hS => ?_)
    have hP : va_P (dC, dI) classes ([(jr, .inr (1, [.ref h0, .int dp, .int md, .ref lb])), (q, .inr (9, [.int 0, .long 0, .null, .null, .null, .null, .int 0, .null, .null, .int 0]))] ++ va_pl L ((va_up f lb (vE kd21 nu21 tx21 me21 pa21 na21 ix21 nm21 (some q) sp21)))) H := hP
    have hD : va_D A ([(jr, .inr (1, [.ref h0, .int dp, .int md, .ref lb])), (q, .inr (9, [.int 0, .long 0, .null, .null, .null, .null, .int 0, .null, .null, .int 0]))] ++ va_pl L ((va_up f lb (vE kd21 nu21 tx21 me21 pa21 na21 ix21 nm21 (some q) sp21)))) := hD
    refine lv_aload_n hx hb d_JsonReader_fresh_24 rfl (lv_at hl 1 rfl) ?_
    refine lv_aload_n hx hb d_JsonReader_fresh_25 rfl (lv_at hl 0 rfl) ?_
    refine va_put (D := (dC, dI)) (ci := 1) (v := .ref q) (ty := .object "QueryBench$Value") (C := R_JsonReader) (T := F_JsonReader) (N := 4) hx hb hts in_JsonReader t_JsonReader t_JsonReader_ok n_JsonReader hown hK hP hD hS 0 rfl rfl 3 (by decide) (hts _ z_84) (fun _ h9 => h9) rfl (by decide +kernel) rfl rfl (Nat.le_of_ble_eq_true rfl) d_JsonReader_fresh_26 (fun H locs hP hD hS => ?_)
    have hP : va_P (dC, dI) classes ([(jr, .inr (1, [.ref h0, .int dp, .int md, .ref q])), (q, .inr (9, [.int 0, .long 0, .null, .null, .null, .null, .int 0, .null, .null, .int 0]))] ++ va_pl L ((va_up f lb (vE kd21 nu21 tx21 me21 pa21 na21 ix21 nm21 (some q) sp21)))) H := hP
    have hD : va_D A ([(jr, .inr (1, [.ref h0, .int dp, .int md, .ref q])), (q, .inr (9, [.int 0, .long 0, .null, .null, .null, .null, .int 0, .null, .null, .int 0]))] ++ va_pl L ((va_up f lb (vE kd21 nu21 tx21 me21 pa21 na21 ix21 nm21 (some q) sp21)))) := hD
    refine lv_aload_n hx hb d_JsonReader_fresh_29 rfl (lv_at hl 1 rfl) ?_
    refine lv_dup hx hb d_JsonReader_fresh_30 rfl ?_
    refine va_get (D := (dC, dI)) (ci := 1) (v := .int md) (C := R_JsonReader) (T := F_JsonReader) (N := 4) hx hb hts in_JsonReader hown hK hP 0 rfl rfl 2 (by decide) (hts _ z_83) (fun _ h9 => h9) rfl d_JsonReader_fresh_31 ?_
    refine lv_iconst (v := 1) hx hb d_JsonReader_fresh_34 (by decide) ?_
    refine lv_iadd hx hb d_JsonReader_fresh_35 ?_
    refine va_put (D := (dC, dI)) (ci := 1) (v := .int (md + 1)) (ty := .int) (C := R_JsonReader) (T := F_JsonReader) (N := 4) hx hb hts in_JsonReader t_JsonReader t_JsonReader_ok n_JsonReader hown hK hP hD hS 0 rfl rfl 2 (by decide) (hts _ z_83) (fun _ h9 => h9) rfl (by decide +kernel) rfl rfl (Nat.le_of_ble_eq_true rfl) d_JsonReader_fresh_36 (fun H locs hP hD hS => ?_)
    have hP : va_P (dC, dI) classes ([(jr, .inr (1, [.ref h0, .int dp, .int (md + 1), .ref q])), (q, .inr (9, [.int 0, .long 0, .null, .null, .null, .null, .int 0, .null, .null, .int 0]))] ++ va_pl L ((va_up f lb (vE kd21 nu21 tx21 me21 pa21 na21 ix21 nm21 (some q) sp21)))) H := hP
    have hD : va_D A ([(jr, .inr (1, [.ref h0, .int dp, .int (md + 1), .ref q])), (q, .inr (9, [.int 0, .long 0, .null, .null, .null, .null, .int 0, .null, .null, .int 0]))] ++ va_pl L ((va_up f lb (vE kd21 nu21 tx21 me21 pa21 na21 ix21 nm21 (some q) sp21)))) := hD
    refine lv_aload_n hx hb d_JsonReader_fresh_39 rfl (lv_at hl 0 rfl) ?_
    have hq0 : E q = 0 := Classical.byContradiction (fun h => plD_new (X := [(jr, .inr (1, [.ref h0, .int dp, .int (md + 1), .ref q]))]) hD (hO.inL h))
    have hqL := plD_new (X := [(jr, .inr (1, [.ref h0, .int dp, .int (md + 1), .ref q]))]) hD
    have hP := plP_push (X := [(jr, .inr (1, [.ref h0, .int dp, .int (md + 1), .ref q]))]) hP hqL
    have hD := plD_push (X := [(jr, .inr (1, [.ref h0, .int dp, .int (md + 1), .ref q]))]) hD hqL
    have hP : va_P (dC, dI) classes ([(jr, .inr (1, [.ref h0, .int dp, .int (md + 1), .ref q]))] ++ va_pl ((L ++ [q])) ((va_up (va_up f lb (vE kd21 nu21 tx21 me21 pa21 na21 ix21 nm21 (some q) sp21)) q (vE 0 0 none none none none 0 none none 0)))) H := hP
    have hD : va_D A ([(jr, .inr (1, [.ref h0, .int dp, .int (md + 1), .ref q]))] ++ va_pl ((L ++ [q])) ((va_up (va_up f lb (vE kd21 nu21 tx21 me21 pa21 na21 ix21 nm21 (some q) sp21)) q (vE 0 0 none none none none 0 none none 0)))) := hD
    have hne : ∀ a, E a ≠ 0 → a ≠ q := fun a ha e => ha (e ▸ hq0)
    have hKX : KX E (some lb) f (va_up (va_up f lb (vE kd21 nu21 tx21 me21 pa21 na21 ix21 nm21 (some q) sp21)) q (vE 0 0 none none none none 0 none none 0)) := ⟨fun a ha => by
      rw [va_up_ne _ _ (hne a ha)]
      by_cases e : a = lb
      · subst e; rw [va_up_self, ef21]; rfl
      · rw [va_up_ne _ _ e], fun a ha hl9 => by
      rw [va_up_ne _ _ (hne a ha), va_up_ne _ _ (fun e => hl9 (by rw [e]))]⟩
    have hlk : ∀ z, (some lb) = some z → refE 8 ((va_up (va_up f lb (vE kd21 nu21 tx21 me21 pa21 na21 ix21 nm21 (some q) sp21)) q (vE 0 0 none none none none 0 none none 0)) z) = some q := fun z hz => by cases hz; rw [va_up_ne _ _ (hne lb (by rcases (hla lb rfl) with h9 | h9 | h9 <;> omega)), va_up_self]; exact refE_rf (o := some q) rfl
    refine w_same (fun hq => ?_)
    refine W.widen (k := 1) (n := 10) (Nat.le_of_ble_eq_true rfl) (Nat.le_of_ble_eq_true rfl) ?_
    exact W.aret (v := .ref q) hx hb hr (Or.inl ⟨_, rfl⟩) (Or.inr ⟨_, rfl⟩) (fun t9 ht hW => ⟨⟨(q, va_up (va_up f lb (vE kd21 nu21 tx21 me21 pa21 na21 ix21 nm21 (some q) sp21)) q (vE 0 0 none none none none 0 none none 0)), q, rfl, ⟨hO.nxt hq0 (hla lb rfl) ef21 hv21, hq0, va_up_self _ _ _, hKX, hlk⟩, ⟨by rw [ht]; exact hP, va_K.moved hW.alike hK, hD⟩, by rw [ht]; exact ⟨hq, rfl⟩⟩, hS.F ht⟩) hS.2.2 d_JsonReader_fresh_40
