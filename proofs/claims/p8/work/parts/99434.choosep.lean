/-- nodes, of a query of a level: what it finds -/
def NDF (l : Launch) (K : Nat → Nat × Nat) (dC : Nat → ClassId) (dI : Nat → Nat → Nat) (cI cV : ClassId) (E lv : Nat → Nat) (L : List Nat) (f : Nat → va_E) (PL : List NT) (AL : List Nat) (wk wl rt : Nat) (rtn : NT) (n : Nat) : Prop := ∀ (sz : Heap) (S : Nat → Nat) (tp sp : Nat) (g : Nat → Option Nat) (ν : Nat → Int64), WI E tp sp g → (∀ ν2, NUg S ν ν2 → DOC E (pf f ν2) PL AL) → ∀ (qu cu : Nat) (m9 : QT) (cun : NT), E qu = 7 → lv qu ≤ n → QD (pf f ν) S qu m9 → NCr PL AL cu cun → vx_Met l y_Walk_nodes (k_Walk_nodes :: gtbl) ({ frames := 60 + 5 * n, cells := 1, slots := 6, locals := 2500 + 200 * n }) (va_Pc [.ref wk, .ref qu, .ref cu] (ml K dC dI ([(wk, .inr (10, [.ref wl, .int (nI tp), .int (nI sp), .ref rt])), (wl, .inl (cV, 10000, .inr (.inr (.inr (.inr g)))))] ++ va_pl L (pf f ν)) [(cI, .int), (cV, .object "QueryBench$Value")] sz)) (va_Qi (fun (r : Int32) (u : Nat × Nat × (Nat → Option Nat) × (Nat → Int64)) => ∃ fr, r = nI fr ∧ NDK E PL AL S (m9 rtn cun) tp sp g ν fr u.1 u.2.1 u.2.2.1 u.2.2.2) (fun u t9 => mz dC dI ([(wk, .inr (10, [.ref wl, .int (nI u.1), .int (nI u.2.1), .ref rt])), (wl, .inl (cV, 10000, .inr (.inr (.inr (.inr u.2.2.1)))))] ++ va_pl L (pf f u.2.2.2)) [(cI, .int), (cV, .object "QueryBench$Value")] (va_A ([(wk, .inr (10, [.ref wl, .int (nI tp), .int (nI sp), .ref rt])), (wl, .inl (cV, 10000, .inr (.inr (.inr (.inr g)))))] ++ va_pl L (pf f ν)) sz.size) t9 ∧ szk sz t9.heap (0) (0)) (va_A ([(wk, .inr (10, [.ref wl, .int (nI tp), .int (nI sp), .ref rt])), (wl, .inl (cV, 10000, .inr (.inr (.inr (.inr g)))))] ++ va_pl L (pf f ν)) sz.size)) (vx_X (fun (u : Int32 × Int32 × (Nat → Option Nat) × (Nat → Int64)) => 10000 < sp + (m9 rtn cun).2 ∧ NUg S ν u.2.2.2) (fun En u t9 => En = IOB ∧ mz dC dI ([(wk, .inr (10, [.ref wl, .int u.1, .int u.2.1, .ref rt])), (wl, .inl (cV, 10000, .inr (.inr (.inr (.inr u.2.2.1)))))] ++ va_pl L (pf f u.2.2.2)) [(cI, .int), (cV, .object "QueryBench$Value")] (va_A ([(wk, .inr (10, [.ref wl, .int (nI tp), .int (nI sp), .ref rt])), (wl, .inl (cV, 10000, .inr (.inr (.inr (.inr g)))))] ++ va_pl L (pf f ν)) sz.size) t9) (va_A ([(wk, .inr (10, [.ref wl, .int (nI tp), .int (nI sp), .ref rt])), (wl, .inl (cV, 10000, .inr (.inr (.inr (.inr g)))))] ++ va_pl L (pf f ν)) sz.size)) (1) (6) (va_A ([(wk, .inr (10, [.ref wl, .int (nI tp), .int (nI sp), .ref rt])), (wl, .inl (cV, 10000, .inr (.inr (.inr (.inr g)))))] ++ va_pl L (pf f ν)) sz.size)
/-- holds, of a condition of a level: what it says -/
def HDF (l : Launch) (K : Nat → Nat × Nat) (dC : Nat → ClassId) (dI : Nat → Nat → Nat) (cI cV : ClassId) (E lv : Nat → Nat) (L : List Nat) (f : Nat → va_E) (PL : List NT) (AL : List Nat) (wk wl rt : Nat) (rtn : NT) (n : Nat) : Prop := ∀ (sz : Heap) (S : Nat → Nat) (tp sp : Nat) (g : Nat → Option Nat) (ν : Nat → Int64), WI E tp sp g → (∀ ν2, NUg S ν ν2 → DOC E (pf f ν2) PL AL) → ∀ (co cu : Nat) (m9 : CT) (cun : NT), E co = 10 → lv co ≤ n → KD (pf f ν) S co m9 → NCr PL AL cu cun → vx_Met l y_Walk_holds (k_Walk_holds :: gtbl) ({ frames := 60 + 5 * n, cells := 1, slots := 6, locals := 2500 + 200 * n }) (va_Pc [.ref wk, .ref co, .ref cu] (ml K dC dI ([(wk, .inr (10, [.ref wl, .int (nI tp), .int (nI sp), .ref rt])), (wl, .inl (cV, 10000, .inr (.inr (.inr (.inr g)))))] ++ va_pl L (pf f ν)) [(cI, .int), (cV, .object "QueryBench$Value")] sz)) (va_Qi (fun (r : Int32) (u : Nat × (Nat → Option Nat) × (Nat → Int64)) => r = bI (m9 rtn cun).1 ∧ ASK E S (m9 rtn cun).2 tp sp g ν u.1 u.2.1 u.2.2) (fun u t9 => mz dC dI ([(wk, .inr (10, [.ref wl, .int (nI tp), .int (nI u.1), .ref rt])), (wl, .inl (cV, 10000, .inr (.inr (.inr (.inr u.2.1)))))] ++ va_pl L (pf f u.2.2)) [(cI, .int), (cV, .object "QueryBench$Value")] (va_A ([(wk, .inr (10, [.ref wl, .int (nI tp), .int (nI sp), .ref rt])), (wl, .inl (cV, 10000, .inr (.inr (.inr (.inr g)))))] ++ va_pl L (pf f ν)) sz.size) t9 ∧ szk sz t9.heap (0) (0)) (va_A ([(wk, .inr (10, [.ref wl, .int (nI tp), .int (nI sp), .ref rt])), (wl, .inl (cV, 10000, .inr (.inr (.inr (.inr g)))))] ++ va_pl L (pf f ν)) sz.size)) (vx_X (fun (u : Int32 × Int32 × (Nat → Option Nat) × (Nat → Int64)) => 10000 < sp + (m9 rtn cun).2 ∧ NUg S ν u.2.2.2) (fun En u t9 => En = IOB ∧ mz dC dI ([(wk, .inr (10, [.ref wl, .int u.1, .int u.2.1, .ref rt])), (wl, .inl (cV, 10000, .inr (.inr (.inr (.inr u.2.2.1)))))] ++ va_pl L (pf f u.2.2.2)) [(cI, .int), (cV, .object "QueryBench$Value")] (va_A ([(wk, .inr (10, [.ref wl, .int (nI tp), .int (nI sp), .ref rt])), (wl, .inl (cV, 10000, .inr (.inr (.inr (.inr g)))))] ++ va_pl L (pf f ν)) sz.size) t9) (va_A ([(wk, .inr (10, [.ref wl, .int (nI tp), .int (nI sp), .ref rt])), (wl, .inl (cV, 10000, .inr (.inr (.inr (.inr g)))))] ++ va_pl L (pf f ν)) sz.size)) (1) (6) (va_A ([(wk, .inr (10, [.ref wl, .int (nI tp), .int (nI sp), .ref rt])), (wl, .inl (cV, 10000, .inr (.inr (.inr (.inr g)))))] ++ va_pl L (pf f ν)) sz.size)
/-- valueOf, of an operand of a level: what it answers -/
def VOF (l : Launch) (K : Nat → Nat × Nat) (dC : Nat → ClassId) (dI : Nat → Nat → Nat) (cI cV : ClassId) (E lv : Nat → Nat) (L : List Nat) (f : Nat → va_E) (PL : List NT) (AL : List Nat) (wk wl rt : Nat) (rtn : NT) (n : Nat) : Prop := ∀ (sz : Heap) (S : Nat → Nat) (tp sp : Nat) (g : Nat → Option Nat) (ν : Nat → Int64), WI E tp sp g → (∀ ν2, NUg S ν ν2 → DOC E (pf f ν2) PL AL) → ∀ (op cu : Nat) (m9 : OT) (cun : NT), E op = 11 → lv op ≤ n → OD (pf f ν) S op m9 → NCr PL AL cu cun → vx_Met l y_Walk_valueOf (k_Walk_valueOf :: gtbl) ({ frames := 60 + 5 * n, cells := 1, slots := 6, locals := 2500 + 200 * n }) (va_Pc [.ref wk, .ref op, .ref cu] (ml K dC dI ([(wk, .inr (10, [.ref wl, .int (nI tp), .int (nI sp), .ref rt])), (wl, .inl (cV, 10000, .inr (.inr (.inr (.inr g)))))] ++ va_pl L (pf f ν)) [(cI, .int), (cV, .object "QueryBench$Value")] sz)) (va_Qq (fun (r : Option Nat) (u : Nat × (Nat → Option Nat) × (Nat → Int64)) => VRp E f PL AL S u.2.2 r (m9 rtn cun).1 ∧ ASK E S (m9 rtn cun).2 tp sp g ν u.1 u.2.1 u.2.2) (fun u t9 => mz dC dI ([(wk, .inr (10, [.ref wl, .int (nI tp), .int (nI u.1), .ref rt])), (wl, .inl (cV, 10000, .inr (.inr (.inr (.inr u.2.1)))))] ++ va_pl L (pf f u.2.2)) [(cI, .int), (cV, .object "QueryBench$Value")] (va_A ([(wk, .inr (10, [.ref wl, .int (nI tp), .int (nI sp), .ref rt])), (wl, .inl (cV, 10000, .inr (.inr (.inr (.inr g)))))] ++ va_pl L (pf f ν)) sz.size) t9 ∧ szk sz t9.heap (0) (0)) (va_A ([(wk, .inr (10, [.ref wl, .int (nI tp), .int (nI sp), .ref rt])), (wl, .inl (cV, 10000, .inr (.inr (.inr (.inr g)))))] ++ va_pl L (pf f ν)) sz.size)) (vx_X (fun (u : Int32 × Int32 × (Nat → Option Nat) × (Nat → Int64)) => 10000 < sp + (m9 rtn cun).2 ∧ NUg S ν u.2.2.2) (fun En u t9 => En = IOB ∧ mz dC dI ([(wk, .inr (10, [.ref wl, .int u.1, .int u.2.1, .ref rt])), (wl, .inl (cV, 10000, .inr (.inr (.inr (.inr u.2.2.1)))))] ++ va_pl L (pf f u.2.2.2)) [(cI, .int), (cV, .object "QueryBench$Value")] (va_A ([(wk, .inr (10, [.ref wl, .int (nI tp), .int (nI sp), .ref rt])), (wl, .inl (cV, 10000, .inr (.inr (.inr (.inr g)))))] ++ va_pl L (pf f ν)) sz.size) t9) (va_A ([(wk, .inr (10, [.ref wl, .int (nI tp), .int (nI sp), .ref rt])), (wl, .inl (cV, 10000, .inr (.inr (.inr (.inr g)))))] ++ va_pl L (pf f ν)) sz.size)) (1) (6) (va_A ([(wk, .inr (10, [.ref wl, .int (nI tp), .int (nI sp), .ref rt])), (wl, .inl (cV, 10000, .inr (.inr (.inr (.inr g)))))] ++ va_pl L (pf f ν)) sz.size)
set_option maxHeartbeats 4000000 in
set_option maxRecDepth 100000 in
/-- Walk.pushFiltered: what it pushes -/
theorem p_Walk_pushFiltered (l : Launch) (hl9 : l.stackTraces = false) (K : Nat → Nat × Nat) (dC : Nat → ClassId) (dI : Nat → Nat → Nat) (sz : Heap) (cI cV : ClassId) (E lv : Nat → Nat) (L : List Nat) (f : Nat → va_E) (hO : PO cI cV E lv L f) (hN1 : ∀ a, E a ≠ 1) (PL : List NT) (AL : List Nat) (S : Nat → Nat) (wk wl rt : Nat) (hrt : isF E rt) (rtn : NT) (hrn : NCr PL AL rt rtn) (tp sp : Nat) (g : Nat → Option Nat) (ν : Nat → Int64) (hW9 : WI E tp sp g) (hDq9 : ∀ ν2, NUg S ν ν2 → DOC E (pf f ν2) PL AL) (nd : Nat) (ndn : NT) (hnn : NCr PL AL nd ndn) (n : Nat) (hn : 0 < n) (HI : HDF l K dC dI cI cV E lv L f PL AL wk wl rt rtn (n - 1)) (fl : Nat) (hfl : E fl = 10) (hlf : lv fl ≤ n - 1) (m9 : CT) (hKf : KD (pf f ν) S fl m9) : vx_Met l y_Walk_pushFiltered (k_Walk_pushFiltered :: gtbl) ({ frames := 57 + 5 * n, cells := 1, slots := 6, locals := 2380 + 200 * n }) (va_Pc [.ref wk, .ref nd, .ref fl] (ml K dC dI ([(wk, .inr (10, [.ref wl, .int (nI tp), .int (nI sp), .ref rt])), (wl, .inl (cV, 10000, .inr (.inr (.inr (.inr g)))))] ++ va_pl L (pf f ν)) [(cI, .int), (cV, .object "QueryBench$Value")] sz)) (va_Qv (fun (u : Nat × Nat × (Nat → Option Nat) × (Nat → Int64)) => PU E PL AL S ((filS m9 rtn ndn)) tp sp g ν u.1 u.2.1 u.2.2.1 u.2.2.2) (fun u t9 => mz dC dI ([(wk, .inr (10, [.ref wl, .int (nI u.1), .int (nI u.2.1), .ref rt])), (wl, .inl (cV, 10000, .inr (.inr (.inr (.inr u.2.2.1)))))] ++ va_pl L (pf f u.2.2.2)) [(cI, .int), (cV, .object "QueryBench$Value")] (va_A ([(wk, .inr (10, [.ref wl, .int (nI tp), .int (nI sp), .ref rt])), (wl, .inl (cV, 10000, .inr (.inr (.inr (.inr g)))))] ++ va_pl L (pf f ν)) sz.size) t9 ∧ szk sz t9.heap (0) (0)) (va_A ([(wk, .inr (10, [.ref wl, .int (nI tp), .int (nI sp), .ref rt])), (wl, .inl (cV, 10000, .inr (.inr (.inr (.inr g)))))] ++ va_pl L (pf f ν)) sz.size)) (vx_X (fun (u : Int32 × Int32 × (Nat → Option Nat) × (Nat → Int64)) => 10000 < sp + ((filS m9 rtn ndn)).2 ∧ NUg S ν u.2.2.2) (fun En u t9 => En = IOB ∧ mz dC dI ([(wk, .inr (10, [.ref wl, .int u.1, .int u.2.1, .ref rt])), (wl, .inl (cV, 10000, .inr (.inr (.inr (.inr u.2.2.1)))))] ++ va_pl L (pf f u.2.2.2)) [(cI, .int), (cV, .object "QueryBench$Value")] (va_A ([(wk, .inr (10, [.ref wl, .int (nI tp), .int (nI sp), .ref rt])), (wl, .inl (cV, 10000, .inr (.inr (.inr (.inr g)))))] ++ va_pl L (pf f ν)) sz.size) t9) (va_A ([(wk, .inr (10, [.ref wl, .int (nI tp), .int (nI sp), .ref rt])), (wl, .inl (cV, 10000, .inr (.inr (.inr (.inr g)))))] ++ va_pl L (pf f ν)) sz.size)) (1) (6) (va_A ([(wk, .inr (10, [.ref wl, .int (nI tp), .int (nI sp), .ref rt])), (wl, .inl (cV, 10000, .inr (.inr (.inr (.inr g)))))] ++ va_pl L (pf f ν)) sz.size) := by
  refine vx_ofW (cc := b_Walk_pushFiltered) (maxL := 4) (ret := none) (by decide) rfl ?_
  intro p e s m args below meth c s₁ B hml hex hv
  obtain ⟨rfl, ⟨hsz, hP, hK, hD0⟩, hN, hZ, hC, hV⟩ := hv
  have hx := B.exec
  have hb := B.bytes
  have hr := B.returns
  have hts0 := atoms_spec (ws := k_Walk_pushFiltered :: gtbl) B.pre
  have hts := fun w h => hts0 w (List.mem_cons_of_mem _ h)
  have hown : s.vm.findClass R_Walk = some m.cls := findClass_of_methodNamed B.named
  have hlocks := B.notSynchronized
  subst hsz
  have hD := hD0.self (sz := s.heap.size)
  generalize hAe : va_A ([(wk, .inr (10, [.ref wl, .int (nI tp), .int (nI sp), .ref rt])), (wl, .inl (cV, 10000, .inr (.inr (.inr (.inr g)))))] ++ va_pl L (pf f ν)) s.heap.size = A at hD hZ hC ⊢
  have hA : ∀ q : Nat, s.heap.size ≤ q → A q := fun q h => by rw [← hAe]; exact Or.inr h
  have hS : va_S A s.heap s.heap [] := va_S.rf
  have hP : va_P (dC, dI) classes ([(wk, .inr (10, [.ref wl, .int (nI tp), .int (nI sp), .ref rt])), (wl, .inl (cV, 10000, .inr (.inr (.inr (.inr g)))))] ++ va_pl L (pf f ν)) s.heap := hP
  have hl := lv_entry ([.ref wk, .ref nd, .ref fl]) (n := 4) (Nat.le_of_ble_eq_true rfl)
  rw [lg_entry_eq]
  generalize (lg_sl ([.ref wk, .ref nd, .ref fl]) ++ List.replicate (4 - (lg_sl ([.ref wk, .ref nd, .ref fl])).length) Slot.unset).toArray = ls at hl ⊢
  have hl : lv_has ls 4 [(0, .ref wk), (1, .ref nd), (2, .ref fl)] := hl
  have hW0 := hW9
  have hW1 := hW9.1
  have hW2 := hW9.2.1
  have hPU : PU E PL AL S (([], 0)) tp sp g ν tp sp g ν := PU.rf hW9
  have hDν := hDq9 ν NUg.rf
  obtain ⟨hnd, hCu⟩ := hnn.ax hDν
  have hR0 : catR ([], 0) (filL (m9 rtn) ((kdsN ndn).drop 0)) = (filS m9 rtn ndn) := (catR_l _).trans rfl
  refine lv_iconst (v := 0) hx hb d_Walk_pushFiltered_0 (by decide) ?_
  refine lv_istore_n (lv' := [(3, .int 0), (0, .ref wk), (1, .ref nd), (2, .ref fl)]) hx hb d_Walk_pushFiltered_1 rfl hl (by decide) rfl (fun ls hl => ?_)
  obtain ⟨kd21, nu21, tx21, me21, pa21, na21, ix21, nm21, no21, sp21, ef21, hv21⟩ := hO.val ((isF.v hnd))
  have hs := hO.szle ef21 hv21
  have hsk : szF f nd = (kdsN ndn).length := by rw [← hO.szpf (ν := ν) hnd, hCu.get.2.1, kdsN_len]
  refine w_loop (D := (dC, dI)) (cl := classes) (A := A) (H0 := s.heap) (nL := 4) 2 (σ := Nat × (List NT × Nat) × Nat × Nat × (Nat → Option Nat) × (Nat → Int64)) (fun ⟨i, D, t, s9, g1, ν3⟩ => i ≤ 4096 ∧ PU E PL AL S D tp sp g ν t s9 g1 ν3 ∧ catR D (filL (m9 rtn) ((kdsN ndn).drop i)) = (filS m9 rtn ndn)) (fun ⟨i, D, t, s9, g1, ν3⟩ => 4096 - i) (fun ⟨i, D, t, s9, g1, ν3⟩ => [(wk, .inr (10, [.ref wl, .int (nI t), .int (nI s9), .ref rt])), (wl, .inl (cV, 10000, .inr (.inr (.inr (.inr g1)))))] ++ va_pl L (pf f ν3)) (fun ⟨i, D, t, s9, g1, ν3⟩ => [(0, .ref wk), (1, .ref nd), (2, .ref fl), (3, .int (nI i))]) ?_ (0, ([], 0), tp, sp, g, ν) ⟨Nat.zero_le _, hPU, hR0⟩ hP hD hS (lv_sub hl [1, 2, 3, 0] rfl)
  rintro ⟨i, D, t, s9, g1, ν3⟩ H locs ls hI ih hP hD hS hl
  have hP : va_P (dC, dI) classes ([(wk, .inr (10, [.ref wl, .int (nI t), .int (nI s9), .ref rt])), (wl, .inl (cV, 10000, .inr (.inr (.inr (.inr g1)))))] ++ va_pl L (pf f ν3)) H := hP
  have hD : va_D A ([(wk, .inr (10, [.ref wl, .int (nI t), .int (nI s9), .ref rt])), (wl, .inl (cV, 10000, .inr (.inr (.inr (.inr g1)))))] ++ va_pl L (pf f ν3)) := hD
  have hl : lv_has ls 4 [(0, .ref wk), (1, .ref nd), (2, .ref fl), (3, .int (nI i))] := hl
  obtain ⟨hI, hPI, hRI⟩ := hI
  have hI : i ≤ 4096 := hI
  have hPI : PU E PL AL S D tp sp g ν t s9 g1 ν3 := hPI
  have hRI : catR D (filL (m9 rtn) ((kdsN ndn).drop i)) = (filS m9 rtn ndn) := hRI
  have hW_hPI := hPI.wi
  have hA_hPI := hW_hPI.1
  have hB_hPI := hW_hPI.2.1
  have hC_hPI := hPI.spt
  have hDν := hDq9 ν3 hPI.nu
  have hCu := (hnn.ax hDν).2
  refine lv_iload_n hx hb d_Walk_pushFiltered_2 rfl (lv_at hl 3 rfl) ?_
  refine lv_aload_n hx hb d_Walk_pushFiltered_3 rfl (lv_at hl 1 rfl) ?_
  refine vp_callSi (va_Run.run (va_runV (As := []) (rest := [.int (nI i)]) ⟨hx, hb, hml, hown, hts⟩ (c_Value_size l dC dI H cI cV E lv L (pf f ν3) (hO.num ν3) nd hnd) (cwV 0 hts (gt_V (own := R_Walk) (C := R_Value) (i := 118) (y := y_Value_size) i_Value_size z_874 z_866 z_867 z_14) rfl rfl rfl (by decide +kernel) ⟨by show 0 + 1 ≤ 57 + 5 * n; omega, by show 8 + (1 + 11) + (0) ≤ 2380 + 200 * n; omega⟩) ⟨mq_blind, vq_recv hK hP rfl (hO.inV (isF.v hnd)) (pf_V ef21), fun U hU hW => ⟨rfl, hU, by rw [hU]; exact hP.part (cx := []) [] rfl, va_K.moved hW.alike hK, hN.warm hW⟩⟩ rfl rfl hl.1 rfl (lv_room (Nat.le_of_ble_eq_true rfl)) d_Walk_pushFiltered_4 ⟨Nat.le_of_ble_eq_true rfl, Nat.le_of_ble_eq_true rfl⟩)) (fun r22 h_r22 => ?_)
  rw [hO.szpf hnd] at h_r22
  subst h_r22
  refine lv_icmp_ge (tgt := 44) hx hb d_Walk_pushFiltered_7 (by decide) (fun c7 => ?_) (fun c7 => ?_)
  · have hie : (kdsN ndn).length ≤ i := by rw [nI_leI (by omega) (by omega)] at c7; omega
    have hfin : PU E PL AL S ((filS m9 rtn ndn)) tp sp g ν t s9 g1 ν3 := by rw [← show D = (filS m9 rtn ndn) from by rw [← hRI, filL_end hie]; exact (catR_0 _).symm]; exact hPI
    refine w_same (fun hq => ?_)
    refine W.widen (k := 1) (n := 6) (Nat.le_of_ble_eq_true rfl) (Nat.le_of_ble_eq_true rfl) ?_
    refine vx_ret ?_
    exact W.vret hx hb hr (fun t9 ht hW => ⟨⟨(t, s9, g1, ν3), rfl, hfin, ⟨by rw [ht]; exact hP, va_K.moved hW.alike hK, hD⟩, by rw [ht]; exact hq⟩, hS.F ht⟩) hS.2.2 d_Walk_pushFiltered_44
  · have hi : i < szF f nd := by rw [nI_leI (by omega) (by omega)] at c7; omega
    obtain ⟨c9, hc9⟩ : ∃ c, (kdsN ndn)[i]? = some c := ⟨_, List.getElem?_eq_getElem (by omega)⟩
    refine lv_aload_n hx hb d_Walk_pushFiltered_10 rfl (lv_at hl 0 rfl) ?_
    have hRd := filL_drop (s := m9 rtn) hc9
    obtain ⟨P9, hP9⟩ : ∃ z, z = (if (m9 rtn c9.2).1 = true then (([c9.2], 1) : List NT × Nat) else ([], 0)) := ⟨_, rfl⟩
    rw [← hP9] at hRd
    have hRI1 : catR D (catR ([], 1) (catR ([], (m9 rtn c9.2).2) (catR P9 (filL (m9 rtn) ((kdsN ndn).drop (i + 1)))))) = (filS m9 rtn ndn) := by rw [← hRd]; exact hRI
    obtain ⟨w9, hw9⟩ : ∃ z, z = P9.2 := ⟨_, rfl⟩
    have hR9 : (filS m9 rtn ndn).2 = D.2 + (1 + ((m9 rtn c9.2).2 + (w9 + (filL (m9 rtn) ((kdsN ndn).drop (i + 1))).2))) := by rw [← hRI1, hw9]; rfl
    have hPc := hP.sub (ws' := [(wk, .inr (10, [.ref wl, .int (nI t), .int (nI s9), .ref rt]))]) [0] rfl
    have hDc := hD.sub (ws' := [(wk, .inr (10, [.ref wl, .int (nI t), .int (nI s9), .ref rt]))]) [0] (by decide) rfl
    have hFc := va_free (wc := [(wk, .inr (10, [.ref wl, .int (nI t), .int (nI s9), .ref rt]))]) hD hS hA [0] rfl
    have hKc := hK.sub (tys' := []) [] rfl
    refine w_same (fun hq0 => ?_)
    refine vx_callv (vx_runV (As := []) (rest := []) ⟨hx, hb, hml, hown, hts⟩ (c_Walk_spend l hl9 dC dI wk H (.ref wl) (.ref rt) (nI t) s9 (by omega)) (cwV 0 hts (gt_V (own := R_Walk) (C := R_Walk) (i := 58) (y := y_Walk_spend) i_Walk_spend z_843 z_845 (gt_sel (y := y_Walk_spend) (n := 4) (by decide +kernel)) w_5) rfl rfl rfl (by decide +kernel) ⟨by show 8 + 1 ≤ 57 + 5 * n; omega, by show 8 + (1 + 11) + (110) ≤ 2380 + 200 * n; omega⟩) ⟨mx_blind, va_recv hK hP (ci := 10) (q0 := 0) rfl rfl, fun U hU hW => ⟨rfl, ⟨hU, by rw [hU]; exact hPc, va_K.moved hW.alike hKc, hDc.weaken (fun _ _ _ _ => trivial)⟩, hN.warm hW, by rw [hU]; exact ZX.moved' hW.alike (ZX.narrow' (ZX.kept' hZ hS.2.1) hFc)⟩⟩ rfl rfl hl.1 rfl (lv_room (Nat.le_of_ble_eq_true rfl)) d_Walk_pushFiltered_11 ⟨Nat.le_of_ble_eq_true rfl, Nat.le_of_ble_eq_true rfl⟩) hS (fun q _ h => hFc q h) hFc (fun q _ h => hFc q h) (fun En ce q9 _u t9 H1 locs ht hvm hw hB hz1 hk1 hS hce hcv hcl => ?_) (fun _u t9 H1 locs ht hvm hw hB hz1 hk1 hS => ?_)
    · obtain ⟨hEn, hP1, hK1, hD1⟩ := hB
      rw [ht] at hP1
      obtain ⟨hP, hD⟩ := va_joinQ (wr := [(wl, .inl (cV, 10000, .inr (.inr (.inr (.inr g1)))))]) (w1 := [(wk, .inr (10, [.ref wl, .int (nI t), .int (nI s9), .ref rt]))]) hP hD [0] [1] rfl rfl (by decide) (by decide) hk1 hFc hP1 hD1
      generalize H1 = H at hP hS hce ⊢
      have hP : va_P (dC, dI) classes ([(wl, .inl (cV, 10000, .inr (.inr (.inr (.inr g1))))), (wk, .inr (10, [.ref wl, .int (nI t), .int (nI s9), .ref rt]))] ++ va_pl L (pf f ν3)) H := hP
      have hD : va_D A ([(wl, .inl (cV, 10000, .inr (.inr (.inr (.inr g1))))), (wk, .inr (10, [.ref wl, .int (nI t), .int (nI s9), .ref rt]))] ++ va_pl L (pf f ν3)) := hD
      have hP := hP.part (cx := [(wk, .inr (10, [.ref wl, .int (nI t), .int (nI s9), .ref rt])), (wl, .inl (cV, 10000, .inr (.inr (.inr (.inr g1)))))]) [1, 0] rfl
      have hD := hD.part (cx := [(wk, .inr (10, [.ref wl, .int (nI t), .int (nI s9), .ref rt])), (wl, .inl (cV, 10000, .inr (.inr (.inr (.inr g1)))))]) [1, 0] (by decide) rfl
      have hno : 10000 < sp + ((filS m9 rtn ndn)).2 := by have hw : ¬ s9 < 10000 := hw; rw [show (filS m9 rtn ndn).2 = D.2 + (1 + ((m9 rtn c9.2).2 + (w9 + (filL (m9 rtn) ((kdsN ndn).drop (i + 1))).2))) from hR9]; omega
      exact vx_out (fun x hx => (hex x hx).elim) hlocks hce hcv hcl (fun t9 ht2 ha => ⟨(nI t, nI s9, g1, ν3), ⟨hno, hPI.nu⟩, ⟨hEn, by rw [ht2]; exact hP, va_K.moved ha hK, hD⟩, hS.F ht2⟩) hS.2.2 (Nat.le_of_ble_eq_true rfl) (Nat.le_of_ble_eq_true rfl)
    · obtain ⟨⟨hP1, hK1, hD1⟩, hz9⟩ := hB
      rw [ht] at hP1
      rw [ht] at hz9
      refine w_tight (hq0.trans hz9) ?_
      have hq0 := hq0.trans hz9
      obtain ⟨hP, hD⟩ := va_joinQ (wr := [(wl, .inl (cV, 10000, .inr (.inr (.inr (.inr g1)))))]) (w1 := [(wk, .inr (10, [.ref wl, .int (nI t), .int (nI (s9 + 1)), .ref rt]))]) hP hD [0] [1] rfl rfl (by decide) (by decide) hk1 hFc hP1 hD1
      generalize H1 = H at hP hS hq0 ⊢
      have hP : va_P (dC, dI) classes ([(wl, .inl (cV, 10000, .inr (.inr (.inr (.inr g1))))), (wk, .inr (10, [.ref wl, .int (nI t), .int (nI (s9 + 1)), .ref rt]))] ++ va_pl L (pf f ν3)) H := hP
      have hD : va_D A ([(wl, .inl (cV, 10000, .inr (.inr (.inr (.inr g1))))), (wk, .inr (10, [.ref wl, .int (nI t), .int (nI (s9 + 1)), .ref rt]))] ++ va_pl L (pf f ν3)) := hD
      have hP := hP.part (cx := [(wk, .inr (10, [.ref wl, .int (nI t), .int (nI (s9 + 1)), .ref rt])), (wl, .inl (cV, 10000, .inr (.inr (.inr (.inr g1)))))]) [1, 0] rfl
      have hD := hD.part (cx := [(wk, .inr (10, [.ref wl, .int (nI t), .int (nI (s9 + 1)), .ref rt])), (wl, .inl (cV, 10000, .inr (.inr (.inr (.inr g1)))))]) [1, 0] (by decide) rfl
      have hsp23 : s9 < 10000 := hw
      have hP23 := hPI.work hsp23
      have hW_hP23 := hP23.wi
      have hA_hP23 := hW_hP23.1
      have hB_hP23 := hW_hP23.2.1
      have hC_hP23 := hP23.spt
      refine lv_aload_n hx hb d_Walk_pushFiltered_14 rfl (lv_at hl 0 rfl) ?_
      refine lv_aload_n hx hb d_Walk_pushFiltered_15 rfl (lv_at hl 2 rfl) ?_
      refine lv_aload_n hx hb d_Walk_pushFiltered_16 rfl (lv_at hl 1 rfl) ?_
      rcases me21 with _ | b24
      · exact absurd (PO.mem0 ef21) (by omega)
      · refine vq_get (D := (dC, dI)) (ci := 9) (v := .ref b24) (C := R_Value) (T := F_Value) (N := 10) hx hb hts in_Value hown hK hP (hO.inV (isF.v hnd)) (pf_V ef21) rfl 3 (by decide) (hts _ z_328) (fun _ h9 => h9) rfl d_Walk_pushFiltered_17 ?_
        refine lv_iload_n hx hb d_Walk_pushFiltered_20 rfl (lv_at hl 3 rfl) ?_
        obtain ⟨g25, hi25, ef25, hg25⟩ := hO.mem1 ef21 hv21 (isF.n1 hnd)
        have hn25 := hO.szle ef21 hv21
        obtain ⟨me26, hm26, hf26, hnm26⟩ := hg25 i hi
        refine vq_aald hx hb hK hP 1 hi25 (pf_A ef25) rfl (j := i) hi hn25 hm26 d_Walk_pushFiltered_21 ?_
        have hPc := hP.part (cx := [(wk, .inr (10, [.ref wl, .int (nI t), .int (nI (s9 + 1)), .ref rt])), (wl, .inl (cV, 10000, .inr (.inr (.inr (.inr g1)))))]) [0, 1] rfl
        have hDc := hD.part (cx := [(wk, .inr (10, [.ref wl, .int (nI t), .int (nI (s9 + 1)), .ref rt])), (wl, .inl (cV, 10000, .inr (.inr (.inr (.inr g1)))))]) [0, 1] (by decide) rfl
        have hFc := va_freeP (cx := [(wk, .inr (10, [.ref wl, .int (nI t), .int (nI (s9 + 1)), .ref rt])), (wl, .inl (cV, 10000, .inr (.inr (.inr (.inr g1)))))]) hD hS hA [0, 1] rfl
        have hKc := hK.sub (tys' := [(cI, .int), (cV, .object "QueryBench$Value")]) [0, 1] rfl
        refine w_same (fun hq0 => ?_)
        refine vx_calli (vx_runV (As := [.ref fl, .ref me26]) (rest := []) ⟨hx, hb, hml, hown, hts⟩ (HI H S t (s9 + 1) g1 ν3 hW_hP23 (fun ν2 h2 => hDq9 ν2 (hP23.nu.tr h2)) fl me26 m9 c9.2 hfl hlf (hKf.nu hO hfl hP23.nu SUB.rf) (hnn.kid (hDq9 ν3 hP23.nu) hc9 ((memF_a (pf_V ef21) (pf_A ef25)).trans hm26))) (cwV 2 hts (gt_V (own := R_Walk) (C := R_Walk) (i := 152) (y := y_Walk_holds) i_Walk_holds z_895 z_897 (gt_sel (y := y_Walk_holds) (n := 4) (by decide +kernel)) w_5) rfl rfl rfl (by decide +kernel) ⟨by show 60 + 5 * (n - 1) + 1 ≤ 57 + 5 * n; omega, by show 8 + (3 + 11) + (2500 + 200 * (n - 1)) ≤ 2380 + 200 * n; omega⟩) ⟨ml_blind, va_recv hK hP (ci := 10) (q0 := 0) rfl rfl, fun U hU hW => ⟨rfl, ⟨hU, by rw [hU]; exact hPc, va_K.moved hW.alike hKc, hDc.weaken (fun _ _ _ _ => trivial)⟩, hN.warm hW, by rw [hU]; exact ZX.moved' hW.alike (ZX.narrow' (ZX.kept' hZ hS.2.1) hFc), by rw [hU]; exact CE.call hC hS.2.1 hFc hW, va_AO.moved hW.alike hV⟩⟩ rfl rfl hl.1 rfl (lv_room (Nat.le_of_ble_eq_true rfl)) d_Walk_pushFiltered_22 ⟨Nat.le_of_ble_eq_true rfl, Nat.le_of_ble_eq_true rfl⟩) hS (fun q _ h => hFc q h) hFc (fun q _ h => hFc q h) (fun En ce q9 ⟨tx, sx, gx, nx⟩ t9 H1 locs ht hvm hw hB hz1 hk1 hS hce hcv hcl => ?_) (fun r27 ⟨s27, g27, n27⟩ t9 H1 locs ht hvm hw hB hz1 hk1 hS => ?_)
        · obtain ⟨hEn, hP1, hK1, hD1⟩ := hB
          rw [ht] at hP1
          obtain ⟨hP, hD⟩ := va_joinP (wr := []) (rx := [(wk, .inr (10, [.ref wl, .int tx, .int sx, .ref rt])), (wl, .inl (cV, 10000, .inr (.inr (.inr (.inr gx)))))]) (pl1 := va_pl L (pf f nx)) hP hD [0, 1] [] rfl rfl (by decide) (by decide) hk1 hFc hP1 hD1
          generalize H1 = H at hP hS hce ⊢
          have hP : va_P (dC, dI) classes ([(wk, .inr (10, [.ref wl, .int tx, .int sx, .ref rt])), (wl, .inl (cV, 10000, .inr (.inr (.inr (.inr gx)))))] ++ va_pl L (pf f nx)) H := hP
          have hD : va_D A ([(wk, .inr (10, [.ref wl, .int tx, .int sx, .ref rt])), (wl, .inl (cV, 10000, .inr (.inr (.inr (.inr gx)))))] ++ va_pl L (pf f nx)) := hD
          have hno : 10000 < sp + (filS m9 rtn ndn).2 := by have hw : 10000 < (s9 + 1) + (m9 rtn c9.2).2 := hw.1; rw [show (filS m9 rtn ndn).2 = D.2 + (1 + ((m9 rtn c9.2).2 + (w9 + (filL (m9 rtn) ((kdsN ndn).drop (i + 1))).2))) from hR9]; omega
          exact vx_out (fun x hx => (hex x hx).elim) hlocks hce hcv hcl (fun t9 ht2 ha => ⟨(tx, sx, gx, nx), ⟨hno, hP23.nu.tr hw.2⟩, ⟨hEn, by rw [ht2]; exact hP, va_K.moved ha hK, hD⟩, hS.F ht2⟩) hS.2.2 (Nat.le_of_ble_eq_true rfl) (Nat.le_of_ble_eq_true rfl)
        · obtain ⟨⟨hP1, hK1, hD1⟩, hz9⟩ := hB
          rw [ht] at hP1
          rw [ht] at hz9
          refine w_tight (hq0.trans hz9) ?_
          have hq0 := hq0.trans hz9
          obtain ⟨hP, hD⟩ := va_joinP (wr := []) (rx := [(wk, .inr (10, [.ref wl, .int (nI t), .int (nI s27), .ref rt])), (wl, .inl (cV, 10000, .inr (.inr (.inr (.inr g27)))))]) (pl1 := va_pl L (pf f n27)) hP hD [0, 1] [] rfl rfl (by decide) (by decide) hk1 hFc hP1 hD1
          generalize H1 = H at hP hS hq0 ⊢
          have hP : va_P (dC, dI) classes ([(wk, .inr (10, [.ref wl, .int (nI t), .int (nI s27), .ref rt])), (wl, .inl (cV, 10000, .inr (.inr (.inr (.inr g27)))))] ++ va_pl L (pf f n27)) H := hP
          have hD : va_D A ([(wk, .inr (10, [.ref wl, .int (nI t), .int (nI s27), .ref rt])), (wl, .inl (cV, 10000, .inr (.inr (.inr (.inr g27)))))] ++ va_pl L (pf f n27)) := hD
          obtain ⟨hr27, hA27⟩ := hw
          have hA27 : ASK E S (m9 rtn c9.2).2 t (s9 + 1) g1 ν3 s27 g27 n27 := hA27
          have hP27 : PU E PL AL S (catR (catR D ([], 1)) ([], (m9 rtn c9.2).2)) tp sp g ν t s27 g27 n27 := hP23.ask hA27.1 hA27.2.1 hA27.2.2.1 hA27.2.2.2
          have hW_hP27 := hP27.wi
          have hA_hP27 := hW_hP27.1
          have hB_hP27 := hW_hP27.2.1
          have hC_hP27 := hP27.spt
          have hb9 : r27 = bI (m9 rtn c9.2).1 := hr27
          have hsq27 : s27 = (s9 + 1) + (m9 rtn c9.2).2 := hA27.1
          refine lv_if_eq (tgt := 38) hx hb d_Walk_pushFiltered_25 (by decide) (fun c25 => ?_) (fun c25 => ?_)
          · have hf9 : (m9 rtn c9.2).1 = false := bI_f (hb9.symm.trans c25)
            have hPs0 : P9 = ([], 0) := by rw [hP9, if_neg (show ¬ (m9 rtn c9.2).1 = true by rw [hf9]; decide)]
            have hRI2 : catR (catR (catR D ([], 1)) ([], (m9 rtn c9.2).2)) (filL (m9 rtn) ((kdsN ndn).drop (i + 1))) = (filS m9 rtn ndn) := by rw [← hRI1, hPs0]; simp only [catR_a, catR_l]
            refine lv_iinc (v := nI (i + 1)) (lv' := [(3, .int (nI (i + 1))), (0, .ref wk), (1, .ref nd), (2, .ref fl)]) hx hb d_Walk_pushFiltered_38 hl (k := 3) rfl (nI_1 _) (by decide) rfl (fun ls hl => ?_)
            refine lv_goto (tgt := 2) hx hb d_Walk_pushFiltered_41 (by decide) ?_
            exact ih (i + 1, catR (catR D ([], 1)) ([], (m9 rtn c9.2).2), t, s27, g27, n27) _ _ _ ⟨show i + 1 ≤ 4096 by omega, hP27, hRI2⟩ (by show 4096 - (i + 1) < 4096 - i; omega) hP hD hS (lv_sub hl [1, 2, 3, 0] rfl)
          · refine lv_aload_n hx hb d_Walk_pushFiltered_28 rfl (lv_at hl 0 rfl) ?_
            refine lv_aload_n hx hb d_Walk_pushFiltered_29 rfl (lv_at hl 1 rfl) ?_
            refine vq_get (D := (dC, dI)) (ci := 9) (v := .ref b24) (C := R_Value) (T := F_Value) (N := 10) hx hb hts in_Value hown hK hP (hO.inV (isF.v hnd)) (pf_V ef21) rfl 3 (by decide) (hts _ z_328) (fun _ h9 => h9) rfl d_Walk_pushFiltered_30 ?_
            refine lv_iload_n hx hb d_Walk_pushFiltered_33 rfl (lv_at hl 3 rfl) ?_
            obtain ⟨me28, hm28, hf28, hnm28⟩ := hg25 i hi
            refine vq_aald hx hb hK hP 1 hi25 (pf_A ef25) rfl (j := i) hi hn25 hm28 d_Walk_pushFiltered_34 ?_
            have hPs1 : P9 = ([c9.2], 1) := by rw [hP9, if_pos (bI_t (by rw [← hb9]; exact c25))]
            have hPc := hP.part (cx := [(wk, .inr (10, [.ref wl, .int (nI t), .int (nI s27), .ref rt])), (wl, .inl (cV, 10000, .inr (.inr (.inr (.inr g27)))))]) [0, 1] rfl
            have hDc := hD.part (cx := [(wk, .inr (10, [.ref wl, .int (nI t), .int (nI s27), .ref rt])), (wl, .inl (cV, 10000, .inr (.inr (.inr (.inr g27)))))]) [0, 1] (by decide) rfl
            have hFc := va_freeP (cx := [(wk, .inr (10, [.ref wl, .int (nI t), .int (nI s27), .ref rt])), (wl, .inl (cV, 10000, .inr (.inr (.inr (.inr g27)))))]) hD hS hA [0, 1] rfl
            have hKc := hK.sub (tys' := [(cI, .int), (cV, .object "QueryBench$Value")]) [0, 1] rfl
            refine w_same (fun hq0 => ?_)
            refine vx_callv (vx_runV (As := [.ref me28]) (rest := []) ⟨hx, hb, hml, hown, hts⟩ (p_Walk_push l hl9 K dC dI H cI cV E lv L f hO hN1 PL AL S wk wl rt hrt rtn hrn t s27 g27 n27 hW_hP27 (fun ν2 h2 => hDq9 ν2 (hP27.nu.tr h2)) me28 c9.2 (hnn.kid (hDq9 n27 hP27.nu) hc9 ((memF_a (pf_V ef21) (pf_A ef25)).trans hm28))) (cwV 1 hts (gt_V (own := R_Walk) (C := R_Walk) (i := 38) (y := y_Walk_push) i_Walk_push z_839 z_841 (gt_sel (y := y_Walk_push) (n := 4) (by decide +kernel)) w_5) rfl rfl rfl (by decide +kernel) ⟨by show 9 + 1 ≤ 57 + 5 * n; omega, by show 8 + (2 + 11) + (150) ≤ 2380 + 200 * n; omega⟩) ⟨ml_blind, va_recv hK hP (ci := 10) (q0 := 0) rfl rfl, fun U hU hW => ⟨rfl, ⟨hU, by rw [hU]; exact hPc, va_K.moved hW.alike hKc, hDc.weaken (fun _ _ _ _ => trivial)⟩, hN.warm hW, by rw [hU]; exact ZX.moved' hW.alike (ZX.narrow' (ZX.kept' hZ hS.2.1) hFc), by rw [hU]; exact CE.call hC hS.2.1 hFc hW, va_AO.moved hW.alike hV⟩⟩ rfl rfl hl.1 rfl (lv_room (Nat.le_of_ble_eq_true rfl)) d_Walk_pushFiltered_35 ⟨Nat.le_of_ble_eq_true rfl, Nat.le_of_ble_eq_true rfl⟩) hS (fun q _ h => hFc q h) hFc (fun q _ h => hFc q h) (fun En ce q9 ⟨tx, sx, gx, nx⟩ t9 H1 locs ht hvm hw hB hz1 hk1 hS hce hcv hcl => ?_) (fun ⟨t29, s29, g29, n29⟩ t9 H1 locs ht hvm hw hB hz1 hk1 hS => ?_)
            · obtain ⟨hEn, hP1, hK1, hD1⟩ := hB
              rw [ht] at hP1
              obtain ⟨hP, hD⟩ := va_joinP (wr := []) (rx := [(wk, .inr (10, [.ref wl, .int tx, .int sx, .ref rt])), (wl, .inl (cV, 10000, .inr (.inr (.inr (.inr gx)))))]) (pl1 := va_pl L (pf f nx)) hP hD [0, 1] [] rfl rfl (by decide) (by decide) hk1 hFc hP1 hD1
              generalize H1 = H at hP hS hce ⊢
              have hP : va_P (dC, dI) classes ([(wk, .inr (10, [.ref wl, .int tx, .int sx, .ref rt])), (wl, .inl (cV, 10000, .inr (.inr (.inr (.inr gx)))))] ++ va_pl L (pf f nx)) H := hP
              have hD : va_D A ([(wk, .inr (10, [.ref wl, .int tx, .int sx, .ref rt])), (wl, .inl (cV, 10000, .inr (.inr (.inr (.inr gx)))))] ++ va_pl L (pf f nx)) := hD
              have hno : 10000 < sp + ((filS m9 rtn ndn)).2 := by have hw : 10000 < s27 + (([c9.2], 1)).2 := hw.1; rw [show (filS m9 rtn ndn).2 = D.2 + (1 + ((m9 rtn c9.2).2 + (1 + (filL (m9 rtn) ((kdsN ndn).drop (i + 1))).2))) by rw [hR9, hw9, hPs1]]; omega
              exact vx_out (fun x hx => (hex x hx).elim) hlocks hce hcv hcl (fun t9 ht2 ha => ⟨(tx, sx, gx, nx), ⟨hno, hP27.nu.tr hw.2⟩, ⟨hEn, by rw [ht2]; exact hP, va_K.moved ha hK, hD⟩, hS.F ht2⟩) hS.2.2 (Nat.le_of_ble_eq_true rfl) (Nat.le_of_ble_eq_true rfl)
            · obtain ⟨⟨hP1, hK1, hD1⟩, hz9⟩ := hB
              rw [ht] at hP1
              rw [ht] at hz9
              refine w_tight (hq0.trans hz9) ?_
              have hq0 := hq0.trans hz9
              obtain ⟨hP, hD⟩ := va_joinP (wr := []) (rx := [(wk, .inr (10, [.ref wl, .int (nI t29), .int (nI s29), .ref rt])), (wl, .inl (cV, 10000, .inr (.inr (.inr (.inr g29)))))]) (pl1 := va_pl L (pf f n29)) hP hD [0, 1] [] rfl rfl (by decide) (by decide) hk1 hFc hP1 hD1
              generalize H1 = H at hP hS hq0 ⊢
              have hP : va_P (dC, dI) classes ([(wk, .inr (10, [.ref wl, .int (nI t29), .int (nI s29), .ref rt])), (wl, .inl (cV, 10000, .inr (.inr (.inr (.inr g29)))))] ++ va_pl L (pf f n29)) H := hP
              have hD : va_D A ([(wk, .inr (10, [.ref wl, .int (nI t29), .int (nI s29), .ref rt])), (wl, .inl (cV, 10000, .inr (.inr (.inr (.inr g29)))))] ++ va_pl L (pf f n29)) := hD
              have hP29 : PU E PL AL S (catR (catR (catR D ([], 1)) ([], (m9 rtn c9.2).2)) (([c9.2], 1))) tp sp g ν t29 s29 g29 n29 := hP27.tr hw
              have hW_hP29 := hP29.wi
              have hA_hP29 := hW_hP29.1
              have hB_hP29 := hW_hP29.2.1
              have hC_hP29 := hP29.spt
              have hRI2 : catR (catR (catR (catR D ([], 1)) ([], (m9 rtn c9.2).2)) (([c9.2], 1))) (filL (m9 rtn) ((kdsN ndn).drop (i + 1))) = (filS m9 rtn ndn) := by rw [← hRI1, hPs1]; simp only [catR_a]
              refine lv_iinc (v := nI (i + 1)) (lv' := [(3, .int (nI (i + 1))), (0, .ref wk), (1, .ref nd), (2, .ref fl)]) hx hb d_Walk_pushFiltered_38 hl (k := 3) rfl (nI_1 _) (by decide) rfl (fun ls hl => ?_)
              refine lv_goto (tgt := 2) hx hb d_Walk_pushFiltered_41 (by decide) ?_
              exact ih (i + 1, catR (catR (catR D ([], 1)) ([], (m9 rtn c9.2).2)) (([c9.2], 1)), t29, s29, g29, n29) _ _ _ ⟨show i + 1 ≤ 4096 by omega, hP29, hRI2⟩ (by show 4096 - (i + 1) < 4096 - i; omega) hP hD hS (lv_sub hl [1, 2, 3, 0] rfl)
set_option maxHeartbeats 4000000 in
set_option maxRecDepth 100000 in
/-- Walk.choose: what it pushes -/
theorem p_Walk_choose (l : Launch) (hl9 : l.stackTraces = false) (K : Nat → Nat × Nat) (dC : Nat → ClassId) (dI : Nat → Nat → Nat) (sz : Heap) (cI cV : ClassId) (E lv : Nat → Nat) (L : List Nat) (f : Nat → va_E) (hO : PO cI cV E lv L f) (hN1 : ∀ a, E a ≠ 1) (PL : List NT) (AL : List Nat) (S : Nat → Nat) (wk wl rt : Nat) (hrt : isF E rt) (rtn : NT) (hrn : NCr PL AL rt rtn) (tp sp : Nat) (g : Nat → Option Nat) (ν : Nat → Int64) (hW9 : WI E tp sp g) (hDq9 : ∀ ν2, NUg S ν ν2 → DOC E (pf f ν2) PL AL) (nd : Nat) (ndn : NT) (hnn : NCr PL AL nd ndn) (n : Nat) (HI : 0 < n → HDF l K dC dI cI cV E lv L f PL AL wk wl rt rtn (n - 1)) (sg : Nat) (hsg : E sg = 8) (hls : lv sg ≤ n) (l9 : List QT) (hCh : CHD LD 8 (pf f ν) S (refE 1 (pf f ν sg)) l9) : vx_Met l y_Walk_choose (k_Walk_choose :: gtbl) ({ frames := 58 + 5 * n, cells := 1, slots := 6, locals := 2420 + 200 * n }) (va_Pc [.ref wk, .ref sg, .ref nd] (ml K dC dI ([(wk, .inr (10, [.ref wl, .int (nI tp), .int (nI sp), .ref rt])), (wl, .inl (cV, 10000, .inr (.inr (.inr (.inr g)))))] ++ va_pl L (pf f ν)) [(cI, .int), (cV, .object "QueryBench$Value")] sz)) (va_Qv (fun (u : Nat × Nat × (Nat → Option Nat) × (Nat → Int64)) => PU E PL AL S ((chsS l9 rtn ndn)) tp sp g ν u.1 u.2.1 u.2.2.1 u.2.2.2) (fun u t9 => mz dC dI ([(wk, .inr (10, [.ref wl, .int (nI u.1), .int (nI u.2.1), .ref rt])), (wl, .inl (cV, 10000, .inr (.inr (.inr (.inr u.2.2.1)))))] ++ va_pl L (pf f u.2.2.2)) [(cI, .int), (cV, .object "QueryBench$Value")] (va_A ([(wk, .inr (10, [.ref wl, .int (nI tp), .int (nI sp), .ref rt])), (wl, .inl (cV, 10000, .inr (.inr (.inr (.inr g)))))] ++ va_pl L (pf f ν)) sz.size) t9 ∧ szk sz t9.heap (0) (0)) (va_A ([(wk, .inr (10, [.ref wl, .int (nI tp), .int (nI sp), .ref rt])), (wl, .inl (cV, 10000, .inr (.inr (.inr (.inr g)))))] ++ va_pl L (pf f ν)) sz.size)) (vx_X (fun (u : Int32 × Int32 × (Nat → Option Nat) × (Nat → Int64)) => 10000 < sp + ((chsS l9 rtn ndn)).2 ∧ NUg S ν u.2.2.2) (fun En u t9 => En = IOB ∧ mz dC dI ([(wk, .inr (10, [.ref wl, .int u.1, .int u.2.1, .ref rt])), (wl, .inl (cV, 10000, .inr (.inr (.inr (.inr u.2.2.1)))))] ++ va_pl L (pf f u.2.2.2)) [(cI, .int), (cV, .object "QueryBench$Value")] (va_A ([(wk, .inr (10, [.ref wl, .int (nI tp), .int (nI sp), .ref rt])), (wl, .inl (cV, 10000, .inr (.inr (.inr (.inr g)))))] ++ va_pl L (pf f ν)) sz.size) t9) (va_A ([(wk, .inr (10, [.ref wl, .int (nI tp), .int (nI sp), .ref rt])), (wl, .inl (cV, 10000, .inr (.inr (.inr (.inr g)))))] ++ va_pl L (pf f ν)) sz.size)) (1) (6) (va_A ([(wk, .inr (10, [.ref wl, .int (nI tp), .int (nI sp), .ref rt])), (wl, .inl (cV, 10000, .inr (.inr (.inr (.inr g)))))] ++ va_pl L (pf f ν)) sz.size) := by
  refine vx_ofW (cc := b_Walk_choose) (maxL := 4) (ret := none) (by decide) rfl ?_
  intro p e s m args below meth c s₁ B hml hex hv
  obtain ⟨rfl, ⟨hsz, hP, hK, hD0⟩, hN, hZ, hC, hV⟩ := hv
  have hx := B.exec
  have hb := B.bytes
  have hr := B.returns
  have hts0 := atoms_spec (ws := k_Walk_choose :: gtbl) B.pre
  have hts := fun w h => hts0 w (List.mem_cons_of_mem _ h)
  have hown : s.vm.findClass R_Walk = some m.cls := findClass_of_methodNamed B.named
  have hlocks := B.notSynchronized
  subst hsz
  have hD := hD0.self (sz := s.heap.size)
  generalize hAe : va_A ([(wk, .inr (10, [.ref wl, .int (nI tp), .int (nI sp), .ref rt])), (wl, .inl (cV, 10000, .inr (.inr (.inr (.inr g)))))] ++ va_pl L (pf f ν)) s.heap.size = A at hD hZ hC ⊢
  have hA : ∀ q : Nat, s.heap.size ≤ q → A q := fun q h => by rw [← hAe]; exact Or.inr h
  have hS : va_S A s.heap s.heap [] := va_S.rf
  have hP : va_P (dC, dI) classes ([(wk, .inr (10, [.ref wl, .int (nI tp), .int (nI sp), .ref rt])), (wl, .inl (cV, 10000, .inr (.inr (.inr (.inr g)))))] ++ va_pl L (pf f ν)) s.heap := hP
  have hl := lv_entry ([.ref wk, .ref sg, .ref nd]) (n := 4) (Nat.le_of_ble_eq_true rfl)
  rw [lg_entry_eq]
  generalize (lg_sl ([.ref wk, .ref sg, .ref nd]) ++ List.replicate (4 - (lg_sl ([.ref wk, .ref sg, .ref nd])).length) Slot.unset).toArray = ls at hl ⊢
  have hl : lv_has ls 4 [(0, .ref wk), (1, .ref sg), (2, .ref nd)] := hl
  have hW0 := hW9
  have hW1 := hW9.1
  have hW2 := hW9.2.1
  have hPU : PU E PL AL S (([], 0)) tp sp g ν tp sp g ν := PU.rf hW9
  have hDν := hDq9 ν NUg.rf
  obtain ⟨hnd, hCu⟩ := hnn.ax hDν
  have hR0 : catR ([], 0) (chsS l9 rtn ndn) = (chsS l9 rtn ndn) := catR_l _
  refine lv_aload_n hx hb d_Walk_choose_0 rfl (lv_at hl 1 rfl) ?_
  obtain ⟨ds21, fi21, nx21, ef21, hv21⟩ := hO.seg hsg
  rcases fi21 with _ | b22
  · obtain ⟨_, e9, _⟩ := hv21.1
    cases e9
  · obtain ⟨_, e9, hEb22, hLb22⟩ := hv21.1
    cases e9
    have hCh9 : CHD LD 8 (pf f ν) S (some b22) l9 := by rw [← show refE 1 (pf f ν sg) = some b22 by rw [pf_G ef21]; rfl]; exact hCh
    refine vq_get (D := (dC, dI)) (ci := 6) (v := .ref b22) (C := R_Segment) (T := F_Segment) (N := 3) hx hb hts in_Segment hown hK hP (hO.inL (a := sg) (by rw [hsg]; decide)) (pf_G ef21) rfl 1 (by decide) (hts _ z_579) (fun _ h9 => h9) rfl d_Walk_choose_1 ?_
    refine lv_astore_n (lv' := [(3, .ref b22), (0, .ref wk), (1, .ref sg), (2, .ref nd)]) hx hb d_Walk_choose_4 rfl hl (by decide) rfl (fun ls hl => ?_)
    refine w_loop (D := (dC, dI)) (cl := classes) (A := A) (H0 := s.heap) (nL := 4) 5 (σ := Option Nat × List QT × (List NT × Nat) × Nat × Nat × (Nat → Option Nat) × (Nat → Int64)) (fun ⟨o, q9, D, t, s9, g1, ν3⟩ => oR (fun b => E b = 9 ∧ lv b ≤ n) o ∧ CHD LD 8 (pf f ν3) S o q9 ∧ PU E PL AL S D tp sp g ν t s9 g1 ν3 ∧ catR D (chsS q9 rtn ndn) = (chsS l9 rtn ndn)) (fun ⟨o, q9, D, t, s9, g1, ν3⟩ => chL L o) (fun ⟨o, q9, D, t, s9, g1, ν3⟩ => [(wk, .inr (10, [.ref wl, .int (nI t), .int (nI s9), .ref rt])), (wl, .inl (cV, 10000, .inr (.inr (.inr (.inr g1)))))] ++ va_pl L (pf f ν3)) (fun ⟨o, q9, D, t, s9, g1, ν3⟩ => [(0, .ref wk), (1, .ref sg), (2, .ref nd), (3, va_rf o)]) ?_ ((some b22), l9, ([], 0), tp, sp, g, ν) ⟨(fun b h => by cases h; exact ⟨hEb22, Nat.le_trans hLb22 hls⟩), hCh9, hPU, hR0⟩ hP hD hS (lv_sub hl [1, 2, 3, 0] rfl)
    rintro ⟨o, q9, D, t, s9, g1, ν3⟩ H locs ls hI ih hP hD hS hl
    have hP : va_P (dC, dI) classes ([(wk, .inr (10, [.ref wl, .int (nI t), .int (nI s9), .ref rt])), (wl, .inl (cV, 10000, .inr (.inr (.inr (.inr g1)))))] ++ va_pl L (pf f ν3)) H := hP
    have hD : va_D A ([(wk, .inr (10, [.ref wl, .int (nI t), .int (nI s9), .ref rt])), (wl, .inl (cV, 10000, .inr (.inr (.inr (.inr g1)))))] ++ va_pl L (pf f ν3)) := hD
    have hl : lv_has ls 4 [(0, .ref wk), (1, .ref sg), (2, .ref nd), (3, va_rf o)] := hl
    obtain ⟨hI, hCI, hPI, hRI⟩ := hI
    have hI : oR (fun b => E b = 9 ∧ lv b ≤ n) o := hI
    have hCI : CHD LD 8 (pf f ν3) S o q9 := hCI
    have hPI : PU E PL AL S D tp sp g ν t s9 g1 ν3 := hPI
    have hRI : catR D (chsS q9 rtn ndn) = (chsS l9 rtn ndn) := hRI
    have hW_hPI := hPI.wi
    have hA_hPI := hW_hPI.1
    have hB_hPI := hW_hPI.2.1
    have hC_hPI := hPI.spt
    rcases o with _ | ob
    · have hl : lv_has ls 4 [(0, .ref wk), (1, .ref sg), (2, .ref nd), (3, .null)] := hl
      obtain rfl := hCI.no
      refine lv_aload_nN hx hb d_Walk_choose_5 rfl (lv_at hl 3 rfl) ?_
      refine lv_ifnullN (tgt := 102) hx hb d_Walk_choose_6 (by decide) ?_
      have hfin : PU E PL AL S ((chsS l9 rtn ndn)) tp sp g ν t s9 g1 ν3 := by rw [← show D = (chsS l9 rtn ndn) from by rw [← hRI]; exact (catR_0 _).symm]; exact hPI
      refine w_same (fun hq => ?_)
      refine W.widen (k := 1) (n := 6) (Nat.le_of_ble_eq_true rfl) (Nat.le_of_ble_eq_true rfl) ?_
      refine vx_ret ?_
      exact W.vret hx hb hr (fun t9 ht hW => ⟨⟨(t, s9, g1, ν3), rfl, hfin, ⟨by rw [ht]; exact hP, va_K.moved hW.alike hK, hD⟩, by rw [ht]; exact hq⟩, hS.F ht⟩) hS.2.2 d_Walk_choose_102
    · have hl : lv_has ls 4 [(0, .ref wk), (1, .ref sg), (2, .ref nd), (3, .ref ob)] := hl
      obtain ⟨hob1, hob2⟩ := hI ob rfl
      obtain ⟨m8, q8, rfl, hS3, hLD, hCn⟩ := hCI.so
      refine lv_aload_n hx hb d_Walk_choose_5 rfl (lv_at hl 3 rfl) ?_
      refine lv_ifnull hx hb d_Walk_choose_6 ?_
      refine lv_aload_n hx hb d_Walk_choose_9 rfl (lv_at hl 3 rfl) ?_
      obtain ⟨kd23, nm23, hs23, ht23, st23, sp23, se23, fl23, nx23, ef23, hv23⟩ := hO.sel hob1
      refine vq_get (D := (dC, dI)) (ci := 7) (v := .int kd23) (C := R_Selector) (T := F_Selector) (N := 9) hx hb hts in_Selector hown hK hP (hO.inL (a := ob) (by rw [hob1]; decide)) (pf_L ef23) rfl 0 (by decide) (hts _ z_611) (fun _ h9 => h9) rfl d_Walk_choose_10 ?_
      by_cases hs13_0 : kd23 = 0
      · refine lv_tableIn (tgt := 44) (off := 31) hx hb d_Walk_choose_13 (by rw [hs13_0]; decide) (by rw [hs13_0]; decide) (by rw [hs13_0]; rfl) (by decide) ?_
        refine lv_aload_n hx hb d_Walk_choose_44 rfl (lv_at hl 0 rfl) ?_
        refine lv_aload_n hx hb d_Walk_choose_45 rfl (lv_at hl 2 rfl) ?_
        refine lv_aload_n hx hb d_Walk_choose_46 rfl (lv_at hl 3 rfl) ?_
        rcases nm23 with _ | b24
        · exact absurd rfl (hv23.2.2.2.1 hs13_0)
        · refine vq_get (D := (dC, dI)) (ci := 7) (v := .ref b24) (C := R_Selector) (T := F_Selector) (N := 9) hx hb hts in_Selector hown hK hP (hO.inL (a := ob) (by rw [hob1]; decide)) (pf_L ef23) rfl 1 (by decide) (hts _ z_614) (fun _ h9 => h9) rfl d_Walk_choose_47 ?_
          obtain ⟨b8, e8, -, hm7⟩ := (hLD.ax (pf_L ef23)).1 hs13_0
          obtain rfl := Option.some.inj e8
          have hm8 : m8 = (namS (txL (pf f ν3) b24)) := hm7
          have hRI1 : catR D (catR (m8 rtn ndn) (chsS q8 rtn ndn)) = (chsS l9 rtn ndn) := hRI
          have hPc := hP.part (cx := [(wk, .inr (10, [.ref wl, .int (nI t), .int (nI s9), .ref rt])), (wl, .inl (cV, 10000, .inr (.inr (.inr (.inr g1)))))]) [0, 1] rfl
          have hDc := hD.part (cx := [(wk, .inr (10, [.ref wl, .int (nI t), .int (nI s9), .ref rt])), (wl, .inl (cV, 10000, .inr (.inr (.inr (.inr g1)))))]) [0, 1] (by decide) rfl
          have hFc := va_freeP (cx := [(wk, .inr (10, [.ref wl, .int (nI t), .int (nI s9), .ref rt])), (wl, .inl (cV, 10000, .inr (.inr (.inr (.inr g1)))))]) hD hS hA [0, 1] rfl
          have hKc := hK.sub (tys' := [(cI, .int), (cV, .object "QueryBench$Value")]) [0, 1] rfl
          refine w_same (fun hq0 => ?_)
          refine vx_callv (vx_runV (As := [.ref nd, .ref b24]) (rest := []) ⟨hx, hb, hml, hown, hts⟩ (p_Walk_pushNamed l hl9 K dC dI H cI cV E lv L f hO hN1 PL AL S wk wl rt hrt rtn hrn t s9 g1 ν3 hW_hPI (fun ν2 h2 => hDq9 ν2 (hPI.nu.tr h2)) nd ndn hnn b24 (hv23.1 b24 rfl) _ rfl) (cwV 2 hts (gt_V (own := R_Walk) (C := R_Walk) (i := 85) (y := y_Walk_pushNamed) i_Walk_pushNamed z_857 z_859 (gt_sel (y := y_Walk_pushNamed) (n := 4) (by decide +kernel)) w_5) rfl rfl rfl (by decide +kernel) ⟨by show 10 + 1 ≤ 58 + 5 * n; omega, by show 8 + (4 + 11) + (200) ≤ 2420 + 200 * n; omega⟩) ⟨ml_blind, va_recv hK hP (ci := 10) (q0 := 0) rfl rfl, fun U hU hW => ⟨rfl, ⟨hU, by rw [hU]; exact hPc, va_K.moved hW.alike hKc, hDc.weaken (fun _ _ _ _ => trivial)⟩, hN.warm hW, by rw [hU]; exact ZX.moved' hW.alike (ZX.narrow' (ZX.kept' hZ hS.2.1) hFc), by rw [hU]; exact CE.call hC hS.2.1 hFc hW, va_AO.moved hW.alike hV⟩⟩ rfl rfl hl.1 rfl (lv_room (Nat.le_of_ble_eq_true rfl)) d_Walk_choose_50 ⟨Nat.le_of_ble_eq_true rfl, Nat.le_of_ble_eq_true rfl⟩) hS (fun q _ h => hFc q h) hFc (fun q _ h => hFc q h) (fun En ce q9 ⟨tx, sx, gx, nx⟩ t9 H1 locs ht hvm hw hB hz1 hk1 hS hce hcv hcl => ?_) (fun ⟨t25, s25, g25, n25⟩ t9 H1 locs ht hvm hw hB hz1 hk1 hS => ?_)
          · obtain ⟨hEn, hP1, hK1, hD1⟩ := hB
            rw [ht] at hP1
            obtain ⟨hP, hD⟩ := va_joinP (wr := []) (rx := [(wk, .inr (10, [.ref wl, .int tx, .int sx, .ref rt])), (wl, .inl (cV, 10000, .inr (.inr (.inr (.inr gx)))))]) (pl1 := va_pl L (pf f nx)) hP hD [0, 1] [] rfl rfl (by decide) (by decide) hk1 hFc hP1 hD1
            generalize H1 = H at hP hS hce ⊢
            have hP : va_P (dC, dI) classes ([(wk, .inr (10, [.ref wl, .int tx, .int sx, .ref rt])), (wl, .inl (cV, 10000, .inr (.inr (.inr (.inr gx)))))] ++ va_pl L (pf f nx)) H := hP
            have hD : va_D A ([(wk, .inr (10, [.ref wl, .int tx, .int sx, .ref rt])), (wl, .inl (cV, 10000, .inr (.inr (.inr (.inr gx)))))] ++ va_pl L (pf f nx)) := hD
            have hno : 10000 < sp + ((chsS l9 rtn ndn)).2 := by have hw : 10000 < s9 + ((namS (txL (pf f ν3) b24)) rtn ndn).2 := hw.1; rw [← hRI1, hm8]; show 10000 < sp + (D.2 + (((namS (txL (pf f ν3) b24)) rtn ndn).2 + _)); omega
            exact vx_out (fun x hx => (hex x hx).elim) hlocks hce hcv hcl (fun t9 ht2 ha => ⟨(tx, sx, gx, nx), ⟨hno, hPI.nu.tr hw.2⟩, ⟨hEn, by rw [ht2]; exact hP, va_K.moved ha hK, hD⟩, hS.F ht2⟩) hS.2.2 (Nat.le_of_ble_eq_true rfl) (Nat.le_of_ble_eq_true rfl)
          · obtain ⟨⟨hP1, hK1, hD1⟩, hz9⟩ := hB
            rw [ht] at hP1
            rw [ht] at hz9
            refine w_tight (hq0.trans hz9) ?_
            have hq0 := hq0.trans hz9
            obtain ⟨hP, hD⟩ := va_joinP (wr := []) (rx := [(wk, .inr (10, [.ref wl, .int (nI t25), .int (nI s25), .ref rt])), (wl, .inl (cV, 10000, .inr (.inr (.inr (.inr g25)))))]) (pl1 := va_pl L (pf f n25)) hP hD [0, 1] [] rfl rfl (by decide) (by decide) hk1 hFc hP1 hD1
            generalize H1 = H at hP hS hq0 ⊢
            have hP : va_P (dC, dI) classes ([(wk, .inr (10, [.ref wl, .int (nI t25), .int (nI s25), .ref rt])), (wl, .inl (cV, 10000, .inr (.inr (.inr (.inr g25)))))] ++ va_pl L (pf f n25)) H := hP
            have hD : va_D A ([(wk, .inr (10, [.ref wl, .int (nI t25), .int (nI s25), .ref rt])), (wl, .inl (cV, 10000, .inr (.inr (.inr (.inr g25)))))] ++ va_pl L (pf f n25)) := hD
            have hq25 : PU E PL AL S ((namS (txL (pf f ν3) b24)) rtn ndn) t s9 g1 ν3 t25 s25 g25 n25 := hw
            have h025 := hq25.nu
            have hP25 : PU E PL AL S (catR D ((namS (txL (pf f ν3) b24)) rtn ndn)) tp sp g ν t25 s25 g25 n25 := hPI.tr hq25
            have hW_hP25 := hP25.wi
            have hA_hP25 := hW_hP25.1
            have hB_hP25 := hW_hP25.2.1
            have hC_hP25 := hP25.spt
            have hRI2 : catR (catR D ((namS (txL (pf f ν3) b24)) rtn ndn)) (chsS q8 rtn ndn) = (chsS l9 rtn ndn) := by rw [catR_a, ← hm8]; exact hRI1
            have hNn : NUg S ν3 n25 := h025
            refine lv_goto (tgt := 94) hx hb d_Walk_choose_53 (by decide) ?_
            refine lv_aload_n hx hb d_Walk_choose_94 rfl (lv_at hl 3 rfl) ?_
            rcases nx23 with _ | b26
            · refine vq_get (D := (dC, dI)) (ci := 7) (v := .null) (C := R_Selector) (T := F_Selector) (N := 9) hx hb hts in_Selector hown hK hP (hO.inL (a := ob) (by rw [hob1]; decide)) (pf_L ef23) rfl 8 (by decide) (hts _ z_630) (fun _ h9 => h9) rfl d_Walk_choose_95 ?_
              refine lv_astore_nN (lv' := [(3, .null), (0, .ref wk), (1, .ref sg), (2, .ref nd)]) hx hb d_Walk_choose_98 rfl hl (by decide) rfl (fun ls hl => ?_)
              refine lv_goto (tgt := 5) hx hb d_Walk_choose_99 (by decide) ?_
              have hCn1 : CHD LD 8 (pf f ν3) S none q8 := by rw [← show refE 8 (pf f ν3 ob) = none by rw [pf_L ef23]; rfl]; exact hCn
              have hCn2 : CHD LD 8 (pf f n25) S none q8 := CHL.nu hCn1 hNn
              exact ih (none, q8, catR D ((namS (txL (pf f ν3) b24)) rtn ndn), t25, s25, g25, n25) _ _ _ ⟨(fun b h => nomatch h), hCn2, hP25, hRI2⟩ (chL_lt (hO.inL (a := ob) (by rw [hob1]; decide)) (fun b h => nomatch h)) hP hD hS (lv_sub hl [1, 2, 3, 0] rfl)
            · refine vq_get (D := (dC, dI)) (ci := 7) (v := .ref b26) (C := R_Selector) (T := F_Selector) (N := 9) hx hb hts in_Selector hown hK hP (hO.inL (a := ob) (by rw [hob1]; decide)) (pf_L ef23) rfl 8 (by decide) (hts _ z_630) (fun _ h9 => h9) rfl d_Walk_choose_95 ?_
              refine lv_astore_n (lv' := [(3, .ref b26), (0, .ref wk), (1, .ref sg), (2, .ref nd)]) hx hb d_Walk_choose_98 rfl hl (by decide) rfl (fun ls hl => ?_)
              refine lv_goto (tgt := 5) hx hb d_Walk_choose_99 (by decide) ?_
              have hCn1 : CHD LD 8 (pf f ν3) S (some b26) q8 := by rw [← show refE 8 (pf f ν3 ob) = (some b26) by rw [pf_L ef23]; rfl]; exact hCn
              have hCn2 : CHD LD 8 (pf f n25) S (some b26) q8 := CHL.nu hCn1 hNn
              exact ih ((some b26), q8, catR D ((namS (txL (pf f ν3) b24)) rtn ndn), t25, s25, g25, n25) _ _ _ ⟨(fun b h => by cases h; exact ⟨(hv23.2.2.1 b26 rfl).1, Nat.le_trans (hv23.2.2.1 b26 rfl).2.1 hob2⟩), hCn2, hP25, hRI2⟩ (chL_lt (hO.inL (a := ob) (by rw [hob1]; decide)) (fun b h => by cases h; exact (hv23.2.2.1 b26 rfl).2.2)) hP hD hS (lv_sub hl [1, 2, 3, 0] rfl)
      · by_cases hs13_1 : kd23 = 1
        · refine lv_tableIn (tgt := 56) (off := 43) hx hb d_Walk_choose_13 (by rw [hs13_1]; decide) (by rw [hs13_1]; decide) (by rw [hs13_1]; rfl) (by decide) ?_
          refine lv_aload_n hx hb d_Walk_choose_56 rfl (lv_at hl 0 rfl) ?_
          refine lv_aload_n hx hb d_Walk_choose_57 rfl (lv_at hl 2 rfl) ?_
          have hm8 : m8 = eachS := (hLD.ax (pf_L ef23)).2.1 hs13_1
          have hRI1 : catR D (catR (m8 rtn ndn) (chsS q8 rtn ndn)) = (chsS l9 rtn ndn) := hRI
          have hPc := hP.part (cx := [(wk, .inr (10, [.ref wl, .int (nI t), .int (nI s9), .ref rt])), (wl, .inl (cV, 10000, .inr (.inr (.inr (.inr g1)))))]) [0, 1] rfl
          have hDc := hD.part (cx := [(wk, .inr (10, [.ref wl, .int (nI t), .int (nI s9), .ref rt])), (wl, .inl (cV, 10000, .inr (.inr (.inr (.inr g1)))))]) [0, 1] (by decide) rfl
          have hFc := va_freeP (cx := [(wk, .inr (10, [.ref wl, .int (nI t), .int (nI s9), .ref rt])), (wl, .inl (cV, 10000, .inr (.inr (.inr (.inr g1)))))]) hD hS hA [0, 1] rfl
          have hKc := hK.sub (tys' := [(cI, .int), (cV, .object "QueryBench$Value")]) [0, 1] rfl
          refine w_same (fun hq0 => ?_)
          refine vx_callv (vx_runV (As := [.ref nd]) (rest := []) ⟨hx, hb, hml, hown, hts⟩ (p_Walk_pushAll l hl9 K dC dI H cI cV E lv L f hO hN1 PL AL S wk wl rt hrt rtn hrn t s9 g1 ν3 hW_hPI (fun ν2 h2 => hDq9 ν2 (hPI.nu.tr h2)) nd ndn hnn) (cwV 1 hts (gt_V (own := R_Walk) (C := R_Walk) (i := 89) (y := y_Walk_pushAll) i_Walk_pushAll z_870 z_872 (gt_sel (y := y_Walk_pushAll) (n := 4) (by decide +kernel)) w_5) rfl rfl rfl (by decide +kernel) ⟨by show 10 + 1 ≤ 58 + 5 * n; omega, by show 8 + (3 + 11) + (200) ≤ 2420 + 200 * n; omega⟩) ⟨ml_blind, va_recv hK hP (ci := 10) (q0 := 0) rfl rfl, fun U hU hW => ⟨rfl, ⟨hU, by rw [hU]; exact hPc, va_K.moved hW.alike hKc, hDc.weaken (fun _ _ _ _ => trivial)⟩, hN.warm hW, by rw [hU]; exact ZX.moved' hW.alike (ZX.narrow' (ZX.kept' hZ hS.2.1) hFc), by rw [hU]; exact CE.call hC hS.2.1 hFc hW, va_AO.moved hW.alike hV⟩⟩ rfl rfl hl.1 rfl (lv_room (Nat.le_of_ble_eq_true rfl)) d_Walk_choose_58 ⟨Nat.le_of_ble_eq_true rfl, Nat.le_of_ble_eq_true rfl⟩) hS (fun q _ h => hFc q h) hFc (fun q _ h => hFc q h) (fun En ce q9 ⟨tx, sx, gx, nx⟩ t9 H1 locs ht hvm hw hB hz1 hk1 hS hce hcv hcl => ?_) (fun ⟨t27, s27, g27, n27⟩ t9 H1 locs ht hvm hw hB hz1 hk1 hS => ?_)
          · obtain ⟨hEn, hP1, hK1, hD1⟩ := hB
            rw [ht] at hP1
            obtain ⟨hP, hD⟩ := va_joinP (wr := []) (rx := [(wk, .inr (10, [.ref wl, .int tx, .int sx, .ref rt])), (wl, .inl (cV, 10000, .inr (.inr (.inr (.inr gx)))))]) (pl1 := va_pl L (pf f nx)) hP hD [0, 1] [] rfl rfl (by decide) (by decide) hk1 hFc hP1 hD1
            generalize H1 = H at hP hS hce ⊢
            have hP : va_P (dC, dI) classes ([(wk, .inr (10, [.ref wl, .int tx, .int sx, .ref rt])), (wl, .inl (cV, 10000, .inr (.inr (.inr (.inr gx)))))] ++ va_pl L (pf f nx)) H := hP
            have hD : va_D A ([(wk, .inr (10, [.ref wl, .int tx, .int sx, .ref rt])), (wl, .inl (cV, 10000, .inr (.inr (.inr (.inr gx)))))] ++ va_pl L (pf f nx)) := hD
            have hno : 10000 < sp + ((chsS l9 rtn ndn)).2 := by have hw : 10000 < s9 + (eachS rtn ndn).2 := hw.1; rw [← hRI1, hm8]; show 10000 < sp + (D.2 + ((eachS rtn ndn).2 + _)); omega
            exact vx_out (fun x hx => (hex x hx).elim) hlocks hce hcv hcl (fun t9 ht2 ha => ⟨(tx, sx, gx, nx), ⟨hno, hPI.nu.tr hw.2⟩, ⟨hEn, by rw [ht2]; exact hP, va_K.moved ha hK, hD⟩, hS.F ht2⟩) hS.2.2 (Nat.le_of_ble_eq_true rfl) (Nat.le_of_ble_eq_true rfl)
          · obtain ⟨⟨hP1, hK1, hD1⟩, hz9⟩ := hB
            rw [ht] at hP1
            rw [ht] at hz9
            refine w_tight (hq0.trans hz9) ?_
            have hq0 := hq0.trans hz9
            obtain ⟨hP, hD⟩ := va_joinP (wr := []) (rx := [(wk, .inr (10, [.ref wl, .int (nI t27), .int (nI s27), .ref rt])), (wl, .inl (cV, 10000, .inr (.inr (.inr (.inr g27)))))]) (pl1 := va_pl L (pf f n27)) hP hD [0, 1] [] rfl rfl (by decide) (by decide) hk1 hFc hP1 hD1
            generalize H1 = H at hP hS hq0 ⊢
            have hP : va_P (dC, dI) classes ([(wk, .inr (10, [.ref wl, .int (nI t27), .int (nI s27), .ref rt])), (wl, .inl (cV, 10000, .inr (.inr (.inr (.inr g27)))))] ++ va_pl L (pf f n27)) H := hP
            have hD : va_D A ([(wk, .inr (10, [.ref wl, .int (nI t27), .int (nI s27), .ref rt])), (wl, .inl (cV, 10000, .inr (.inr (.inr (.inr g27)))))] ++ va_pl L (pf f n27)) := hD
            have hq27 : PU E PL AL S (eachS rtn ndn) t s9 g1 ν3 t27 s27 g27 n27 := hw
            have h027 := hq27.nu
            have hP27 : PU E PL AL S (catR D (eachS rtn ndn)) tp sp g ν t27 s27 g27 n27 := hPI.tr hq27
            have hW_hP27 := hP27.wi
            have hA_hP27 := hW_hP27.1
            have hB_hP27 := hW_hP27.2.1
            have hC_hP27 := hP27.spt
            have hRI2 : catR (catR D (eachS rtn ndn)) (chsS q8 rtn ndn) = (chsS l9 rtn ndn) := by rw [catR_a, ← hm8]; exact hRI1
            have hNn : NUg S ν3 n27 := h027
            refine lv_goto (tgt := 94) hx hb d_Walk_choose_61 (by decide) ?_
            refine lv_aload_n hx hb d_Walk_choose_94 rfl (lv_at hl 3 rfl) ?_
            rcases nx23 with _ | b28
            · refine vq_get (D := (dC, dI)) (ci := 7) (v := .null) (C := R_Selector) (T := F_Selector) (N := 9) hx hb hts in_Selector hown hK hP (hO.inL (a := ob) (by rw [hob1]; decide)) (pf_L ef23) rfl 8 (by decide) (hts _ z_630) (fun _ h9 => h9) rfl d_Walk_choose_95 ?_
              refine lv_astore_nN (lv' := [(3, .null), (0, .ref wk), (1, .ref sg), (2, .ref nd)]) hx hb d_Walk_choose_98 rfl hl (by decide) rfl (fun ls hl => ?_)
              refine lv_goto (tgt := 5) hx hb d_Walk_choose_99 (by decide) ?_
              have hCn1 : CHD LD 8 (pf f ν3) S none q8 := by rw [← show refE 8 (pf f ν3 ob) = none by rw [pf_L ef23]; rfl]; exact hCn
              have hCn2 : CHD LD 8 (pf f n27) S none q8 := CHL.nu hCn1 hNn
              exact ih (none, q8, catR D (eachS rtn ndn), t27, s27, g27, n27) _ _ _ ⟨(fun b h => nomatch h), hCn2, hP27, hRI2⟩ (chL_lt (hO.inL (a := ob) (by rw [hob1]; decide)) (fun b h => nomatch h)) hP hD hS (lv_sub hl [1, 2, 3, 0] rfl)
            · refine vq_get (D := (dC, dI)) (ci := 7) (v := .ref b28) (C := R_Selector) (T := F_Selector) (N := 9) hx hb hts in_Selector hown hK hP (hO.inL (a := ob) (by rw [hob1]; decide)) (pf_L ef23) rfl 8 (by decide) (hts _ z_630) (fun _ h9 => h9) rfl d_Walk_choose_95 ?_
              refine lv_astore_n (lv' := [(3, .ref b28), (0, .ref wk), (1, .ref sg), (2, .ref nd)]) hx hb d_Walk_choose_98 rfl hl (by decide) rfl (fun ls hl => ?_)
              refine lv_goto (tgt := 5) hx hb d_Walk_choose_99 (by decide) ?_
              have hCn1 : CHD LD 8 (pf f ν3) S (some b28) q8 := by rw [← show refE 8 (pf f ν3 ob) = (some b28) by rw [pf_L ef23]; rfl]; exact hCn
              have hCn2 : CHD LD 8 (pf f n27) S (some b28) q8 := CHL.nu hCn1 hNn
              exact ih ((some b28), q8, catR D (eachS rtn ndn), t27, s27, g27, n27) _ _ _ ⟨(fun b h => by cases h; exact ⟨(hv23.2.2.1 b28 rfl).1, Nat.le_trans (hv23.2.2.1 b28 rfl).2.1 hob2⟩), hCn2, hP27, hRI2⟩ (chL_lt (hO.inL (a := ob) (by rw [hob1]; decide)) (fun b h => by cases h; exact (hv23.2.2.1 b28 rfl).2.2)) hP hD hS (lv_sub hl [1, 2, 3, 0] rfl)
        · by_cases hs13_2 : kd23 = 2
          · refine lv_tableIn (tgt := 64) (off := 51) hx hb d_Walk_choose_13 (by rw [hs13_2]; decide) (by rw [hs13_2]; decide) (by rw [hs13_2]; rfl) (by decide) ?_
            refine lv_aload_n hx hb d_Walk_choose_64 rfl (lv_at hl 0 rfl) ?_
            refine lv_aload_n hx hb d_Walk_choose_65 rfl (lv_at hl 2 rfl) ?_
            refine lv_aload_n hx hb d_Walk_choose_66 rfl (lv_at hl 3 rfl) ?_
            refine vq_get (D := (dC, dI)) (ci := 7) (v := .long st23) (C := R_Selector) (T := F_Selector) (N := 9) hx hb hts in_Selector hown hK hP (hO.inL (a := ob) (by rw [hob1]; decide)) (pf_L ef23) rfl 4 (by decide) (hts _ z_619) (fun _ h9 => h9) rfl d_Walk_choose_67 ?_
            have hm8 : m8 = (idxS st23) := (hLD.ax (pf_L ef23)).2.2.1 hs13_2
            have hRI1 : catR D (catR (m8 rtn ndn) (chsS q8 rtn ndn)) = (chsS l9 rtn ndn) := hRI
            have hPc := hP.part (cx := [(wk, .inr (10, [.ref wl, .int (nI t), .int (nI s9), .ref rt])), (wl, .inl (cV, 10000, .inr (.inr (.inr (.inr g1)))))]) [0, 1] rfl
            have hDc := hD.part (cx := [(wk, .inr (10, [.ref wl, .int (nI t), .int (nI s9), .ref rt])), (wl, .inl (cV, 10000, .inr (.inr (.inr (.inr g1)))))]) [0, 1] (by decide) rfl
            have hFc := va_freeP (cx := [(wk, .inr (10, [.ref wl, .int (nI t), .int (nI s9), .ref rt])), (wl, .inl (cV, 10000, .inr (.inr (.inr (.inr g1)))))]) hD hS hA [0, 1] rfl
            have hKc := hK.sub (tys' := [(cI, .int), (cV, .object "QueryBench$Value")]) [0, 1] rfl
            refine w_same (fun hq0 => ?_)
            refine vx_callv (vx_runV (As := [.ref nd, .long st23]) (rest := []) ⟨hx, hb, hml, hown, hts⟩ (p_Walk_pushAt l hl9 K dC dI H cI cV E lv L f hO hN1 PL AL S wk wl rt hrt rtn hrn t s9 g1 ν3 hW_hPI (fun ν2 h2 => hDq9 ν2 (hPI.nu.tr h2)) nd ndn hnn st23) (cwV 2 hts (gt_V (own := R_Walk) (C := R_Walk) (i := 96) (y := y_Walk_pushAt) i_Walk_pushAt z_875 z_877 (gt_sel (y := y_Walk_pushAt) (n := 4) (by decide +kernel)) w_5) rfl rfl rfl (by decide +kernel) ⟨by show 10 + 1 ≤ 58 + 5 * n; omega, by show 8 + (6 + 11) + (200) ≤ 2420 + 200 * n; omega⟩) ⟨ml_blind, va_recv hK hP (ci := 10) (q0 := 0) rfl rfl, fun U hU hW => ⟨rfl, ⟨hU, by rw [hU]; exact hPc, va_K.moved hW.alike hKc, hDc.weaken (fun _ _ _ _ => trivial)⟩, hN.warm hW, by rw [hU]; exact ZX.moved' hW.alike (ZX.narrow' (ZX.kept' hZ hS.2.1) hFc), by rw [hU]; exact CE.call hC hS.2.1 hFc hW, va_AO.moved hW.alike hV⟩⟩ rfl rfl hl.1 rfl (lv_room (Nat.le_of_ble_eq_true rfl)) d_Walk_choose_70 ⟨Nat.le_of_ble_eq_true rfl, Nat.le_of_ble_eq_true rfl⟩) hS (fun q _ h => hFc q h) hFc (fun q _ h => hFc q h) (fun En ce q9 ⟨tx, sx, gx, nx⟩ t9 H1 locs ht hvm hw hB hz1 hk1 hS hce hcv hcl => ?_) (fun ⟨t29, s29, g29, n29⟩ t9 H1 locs ht hvm hw hB hz1 hk1 hS => ?_)
            · obtain ⟨hEn, hP1, hK1, hD1⟩ := hB
              rw [ht] at hP1
              obtain ⟨hP, hD⟩ := va_joinP (wr := []) (rx := [(wk, .inr (10, [.ref wl, .int tx, .int sx, .ref rt])), (wl, .inl (cV, 10000, .inr (.inr (.inr (.inr gx)))))]) (pl1 := va_pl L (pf f nx)) hP hD [0, 1] [] rfl rfl (by decide) (by decide) hk1 hFc hP1 hD1
              generalize H1 = H at hP hS hce ⊢
              have hP : va_P (dC, dI) classes ([(wk, .inr (10, [.ref wl, .int tx, .int sx, .ref rt])), (wl, .inl (cV, 10000, .inr (.inr (.inr (.inr gx)))))] ++ va_pl L (pf f nx)) H := hP
              have hD : va_D A ([(wk, .inr (10, [.ref wl, .int tx, .int sx, .ref rt])), (wl, .inl (cV, 10000, .inr (.inr (.inr (.inr gx)))))] ++ va_pl L (pf f nx)) := hD
              have hno : 10000 < sp + ((chsS l9 rtn ndn)).2 := by have hw : 10000 < s9 + ((idxS st23) rtn ndn).2 := hw.1; rw [← hRI1, hm8]; show 10000 < sp + (D.2 + (((idxS st23) rtn ndn).2 + _)); omega
              exact vx_out (fun x hx => (hex x hx).elim) hlocks hce hcv hcl (fun t9 ht2 ha => ⟨(tx, sx, gx, nx), ⟨hno, hPI.nu.tr hw.2⟩, ⟨hEn, by rw [ht2]; exact hP, va_K.moved ha hK, hD⟩, hS.F ht2⟩) hS.2.2 (Nat.le_of_ble_eq_true rfl) (Nat.le_of_ble_eq_true rfl)
            · obtain ⟨⟨hP1, hK1, hD1⟩, hz9⟩ := hB
              rw [ht] at hP1
              rw [ht] at hz9
              refine w_tight (hq0.trans hz9) ?_
              have hq0 := hq0.trans hz9
              obtain ⟨hP, hD⟩ := va_joinP (wr := []) (rx := [(wk, .inr (10, [.ref wl, .int (nI t29), .int (nI s29), .ref rt])), (wl, .inl (cV, 10000, .inr (.inr (.inr (.inr g29)))))]) (pl1 := va_pl L (pf f n29)) hP hD [0, 1] [] rfl rfl (by decide) (by decide) hk1 hFc hP1 hD1
              generalize H1 = H at hP hS hq0 ⊢
              have hP : va_P (dC, dI) classes ([(wk, .inr (10, [.ref wl, .int (nI t29), .int (nI s29), .ref rt])), (wl, .inl (cV, 10000, .inr (.inr (.inr (.inr g29)))))] ++ va_pl L (pf f n29)) H := hP
              have hD : va_D A ([(wk, .inr (10, [.ref wl, .int (nI t29), .int (nI s29), .ref rt])), (wl, .inl (cV, 10000, .inr (.inr (.inr (.inr g29)))))] ++ va_pl L (pf f n29)) := hD
              have hq29 : PU E PL AL S ((idxS st23) rtn ndn) t s9 g1 ν3 t29 s29 g29 n29 := hw
              have h029 := hq29.nu
              have hP29 : PU E PL AL S (catR D ((idxS st23) rtn ndn)) tp sp g ν t29 s29 g29 n29 := hPI.tr hq29
              have hW_hP29 := hP29.wi
              have hA_hP29 := hW_hP29.1
              have hB_hP29 := hW_hP29.2.1
              have hC_hP29 := hP29.spt
              have hRI2 : catR (catR D ((idxS st23) rtn ndn)) (chsS q8 rtn ndn) = (chsS l9 rtn ndn) := by rw [catR_a, ← hm8]; exact hRI1
              have hNn : NUg S ν3 n29 := h029
              refine lv_goto (tgt := 94) hx hb d_Walk_choose_73 (by decide) ?_
              refine lv_aload_n hx hb d_Walk_choose_94 rfl (lv_at hl 3 rfl) ?_
              rcases nx23 with _ | b30
              · refine vq_get (D := (dC, dI)) (ci := 7) (v := .null) (C := R_Selector) (T := F_Selector) (N := 9) hx hb hts in_Selector hown hK hP (hO.inL (a := ob) (by rw [hob1]; decide)) (pf_L ef23) rfl 8 (by decide) (hts _ z_630) (fun _ h9 => h9) rfl d_Walk_choose_95 ?_
                refine lv_astore_nN (lv' := [(3, .null), (0, .ref wk), (1, .ref sg), (2, .ref nd)]) hx hb d_Walk_choose_98 rfl hl (by decide) rfl (fun ls hl => ?_)
                refine lv_goto (tgt := 5) hx hb d_Walk_choose_99 (by decide) ?_
                have hCn1 : CHD LD 8 (pf f ν3) S none q8 := by rw [← show refE 8 (pf f ν3 ob) = none by rw [pf_L ef23]; rfl]; exact hCn
                have hCn2 : CHD LD 8 (pf f n29) S none q8 := CHL.nu hCn1 hNn
                exact ih (none, q8, catR D ((idxS st23) rtn ndn), t29, s29, g29, n29) _ _ _ ⟨(fun b h => nomatch h), hCn2, hP29, hRI2⟩ (chL_lt (hO.inL (a := ob) (by rw [hob1]; decide)) (fun b h => nomatch h)) hP hD hS (lv_sub hl [1, 2, 3, 0] rfl)
              · refine vq_get (D := (dC, dI)) (ci := 7) (v := .ref b30) (C := R_Selector) (T := F_Selector) (N := 9) hx hb hts in_Selector hown hK hP (hO.inL (a := ob) (by rw [hob1]; decide)) (pf_L ef23) rfl 8 (by decide) (hts _ z_630) (fun _ h9 => h9) rfl d_Walk_choose_95 ?_
                refine lv_astore_n (lv' := [(3, .ref b30), (0, .ref wk), (1, .ref sg), (2, .ref nd)]) hx hb d_Walk_choose_98 rfl hl (by decide) rfl (fun ls hl => ?_)
                refine lv_goto (tgt := 5) hx hb d_Walk_choose_99 (by decide) ?_
                have hCn1 : CHD LD 8 (pf f ν3) S (some b30) q8 := by rw [← show refE 8 (pf f ν3 ob) = (some b30) by rw [pf_L ef23]; rfl]; exact hCn
                have hCn2 : CHD LD 8 (pf f n29) S (some b30) q8 := CHL.nu hCn1 hNn
                exact ih ((some b30), q8, catR D ((idxS st23) rtn ndn), t29, s29, g29, n29) _ _ _ ⟨(fun b h => by cases h; exact ⟨(hv23.2.2.1 b30 rfl).1, Nat.le_trans (hv23.2.2.1 b30 rfl).2.1 hob2⟩), hCn2, hP29, hRI2⟩ (chL_lt (hO.inL (a := ob) (by rw [hob1]; decide)) (fun b h => by cases h; exact (hv23.2.2.1 b30 rfl).2.2)) hP hD hS (lv_sub hl [1, 2, 3, 0] rfl)
          · by_cases hs13_3 : kd23 = 3
            · refine lv_tableIn (tgt := 76) (off := 63) hx hb d_Walk_choose_13 (by rw [hs13_3]; decide) (by rw [hs13_3]; decide) (by rw [hs13_3]; rfl) (by decide) ?_
              refine lv_aload_n hx hb d_Walk_choose_76 rfl (lv_at hl 0 rfl) ?_
              refine lv_aload_n hx hb d_Walk_choose_77 rfl (lv_at hl 2 rfl) ?_
              refine lv_aload_n hx hb d_Walk_choose_78 rfl (lv_at hl 3 rfl) ?_
              have hm8 : m8 = (slcS (if hs23 = 0 then none else some st23) (if ht23 = 0 then none else some sp23) se23) := (hLD.ax (pf_L ef23)).2.2.2.1 hs13_3
              have hRI1 : catR D (catR (m8 rtn ndn) (chsS q8 rtn ndn)) = (chsS l9 rtn ndn) := hRI
              have hPc := hP.part (cx := [(wk, .inr (10, [.ref wl, .int (nI t), .int (nI s9), .ref rt])), (wl, .inl (cV, 10000, .inr (.inr (.inr (.inr g1)))))]) [0, 1] rfl
              have hDc := hD.part (cx := [(wk, .inr (10, [.ref wl, .int (nI t), .int (nI s9), .ref rt])), (wl, .inl (cV, 10000, .inr (.inr (.inr (.inr g1)))))]) [0, 1] (by decide) rfl
              have hFc := va_freeP (cx := [(wk, .inr (10, [.ref wl, .int (nI t), .int (nI s9), .ref rt])), (wl, .inl (cV, 10000, .inr (.inr (.inr (.inr g1)))))]) hD hS hA [0, 1] rfl
              have hKc := hK.sub (tys' := [(cI, .int), (cV, .object "QueryBench$Value")]) [0, 1] rfl
              refine w_same (fun hq0 => ?_)
              refine vx_callv (vx_runV (As := [.ref nd, .ref ob]) (rest := []) ⟨hx, hb, hml, hown, hts⟩ (p_Walk_pushSlice l hl9 K dC dI H cI cV E lv L f hO hN1 PL AL S wk wl rt hrt rtn hrn t s9 g1 ν3 hW_hPI (fun ν2 h2 => hDq9 ν2 (hPI.nu.tr h2)) nd ndn hnn ob hob1 hs23 ht23 st23 sp23 se23 ⟨_, _, _, _, ef23⟩) (cwV 2 hts (gt_V (own := R_Walk) (C := R_Walk) (i := 100) (y := y_Walk_pushSlice) i_Walk_pushSlice z_879 z_881 (gt_sel (y := y_Walk_pushSlice) (n := 4) (by decide +kernel)) w_5) rfl rfl rfl (by decide +kernel) ⟨by show 10 + 1 ≤ 58 + 5 * n; omega, by show 8 + (8 + 11) + (200) ≤ 2420 + 200 * n; omega⟩) ⟨ml_blind, va_recv hK hP (ci := 10) (q0 := 0) rfl rfl, fun U hU hW => ⟨rfl, ⟨hU, by rw [hU]; exact hPc, va_K.moved hW.alike hKc, hDc.weaken (fun _ _ _ _ => trivial)⟩, hN.warm hW, by rw [hU]; exact ZX.moved' hW.alike (ZX.narrow' (ZX.kept' hZ hS.2.1) hFc), by rw [hU]; exact CE.call hC hS.2.1 hFc hW, va_AO.moved hW.alike hV⟩⟩ rfl rfl hl.1 rfl (lv_room (Nat.le_of_ble_eq_true rfl)) d_Walk_choose_79 ⟨Nat.le_of_ble_eq_true rfl, Nat.le_of_ble_eq_true rfl⟩) hS (fun q _ h => hFc q h) hFc (fun q _ h => hFc q h) (fun En ce q9 ⟨tx, sx, gx, nx⟩ t9 H1 locs ht hvm hw hB hz1 hk1 hS hce hcv hcl => ?_) (fun ⟨t31, s31, g31, n31⟩ t9 H1 locs ht hvm hw hB hz1 hk1 hS => ?_)
              · obtain ⟨hEn, hP1, hK1, hD1⟩ := hB
                rw [ht] at hP1
                obtain ⟨hP, hD⟩ := va_joinP (wr := []) (rx := [(wk, .inr (10, [.ref wl, .int tx, .int sx, .ref rt])), (wl, .inl (cV, 10000, .inr (.inr (.inr (.inr gx)))))]) (pl1 := va_pl L (pf f nx)) hP hD [0, 1] [] rfl rfl (by decide) (by decide) hk1 hFc hP1 hD1
                generalize H1 = H at hP hS hce ⊢
                have hP : va_P (dC, dI) classes ([(wk, .inr (10, [.ref wl, .int tx, .int sx, .ref rt])), (wl, .inl (cV, 10000, .inr (.inr (.inr (.inr gx)))))] ++ va_pl L (pf f nx)) H := hP
                have hD : va_D A ([(wk, .inr (10, [.ref wl, .int tx, .int sx, .ref rt])), (wl, .inl (cV, 10000, .inr (.inr (.inr (.inr gx)))))] ++ va_pl L (pf f nx)) := hD
                have hno : 10000 < sp + ((chsS l9 rtn ndn)).2 := by have hw : 10000 < s9 + ((slcS (if hs23 = 0 then none else some st23) (if ht23 = 0 then none else some sp23) se23) rtn ndn).2 := hw.1; rw [← hRI1, hm8]; show 10000 < sp + (D.2 + (((slcS (if hs23 = 0 then none else some st23) (if ht23 = 0 then none else some sp23) se23) rtn ndn).2 + _)); omega
                exact vx_out (fun x hx => (hex x hx).elim) hlocks hce hcv hcl (fun t9 ht2 ha => ⟨(tx, sx, gx, nx), ⟨hno, hPI.nu.tr hw.2⟩, ⟨hEn, by rw [ht2]; exact hP, va_K.moved ha hK, hD⟩, hS.F ht2⟩) hS.2.2 (Nat.le_of_ble_eq_true rfl) (Nat.le_of_ble_eq_true rfl)
              · obtain ⟨⟨hP1, hK1, hD1⟩, hz9⟩ := hB
                rw [ht] at hP1
                rw [ht] at hz9
                refine w_tight (hq0.trans hz9) ?_
                have hq0 := hq0.trans hz9
                obtain ⟨hP, hD⟩ := va_joinP (wr := []) (rx := [(wk, .inr (10, [.ref wl, .int (nI t31), .int (nI s31), .ref rt])), (wl, .inl (cV, 10000, .inr (.inr (.inr (.inr g31)))))]) (pl1 := va_pl L (pf f n31)) hP hD [0, 1] [] rfl rfl (by decide) (by decide) hk1 hFc hP1 hD1
                generalize H1 = H at hP hS hq0 ⊢
                have hP : va_P (dC, dI) classes ([(wk, .inr (10, [.ref wl, .int (nI t31), .int (nI s31), .ref rt])), (wl, .inl (cV, 10000, .inr (.inr (.inr (.inr g31)))))] ++ va_pl L (pf f n31)) H := hP
                have hD : va_D A ([(wk, .inr (10, [.ref wl, .int (nI t31), .int (nI s31), .ref rt])), (wl, .inl (cV, 10000, .inr (.inr (.inr (.inr g31)))))] ++ va_pl L (pf f n31)) := hD
                have hq31 : PU E PL AL S ((slcS (if hs23 = 0 then none else some st23) (if ht23 = 0 then none else some sp23) se23) rtn ndn) t s9 g1 ν3 t31 s31 g31 n31 := hw
                have h031 := hq31.nu
                have hP31 : PU E PL AL S (catR D ((slcS (if hs23 = 0 then none else some st23) (if ht23 = 0 then none else some sp23) se23) rtn ndn)) tp sp g ν t31 s31 g31 n31 := hPI.tr hq31
                have hW_hP31 := hP31.wi
                have hA_hP31 := hW_hP31.1
                have hB_hP31 := hW_hP31.2.1
                have hC_hP31 := hP31.spt
                have hRI2 : catR (catR D ((slcS (if hs23 = 0 then none else some st23) (if ht23 = 0 then none else some sp23) se23) rtn ndn)) (chsS q8 rtn ndn) = (chsS l9 rtn ndn) := by rw [catR_a, ← hm8]; exact hRI1
                have hNn : NUg S ν3 n31 := h031
                refine lv_goto (tgt := 94) hx hb d_Walk_choose_82 (by decide) ?_
                refine lv_aload_n hx hb d_Walk_choose_94 rfl (lv_at hl 3 rfl) ?_
                rcases nx23 with _ | b32
                · refine vq_get (D := (dC, dI)) (ci := 7) (v := .null) (C := R_Selector) (T := F_Selector) (N := 9) hx hb hts in_Selector hown hK hP (hO.inL (a := ob) (by rw [hob1]; decide)) (pf_L ef23) rfl 8 (by decide) (hts _ z_630) (fun _ h9 => h9) rfl d_Walk_choose_95 ?_
                  refine lv_astore_nN (lv' := [(3, .null), (0, .ref wk), (1, .ref sg), (2, .ref nd)]) hx hb d_Walk_choose_98 rfl hl (by decide) rfl (fun ls hl => ?_)
                  refine lv_goto (tgt := 5) hx hb d_Walk_choose_99 (by decide) ?_
                  have hCn1 : CHD LD 8 (pf f ν3) S none q8 := by rw [← show refE 8 (pf f ν3 ob) = none by rw [pf_L ef23]; rfl]; exact hCn
                  have hCn2 : CHD LD 8 (pf f n31) S none q8 := CHL.nu hCn1 hNn
                  exact ih (none, q8, catR D ((slcS (if hs23 = 0 then none else some st23) (if ht23 = 0 then none else some sp23) se23) rtn ndn), t31, s31, g31, n31) _ _ _ ⟨(fun b h => nomatch h), hCn2, hP31, hRI2⟩ (chL_lt (hO.inL (a := ob) (by rw [hob1]; decide)) (fun b h => nomatch h)) hP hD hS (lv_sub hl [1, 2, 3, 0] rfl)
                · refine vq_get (D := (dC, dI)) (ci := 7) (v := .ref b32) (C := R_Selector) (T := F_Selector) (N := 9) hx hb hts in_Selector hown hK hP (hO.inL (a := ob) (by rw [hob1]; decide)) (pf_L ef23) rfl 8 (by decide) (hts _ z_630) (fun _ h9 => h9) rfl d_Walk_choose_95 ?_
                  refine lv_astore_n (lv' := [(3, .ref b32), (0, .ref wk), (1, .ref sg), (2, .ref nd)]) hx hb d_Walk_choose_98 rfl hl (by decide) rfl (fun ls hl => ?_)
                  refine lv_goto (tgt := 5) hx hb d_Walk_choose_99 (by decide) ?_
                  have hCn1 : CHD LD 8 (pf f ν3) S (some b32) q8 := by rw [← show refE 8 (pf f ν3 ob) = (some b32) by rw [pf_L ef23]; rfl]; exact hCn
                  have hCn2 : CHD LD 8 (pf f n31) S (some b32) q8 := CHL.nu hCn1 hNn
                  exact ih ((some b32), q8, catR D ((slcS (if hs23 = 0 then none else some st23) (if ht23 = 0 then none else some sp23) se23) rtn ndn), t31, s31, g31, n31) _ _ _ ⟨(fun b h => by cases h; exact ⟨(hv23.2.2.1 b32 rfl).1, Nat.le_trans (hv23.2.2.1 b32 rfl).2.1 hob2⟩), hCn2, hP31, hRI2⟩ (chL_lt (hO.inL (a := ob) (by rw [hob1]; decide)) (fun b h => by cases h; exact (hv23.2.2.1 b32 rfl).2.2)) hP hD hS (lv_sub hl [1, 2, 3, 0] rfl)
            · have hk13_0 := i_neN 0 rfl hs13_0
              have hk13_1 := i_neN 1 rfl hs13_1
              have hk13_2 := i_neN 2 rfl hs13_2
              have hk13_3 := i_neN 3 rfl hs13_3
              refine lv_tableOut (tgt := 85) hx hb d_Walk_choose_13 (by omega) (by decide) ?_
              refine lv_aload_n hx hb d_Walk_choose_85 rfl (lv_at hl 0 rfl) ?_
              refine lv_aload_n hx hb d_Walk_choose_86 rfl (lv_at hl 2 rfl) ?_
              refine lv_aload_n hx hb d_Walk_choose_87 rfl (lv_at hl 3 rfl) ?_
              rcases fl23 with _ | b33
              · exact absurd rfl (hv23.2.2.2.2.1 hs13_0 hs13_1 hs13_2 hs13_3)
              · refine vq_get (D := (dC, dI)) (ci := 7) (v := .ref b33) (C := R_Selector) (T := F_Selector) (N := 9) hx hb hts in_Selector hown hK hP (hO.inL (a := ob) (by rw [hob1]; decide)) (pf_L ef23) rfl 7 (by decide) (hts _ z_626) (fun _ h9 => h9) rfl d_Walk_choose_88 ?_
                have hlt := (hv23.2.1 b33 rfl).2
                obtain ⟨b8, g8, e8, -, hK8, hm7⟩ := (hLD.ax (pf_L ef23)).2.2.2.2 hs13_0 hs13_1 hs13_2 hs13_3
                obtain rfl := Option.some.inj e8
                have hm8 : m8 = (filS g8) := hm7
                have hRI1 : catR D (catR (m8 rtn ndn) (chsS q8 rtn ndn)) = (chsS l9 rtn ndn) := hRI
                have hPc := hP.part (cx := [(wk, .inr (10, [.ref wl, .int (nI t), .int (nI s9), .ref rt])), (wl, .inl (cV, 10000, .inr (.inr (.inr (.inr g1)))))]) [0, 1] rfl
                have hDc := hD.part (cx := [(wk, .inr (10, [.ref wl, .int (nI t), .int (nI s9), .ref rt])), (wl, .inl (cV, 10000, .inr (.inr (.inr (.inr g1)))))]) [0, 1] (by decide) rfl
                have hFc := va_freeP (cx := [(wk, .inr (10, [.ref wl, .int (nI t), .int (nI s9), .ref rt])), (wl, .inl (cV, 10000, .inr (.inr (.inr (.inr g1)))))]) hD hS hA [0, 1] rfl
                have hKc := hK.sub (tys' := [(cI, .int), (cV, .object "QueryBench$Value")]) [0, 1] rfl
                refine w_same (fun hq0 => ?_)
                refine vx_callv (vx_runV (As := [.ref nd, .ref b33]) (rest := []) ⟨hx, hb, hml, hown, hts⟩ (p_Walk_pushFiltered l hl9 K dC dI H cI cV E lv L f hO hN1 PL AL S wk wl rt hrt rtn hrn t s9 g1 ν3 hW_hPI (fun ν2 h2 => hDq9 ν2 (hPI.nu.tr h2)) nd ndn hnn n (by omega) (HI (by omega)) b33 (hv23.2.1 b33 rfl).1 (by omega) g8 hK8) (cwV 2 hts (gt_V (own := R_Walk) (C := R_Walk) (i := 108) (y := y_Walk_pushFiltered) i_Walk_pushFiltered z_891 z_893 (gt_sel (y := y_Walk_pushFiltered) (n := 4) (by decide +kernel)) w_5) rfl rfl rfl (by decide +kernel) ⟨by show 57 + 5 * n + 1 ≤ 58 + 5 * n; omega, by show 8 + (4 + 11) + (2380 + 200 * n) ≤ 2420 + 200 * n; omega⟩) ⟨ml_blind, va_recv hK hP (ci := 10) (q0 := 0) rfl rfl, fun U hU hW => ⟨rfl, ⟨hU, by rw [hU]; exact hPc, va_K.moved hW.alike hKc, hDc.weaken (fun _ _ _ _ => trivial)⟩, hN.warm hW, by rw [hU]; exact ZX.moved' hW.alike (ZX.narrow' (ZX.kept' hZ hS.2.1) hFc), by rw [hU]; exact CE.call hC hS.2.1 hFc hW, va_AO.moved hW.alike hV⟩⟩ rfl rfl hl.1 rfl (lv_room (Nat.le_of_ble_eq_true rfl)) d_Walk_choose_91 ⟨Nat.le_of_ble_eq_true rfl, Nat.le_of_ble_eq_true rfl⟩) hS (fun q _ h => hFc q h) hFc (fun q _ h => hFc q h) (fun En ce q9 ⟨tx, sx, gx, nx⟩ t9 H1 locs ht hvm hw hB hz1 hk1 hS hce hcv hcl => ?_) (fun ⟨t34, s34, g34, n34⟩ t9 H1 locs ht hvm hw hB hz1 hk1 hS => ?_)
                · obtain ⟨hEn, hP1, hK1, hD1⟩ := hB
                  rw [ht] at hP1
                  obtain ⟨hP, hD⟩ := va_joinP (wr := []) (rx := [(wk, .inr (10, [.ref wl, .int tx, .int sx, .ref rt])), (wl, .inl (cV, 10000, .inr (.inr (.inr (.inr gx)))))]) (pl1 := va_pl L (pf f nx)) hP hD [0, 1] [] rfl rfl (by decide) (by decide) hk1 hFc hP1 hD1
                  generalize H1 = H at hP hS hce ⊢
                  have hP : va_P (dC, dI) classes ([(wk, .inr (10, [.ref wl, .int tx, .int sx, .ref rt])), (wl, .inl (cV, 10000, .inr (.inr (.inr (.inr gx)))))] ++ va_pl L (pf f nx)) H := hP
                  have hD : va_D A ([(wk, .inr (10, [.ref wl, .int tx, .int sx, .ref rt])), (wl, .inl (cV, 10000, .inr (.inr (.inr (.inr gx)))))] ++ va_pl L (pf f nx)) := hD
                  have hno : 10000 < sp + ((chsS l9 rtn ndn)).2 := by have hw : 10000 < s9 + ((filS g8) rtn ndn).2 := hw.1; rw [← hRI1, hm8]; show 10000 < sp + (D.2 + (((filS g8) rtn ndn).2 + _)); omega
                  exact vx_out (fun x hx => (hex x hx).elim) hlocks hce hcv hcl (fun t9 ht2 ha => ⟨(tx, sx, gx, nx), ⟨hno, hPI.nu.tr hw.2⟩, ⟨hEn, by rw [ht2]; exact hP, va_K.moved ha hK, hD⟩, hS.F ht2⟩) hS.2.2 (Nat.le_of_ble_eq_true rfl) (Nat.le_of_ble_eq_true rfl)
                · obtain ⟨⟨hP1, hK1, hD1⟩, hz9⟩ := hB
                  rw [ht] at hP1
                  rw [ht] at hz9
                  refine w_tight (hq0.trans hz9) ?_
                  have hq0 := hq0.trans hz9
                  obtain ⟨hP, hD⟩ := va_joinP (wr := []) (rx := [(wk, .inr (10, [.ref wl, .int (nI t34), .int (nI s34), .ref rt])), (wl, .inl (cV, 10000, .inr (.inr (.inr (.inr g34)))))]) (pl1 := va_pl L (pf f n34)) hP hD [0, 1] [] rfl rfl (by decide) (by decide) hk1 hFc hP1 hD1
                  generalize H1 = H at hP hS hq0 ⊢
                  have hP : va_P (dC, dI) classes ([(wk, .inr (10, [.ref wl, .int (nI t34), .int (nI s34), .ref rt])), (wl, .inl (cV, 10000, .inr (.inr (.inr (.inr g34)))))] ++ va_pl L (pf f n34)) H := hP
                  have hD : va_D A ([(wk, .inr (10, [.ref wl, .int (nI t34), .int (nI s34), .ref rt])), (wl, .inl (cV, 10000, .inr (.inr (.inr (.inr g34)))))] ++ va_pl L (pf f n34)) := hD
                  have hq34 : PU E PL AL S ((filS g8) rtn ndn) t s9 g1 ν3 t34 s34 g34 n34 := hw
                  have h034 := hq34.nu
                  have hP34 : PU E PL AL S (catR D ((filS g8) rtn ndn)) tp sp g ν t34 s34 g34 n34 := hPI.tr hq34
                  have hW_hP34 := hP34.wi
                  have hA_hP34 := hW_hP34.1
                  have hB_hP34 := hW_hP34.2.1
                  have hC_hP34 := hP34.spt
                  have hRI2 : catR (catR D ((filS g8) rtn ndn)) (chsS q8 rtn ndn) = (chsS l9 rtn ndn) := by rw [catR_a, ← hm8]; exact hRI1
                  have hNn : NUg S ν3 n34 := h034
                  refine lv_aload_n hx hb d_Walk_choose_94 rfl (lv_at hl 3 rfl) ?_
                  rcases nx23 with _ | b35
                  · refine vq_get (D := (dC, dI)) (ci := 7) (v := .null) (C := R_Selector) (T := F_Selector) (N := 9) hx hb hts in_Selector hown hK hP (hO.inL (a := ob) (by rw [hob1]; decide)) (pf_L ef23) rfl 8 (by decide) (hts _ z_630) (fun _ h9 => h9) rfl d_Walk_choose_95 ?_
                    refine lv_astore_nN (lv' := [(3, .null), (0, .ref wk), (1, .ref sg), (2, .ref nd)]) hx hb d_Walk_choose_98 rfl hl (by decide) rfl (fun ls hl => ?_)
                    refine lv_goto (tgt := 5) hx hb d_Walk_choose_99 (by decide) ?_
                    have hCn1 : CHD LD 8 (pf f ν3) S none q8 := by rw [← show refE 8 (pf f ν3 ob) = none by rw [pf_L ef23]; rfl]; exact hCn
                    have hCn2 : CHD LD 8 (pf f n34) S none q8 := CHL.nu hCn1 hNn
                    exact ih (none, q8, catR D ((filS g8) rtn ndn), t34, s34, g34, n34) _ _ _ ⟨(fun b h => nomatch h), hCn2, hP34, hRI2⟩ (chL_lt (hO.inL (a := ob) (by rw [hob1]; decide)) (fun b h => nomatch h)) hP hD hS (lv_sub hl [1, 2, 3, 0] rfl)
                  · refine vq_get (D := (dC, dI)) (ci := 7) (v := .ref b35) (C := R_Selector) (T := F_Selector) (N := 9) hx hb hts in_Selector hown hK hP (hO.inL (a := ob) (by rw [hob1]; decide)) (pf_L ef23) rfl 8 (by decide) (hts _ z_630) (fun _ h9 => h9) rfl d_Walk_choose_95 ?_
                    refine lv_astore_n (lv' := [(3, .ref b35), (0, .ref wk), (1, .ref sg), (2, .ref nd)]) hx hb d_Walk_choose_98 rfl hl (by decide) rfl (fun ls hl => ?_)
                    refine lv_goto (tgt := 5) hx hb d_Walk_choose_99 (by decide) ?_
                    have hCn1 : CHD LD 8 (pf f ν3) S (some b35) q8 := by rw [← show refE 8 (pf f ν3 ob) = (some b35) by rw [pf_L ef23]; rfl]; exact hCn
                    have hCn2 : CHD LD 8 (pf f n34) S (some b35) q8 := CHL.nu hCn1 hNn
                    exact ih ((some b35), q8, catR D ((filS g8) rtn ndn), t34, s34, g34, n34) _ _ _ ⟨(fun b h => by cases h; exact ⟨(hv23.2.2.1 b35 rfl).1, Nat.le_trans (hv23.2.2.1 b35 rfl).2.1 hob2⟩), hCn2, hP34, hRI2⟩ (chL_lt (hO.inL (a := ob) (by rw [hob1]; decide)) (fun b h => by cases h; exact (hv23.2.2.1 b35 rfl).2.2)) hP hD hS (lv_sub hl [1, 2, 3, 0] rfl)
