theorem z_886 : (.methodLink "QueryBench$Walk" 143 ⟨"java/lang/Math", "min", "(JJ)J"⟩ : Cond) ∈ gtbl := gt_in 886 (by decide +kernel) (by decide +kernel)
theorem z_887 : (.methodLink "QueryBench$Walk" 149 ⟨"java/lang/Math", "max", "(JJ)J"⟩ : Cond) ∈ gtbl := gt_in 887 (by decide +kernel) (by decide +kernel)
theorem z_888 : (.static ⟨"java/lang/Math", "max", "(JJ)J"⟩ : Cond) ∈ gtbl := gt_in 888 (by decide +kernel) (by decide +kernel)
theorem cut_in2 {a b x m r : Int64} (h : a.toInt ≤ b.toInt) (em : m = if x < b then x else b) (er : r = if m < a then a else m) : a.toInt ≤ r.toInt ∧ r.toInt ≤ b.toInt := by
  have hm : m.toInt ≤ b.toInt := by
    rw [em]
    split
    · rename_i h1
      have h3 := Int64.lt_iff_toInt_lt.mp h1
      omega
    · omega
  rw [er]
  split
  · omega
  · rename_i h1
    have h3 : ¬ m.toInt < a.toInt := fun h => h1 (Int64.lt_iff_toInt_lt.mpr h)
    omega
abbrev b_Walk_cut : ByteArray := prog_12_method_12_code
def y_Walk_cut : MethodName := ⟨"QueryBench$Walk", "cut", "(JIII)J"⟩
abbrev k_Walk_cut : Cond := .code y_Walk_cut b_Walk_cut 7 (some .long)
theorem i_Walk_cut : k_Walk_cut ∈ gtbl := gt_in 885 (by decide +kernel) (by decide +kernel)
theorem d_Walk_cut_0 : decode b_Walk_cut 0 = .ok (.lload_n 0, 1) := by decide +kernel
theorem d_Walk_cut_1 : decode b_Walk_cut 1 = .ok (.lconst 0, 1) := by decide +kernel
theorem d_Walk_cut_2 : decode b_Walk_cut 2 = .ok (.lcmp, 1) := by decide +kernel
theorem d_Walk_cut_3 : decode b_Walk_cut 3 = .ok (.ifCond .ge 10, 3) := by decide +kernel
theorem d_Walk_cut_6 : decode b_Walk_cut 6 = .ok (.lload_n 0, 1) := by decide +kernel
theorem d_Walk_cut_7 : decode b_Walk_cut 7 = .ok (.iload_n 2, 1) := by decide +kernel
theorem d_Walk_cut_8 : decode b_Walk_cut 8 = .ok (.i2l, 1) := by decide +kernel
theorem d_Walk_cut_9 : decode b_Walk_cut 9 = .ok (.ladd, 1) := by decide +kernel
theorem d_Walk_cut_10 : decode b_Walk_cut 10 = .ok (.goto 4, 3) := by decide +kernel
theorem d_Walk_cut_13 : decode b_Walk_cut 13 = .ok (.lload_n 0, 1) := by decide +kernel
theorem d_Walk_cut_14 : decode b_Walk_cut 14 = .ok (.lstore 5, 2) := by decide +kernel
theorem d_Walk_cut_16 : decode b_Walk_cut 16 = .ok (.iload_n 3, 1) := by decide +kernel
theorem d_Walk_cut_17 : decode b_Walk_cut 17 = .ok (.i2l, 1) := by decide +kernel
theorem d_Walk_cut_18 : decode b_Walk_cut 18 = .ok (.iload 4, 2) := by decide +kernel
theorem d_Walk_cut_20 : decode b_Walk_cut 20 = .ok (.i2l, 1) := by decide +kernel
theorem d_Walk_cut_21 : decode b_Walk_cut 21 = .ok (.lload 5, 2) := by decide +kernel
theorem d_Walk_cut_23 : decode b_Walk_cut 23 = .ok (.invokestatic 143, 3) := by decide +kernel
theorem d_Walk_cut_26 : decode b_Walk_cut 26 = .ok (.invokestatic 149, 3) := by decide +kernel
theorem d_Walk_cut_29 : decode b_Walk_cut 29 = .ok (.lreturn, 1) := by decide +kernel
set_option maxHeartbeats 4000000 in
set_option maxRecDepth 100000 in
/-- Walk.cut -/
theorem c_Walk_cut (l : Launch) (dC : Nat → ClassId) (dI : Nat → Nat → Nat) (sz : Heap) (x : Int64) (sz9 le mo : Int32) (hlm : le.toInt ≤ mo.toInt) : Met l y_Walk_cut (k_Walk_cut :: gtbl) ({ frames := 1, cells := 0, slots := 0, locals := 30 }) (va_Pc [.long x, .int sz9, .int le, .int mo] mT) (vp_Sl (fun (r : Int64) => le.toInt ≤ r.toInt ∧ r.toInt ≤ mo.toInt)) 0 0 (fun _ => False) := by
  refine Met.ofW (cc := b_Walk_cut) (maxL := 7) (ret := (some .long)) (by decide) rfl ?_
  intro p e s m args below meth c s₁ B hml hv
  obtain ⟨rfl, hN⟩ := hv
  have hx := B.exec
  have hb := B.bytes
  have hr := B.returns
  have hts0 := atoms_spec (ws := k_Walk_cut :: gtbl) B.pre
  have hts := fun w h => hts0 w (List.mem_cons_of_mem _ h)
  have hown : s.vm.findClass R_Walk = some m.cls := findClass_of_methodNamed B.named
  have hlocks := B.notSynchronized
  have hl := lv_entry ([.long x, .int sz9, .int le, .int mo]) (n := 7) (Nat.le_of_ble_eq_true rfl)
  rw [lg_entry_eq]
  generalize (lg_sl ([.long x, .int sz9, .int le, .int mo]) ++ List.replicate (7 - (lg_sl ([.long x, .int sz9, .int le, .int mo])).length) Slot.unset).toArray = ls at hl ⊢
  have hl : lv_has ls 7 [(0, .long x), (2, .int sz9), (3, .int le), (4, .int mo)] := hl
  refine lv_lload_n hx hb d_Walk_cut_0 rfl (lv_at hl 0 rfl) ?_
  refine lv_lconst (v := 0) hx hb d_Walk_cut_1 (by decide) ?_
  refine W.lcmp hx hb d_Walk_cut_2 ?_
  refine lv_if_ge (tgt := 13) hx hb d_Walk_cut_3 (by decide) (fun c3 => ?_) (fun c3 => ?_)
  · refine lv_lload_n hx hb d_Walk_cut_13 rfl (lv_at hl 0 rfl) ?_
    refine lv_lstore (lv' := [(5, .long x), (0, .long x), (2, .int sz9), (3, .int le), (4, .int mo)]) hx hb d_Walk_cut_14 hl (by decide) rfl (fun ls hl => ?_)
    refine lv_iload_n hx hb d_Walk_cut_16 rfl (lv_at hl 3 rfl) ?_
    refine lv_i2l (v := le.toInt64) hx hb d_Walk_cut_17 rfl ?_
    refine lv_iload hx hb d_Walk_cut_18 (lv_at hl 4 rfl) ?_
    refine lv_i2l (v := mo.toInt64) hx hb d_Walk_cut_20 rfl ?_
    refine lv_lload hx hb d_Walk_cut_21 (lv_at hl 0 rfl) ?_
    refine va_mmin_long hx hb (hml.trans hl.1.symm) hown (hts _ z_886) (hts _ w_520) (hts _ w_16) (hts _ w_minl) (Nat.le_of_ble_eq_true rfl) (Nat.le_of_ble_eq_true rfl) (Nat.zero_le _) (Nat.zero_le _) d_Walk_cut_23 ?_
    refine lv_topl (fun x1 e1 => ?_)
    refine va_mmax_long hx hb (hml.trans hl.1.symm) hown (hts _ z_887) (hts _ z_888) (hts _ w_16) (hts _ wm_maxl) (Nat.le_of_ble_eq_true rfl) (Nat.le_of_ble_eq_true rfl) (Nat.zero_le _) (Nat.zero_le _) d_Walk_cut_26 ?_
    refine lv_topl (fun x2 e2 => ?_)
    exact W.lret (v := x2) hx hb hr (fun t ht hW => ⟨x2, rfl, (by rw [← Int32.toInt_toInt64 le, ← Int32.toInt_toInt64 mo]; exact cut_in2 (by rw [Int32.toInt_toInt64, Int32.toInt_toInt64]; exact hlm) e1 e2), ht⟩) (fun _ h => nomatch h) d_Walk_cut_29
  · refine lv_lload_n hx hb d_Walk_cut_6 rfl (lv_at hl 0 rfl) ?_
    refine lv_iload_n hx hb d_Walk_cut_7 rfl (lv_at hl 1 rfl) ?_
    refine lv_i2l (v := sz9.toInt64) hx hb d_Walk_cut_8 rfl ?_
    refine lv_ladd hx hb d_Walk_cut_9 ?_
    refine lv_goto (tgt := 14) hx hb d_Walk_cut_10 (by decide) ?_
    refine lv_lstore (lv' := [(5, .long (x + (sz9.toInt64))), (0, .long x), (2, .int sz9), (3, .int le), (4, .int mo)]) hx hb d_Walk_cut_14 hl (by decide) rfl (fun ls hl => ?_)
    refine lv_iload_n hx hb d_Walk_cut_16 rfl (lv_at hl 3 rfl) ?_
    refine lv_i2l (v := le.toInt64) hx hb d_Walk_cut_17 rfl ?_
    refine lv_iload hx hb d_Walk_cut_18 (lv_at hl 4 rfl) ?_
    refine lv_i2l (v := mo.toInt64) hx hb d_Walk_cut_20 rfl ?_
    refine lv_lload hx hb d_Walk_cut_21 (lv_at hl 0 rfl) ?_
    refine va_mmin_long hx hb (hml.trans hl.1.symm) hown (hts _ z_886) (hts _ w_520) (hts _ w_16) (hts _ w_minl) (Nat.le_of_ble_eq_true rfl) (Nat.le_of_ble_eq_true rfl) (Nat.zero_le _) (Nat.zero_le _) d_Walk_cut_23 ?_
    refine lv_topl (fun x1 e1 => ?_)
    refine va_mmax_long hx hb (hml.trans hl.1.symm) hown (hts _ z_887) (hts _ z_888) (hts _ w_16) (hts _ wm_maxl) (Nat.le_of_ble_eq_true rfl) (Nat.le_of_ble_eq_true rfl) (Nat.zero_le _) (Nat.zero_le _) d_Walk_cut_26 ?_
    refine lv_topl (fun x2 e2 => ?_)
    exact W.lret (v := x2) hx hb hr (fun t ht hW => ⟨x2, rfl, (by rw [← Int32.toInt_toInt64 le, ← Int32.toInt_toInt64 mo]; exact cut_in2 (by rw [Int32.toInt_toInt64, Int32.toInt_toInt64]; exact hlm) e1 e2), ht⟩) (fun _ h => nomatch h) d_Walk_cut_29
