/-- the class's texts: whose they are, the place of each in its class, its letters -/
def cstrs : List (String × Nat × String × List Int32) := [("QueryBench$Printer", 71, "null", [110, 117, 108, 108]), ("QueryBench$Printer", 77, "false", [102, 97, 108, 115, 101]), ("QueryBench$Printer", 79, "true", [116, 114, 117, 101]), ("QueryBench$Printer", 104, "\\u", [92, 117]), ("QueryBench$Printer", 106, "0123456789abcdef", [48, 49, 50, 51, 52, 53, 54, 55, 56, 57, 97, 98, 99, 100, 101, 102]), ("QueryBench$JsonReader", 70, "null", [110, 117, 108, 108]), ("QueryBench$JsonReader", 76, "false", [102, 97, 108, 115, 101]), ("QueryBench$JsonReader", 78, "true", [116, 114, 117, 101]), ("QueryBench$QueryReader", 221, "count", [99, 111, 117, 110, 116]), ("QueryBench$QueryReader", 230, "value", [118, 97, 108, 117, 101]), ("QueryBench$QueryReader", 236, "length", [108, 101, 110, 103, 116, 104]), ("QueryBench$QueryReader", 245, "true", [116, 114, 117, 101]), ("QueryBench$QueryReader", 247, "false", [102, 97, 108, 115, 101]), ("QueryBench$QueryReader", 249, "null", [110, 117, 108, 108])]
def ctx (k : Nat) (j : Nat) : Int32 := ((cstrs.getD k ("", 0, "", [])).2.2.2).getD j 0
def CE (K : Nat → Nat × Nat) (A : Nat → Prop) (U : State) (H : Heap) : Prop := ∀ (k : Nat) (x : String × Nat × String × List Int32), cstrs[k]? = some x → SX (K k).1 (K k).2 x.2.2.2.length (ctx k) A U H ∧ vk_R x.1 x.2.1 x.2.2.1 (K k).1 U
theorem CE.call {K : Nat → Nat × Nat} {A B : Nat → Prop} {s U : State} {H : Heap} (h : CE K A s s.heap) (hq : ∀ a : Nat, a < s.heap.size → ¬ A a → H[a]? = s.heap[a]?) (hF : ∀ q, B q → A q) (hW : s.WarmedH U.vm) : CE K B U H := fun k x hk =>
  ⟨SX.moved' hW.alike (SX.narrow' (SX.kept' (h k x hk).1 hq) hF), vk_R.warm hW (h k x hk).2⟩
/-- the world of the class's methods: what a throw needs, its texts, its rows of values -/
abbrev ml (K : Nat → Nat × Nat) (dC : Nat → ClassId) (dI : Nat → Nat → Nat) (ws : va_W) (tys : List (ClassId × FieldType)) (sz : Heap) (U : State) : Prop := mp dC dI ws tys sz U ∧ NW U ∧ ZX (va_A ws sz.size) U U.heap ∧ CE K (va_A ws sz.size) U U.heap ∧ va_AO "QueryBench$Value" U
theorem ml_blind {K : Nat → Nat × Nat} {dC : Nat → ClassId} {dI : Nat → Nat → Nat} {ws : va_W} {tys : List (ClassId × FieldType)} {sz : Heap} {vs : List Value} : FrameBlind (va_Pc vs (ml K dC dI ws tys sz)) := fun a U g mk q => by
  obtain ⟨q0, ⟨q1, qP, qK, qD⟩, qN, qZ, qC, qV⟩ := q
  exact ⟨q0, ⟨q1, qP, va_K.moved (u := U) (U := U.calling g mk a) (Vm.Alike.refl U.vm) qK, qD⟩, NW.same (s := U) (U := U.calling g mk a) rfl qN, ZX.moved' (u := U) (U := U.calling g mk a) (Vm.Alike.refl U.vm) qZ, fun k x hk => ⟨SX.moved' (u := U) (U := U.calling g mk a) (Vm.Alike.refl U.vm) (qC k x hk).1, vk_R.same (u := U) (U := U.calling g mk a) rfl (qC k x hk).2⟩, va_AO.moved (u := U) (U := U.calling g mk a) (Vm.Alike.refl U.vm) qV⟩
section CallQ
variable {p : Program} {l : Launch} {e : Env} {R : Room} {s : State} {m : MethodId} {args : Array Value} {below : List Frame} {meth : Method} {c : Code} {H : Heap} {locs : List Loc} {cells slots : Nat} {Q : State → Prop}
variable {mc ms : Nat} {free : Addr → Prop} {A0 A1 : Nat → Prop} {H0 : Heap} {a : Array Value} {pc : Nat} {ls : Array Slot} {st0 rest : List Value}
/-- behind a call that answers a reference or null, or throws -/
theorem vx_callq {S SX : Type} {post : Option Nat → S → Prop} {px : SX → Prop} {B : S → State → Prop} {BX : String → SX → State → Prop} {AX : Nat → Prop} (hr : vx_Run p l e R s m args below meth c H locs cells slots mc ms (F0 m pc ls st0) rest (va_Qq post B A1 a) (vx_X px BX AX) free) (hS : va_S A0 H0 H locs) (hA : ∀ q, q < H.size → A1 q → A0 q) (hf : ∀ q, free q → A0 q) (hAX : ∀ q, q < H.size → AX q → A0 q)
    (kx : ∀ (E : String) (ce : Cell) (q9 : Addr) (u : SX) (t : State) (H1 : Heap) (locs1 : List Loc), t.heap = H1 → s.vm.Alike t.vm → px u → BX E u t → H.size ≤ H1.size → (∀ q : Nat, q < H.size → ¬ AX q → H1[q]? = H[q]?) → va_S A0 H0 H1 locs1 → H1[q9]? = some ce → ce.vm = .none → s.vm.findClass E = some ce.cls → vx_W p l e R s m args below meth c H1 locs1 (cells + mc) (slots + ms) Q (F0 m pc ls rest) q9)
    (kk : ∀ (r : Option Nat) (u : S) (t : State) (H1 : Heap) (locs1 : List Loc), t.heap = H1 → s.vm.Alike t.vm → post r u → B u t → H.size ≤ H1.size → (∀ q : Nat, q < H.size → ¬ A1 q → H1[q]? = H[q]?) → va_S A0 H0 H1 locs1 → W p l e R s m args below meth c H1 locs1 (cells + mc) (slots + ms) Q (F0 m (pc + 3) ls (va_rf r :: rest))) : W p l e R s m args below meth c H locs cells slots Q (F0 m pc ls st0) := by
  intro T hT X
  rcases hr T hT X with ⟨v, st₀, t, T', L, h0, X', hL, e1, e2, ⟨⟨r, u, hv, hp, hb⟩, hF⟩, st⟩ | ⟨q, st₀, t, T', L, E, ce, h0, X', hL, e1, e2, ⟨u, hp, hb, hF⟩, hce, hcv, hcl, st⟩
  · cases hv
    obtain ⟨k1, k2, k3⟩ := vx_keep h0 e1 hS hA hf hL hF
    obtain ⟨t2, a1, b1⟩ := kk r u t T'.heap (locs ++ L) e1.symm (by rw [← e2]; exact X'.warmed.alike) hp hb k1 k2 k3 T' rfl X'
    exact ⟨t2, st t2 a1, b1⟩
  · obtain ⟨k1, k2, k3⟩ := vx_keep h0 e1 hS hAX hf hL hF
    obtain ⟨t2, a1, b1⟩ := kx E ce q u t T'.heap (locs ++ L) e1.symm (by rw [← e2]; exact X'.warmed.alike) hp hb k1 k2 k3 (by rw [e1]; exact hce) hcv hcl T' rfl X'
    exact ⟨t2, st.trans a1, b1⟩
end CallQ
theorem i_neN {x k : Int32} (z : Int) (e : k.toInt = z) (h : ¬ x = k) : x.toInt ≠ z := fun q => h (Int32.toInt_inj.mp (q.trans e.symm))
abbrev IOB : String := "java/lang/IndexOutOfBoundsException"
