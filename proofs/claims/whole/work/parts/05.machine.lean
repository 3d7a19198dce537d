/-! ===== the machine seen from afar: V (a frame of a method, a picture of the heap), Cm (a method's contract); nothing here speaks of one method ===== -/
/-- launch, numbers, the first cell that is ours, the heap at the start, room, kinds of rows -/
abbrev GT : Type := Launch × va_G × Nat × Heap × Nat × Nat × (Nat → ClassId) × (Nat → Nat) × (Nat → Nat)
abbrev gL (G : GT) : Launch := G.1
abbrev gD (G : GT) : va_G := G.2.1
abbrev gB (G : GT) : Nat := G.2.2.1
abbrev gH (G : GT) : Heap := G.2.2.2.1
abbrev gN (G : GT) : Nat := G.2.2.2.2.1
abbrev gU (G : GT) : Nat := G.2.2.2.2.2.1
abbrev gK (G : GT) : Nat → ClassId := G.2.2.2.2.2.2.1
abbrev gAK (G : GT) : Nat → Nat := G.2.2.2.2.2.2.2.1
abbrev gAV (G : GT) : Nat → Nat := G.2.2.2.2.2.2.2.2
abbrev gT (G : GT) : List (ClassId × FieldType) := [(gK G 0, .int), (gK G 1, .long), (gK G 2, .object RX4), (gK G 3, .object RX7)]
/-- calls of private members of a nest mate: who calls, its entry, whom, the host -/
def gNl : List (String × Nat × MethodName × String) := [(RX11, 11, yX9_init, RX11), (RX9, 22, yX6_init, RX11), (RX6, 11, yX8_init, RX11), (RX11, 30, yX1_init, RX11), (RX1, 11, yX6_init, RX11), (RX11, 37, yX10_init, RX11), (RX11, 44, yX0_init, RX11), (RX11, 51, yX3_init, RX11), (RX7, 36, yX4_init, RX11), (RX4, 11, yX2_init, RX11)]
/-- written texts: who has it, its entry, the text -/
def gSt : List (String × Nat × String) := [(RX9, 77, "way"), (RX9, 83, "longest"), (RX9, 85, "pairs"), (RX9, 87, "check"), (RX9, 89, "size"), (RX9, 90, "channel"), (RX9, 101, "plain"), (RX9, 103, "reduced"), (RX9, 125, "none"), (RX9, 127, "sum"), (RX9, 129, "crc"), (RX11, 246, "no such channel"), (RX11, 275, "no such what"), (RX12, 128, "way"), (RX12, 133, "plain"), (RX12, 134, "pairs"), (RX12, 135, "reduced"), (RX12, 144, "longest"), (RX12, 154, "check"), (RX12, 156, "none"), (RX12, 158, "sum"), (RX12, 160, "crc"), (RX12, 165, "size"), (RX12, 170, "channel")]
/-- the law's own row of numbers (its place is number 99) is one, whatever is linked later -/
def gS (G : GT) (U : State) : Prop := ∀ cell, (gH G)[gAV G 99]? = some cell → U.isArrayOf cell .int ∧ cell.vm ≠ .unknown
theorem gS.moved {G : GT} {s U : State} (hvm : s.vm.Alike U.vm) (h : gS G s) : gS G U := fun cell hc => by
  obtain ⟨⟨h1, k, h2, comp, h3⟩, h4⟩ := h cell hc
  obtain ⟨k', hk', he⟩ := hvm.2.2 _ _ h2
  exact ⟨⟨h1, k', hk', comp, by rw [he]; exact h3⟩, h4⟩
/-- statics and words that the tables keep: texts are of bytes, what a throw asks -/
def gE (G : GT) (U : State) : Prop := (va_Z "java/lang/String" "COMPACT_STRINGS" "Z" (.int 1) (fun q => gB G ≤ q) U (gH G) ∧ va_Zq "jdk/internal/util/Preconditions" "SIOOBE_FORMATTER" "Ljava/util/function/BiFunction;" (fun q => gB G ≤ q) U (gH G)) ∧ (vx_Zq Bundle.tN "UNASSIGNED_STACK" Bundle.steD (fun q => gB G ≤ q) U (gH G) ∧ vx_Zq Bundle.tN "SUPPRESSED_SENTINEL" Bundle.listD (fun q => gB G ≤ q) U (gH G)) ∧ (∀ x ∈ [Bundle.initS "java/lang/RuntimeException", Bundle.initS "java/lang/Exception", Bundle.initS Bundle.tN], va_Nw (.declares x) U) ∧ va_Nw (.castable "java/util/NoSuchElementException" "java/util/NoSuchElementException") U ∧ gS G U
theorem gE.warm {G : GT} {s U : State} (hW : s.WarmedH U.vm) (h : gE G s) : gE G U := ⟨⟨va_Z.moved hW.alike h.1.1, va_Zq.moved hW.alike h.1.2⟩, ⟨vx_Zq.moved hW.alike h.2.1.1, vx_Zq.moved hW.alike h.2.1.2⟩, fun x hx => va_Nw.warmD hW (h.2.2.1 x hx), va_Nw.warmC hW h.2.2.2.1, h.2.2.2.2.moved hW.alike⟩
theorem gE.calling {G : GT} {U : State} (g : JFrame) (mk : MethodId) (v : Array Value) (h : gE G U) : gE G (U.calling g mk v) := ⟨⟨va_Z.moved (Vm.Alike.refl U.vm) h.1.1, va_Zq.moved (Vm.Alike.refl U.vm) h.1.2⟩, ⟨vx_Zq.moved (Vm.Alike.refl U.vm) h.2.1.1, vx_Zq.moved (Vm.Alike.refl U.vm) h.2.1.2⟩, fun x hx => va_Nw.same rfl rfl (h.2.2.1 x hx), va_Nw.same rfl rfl h.2.2.2.1, h.2.2.2.2.moved (Vm.Alike.refl U.vm)⟩
/-- what holds of the tables, whatever is linked later: nest mates, written texts (in the heap at the start) -/
def gX (G : GT) (U : State) : Prop := (∀ r ∈ gNl, va_Nw (.methodLinkNest r.1 r.2.1 r.2.2.1 r.2.2.2) U) ∧ (va_AO RX4 U ∧ va_AO RX7 U) ∧ gE G U ∧ ∀ (i : Nat) (r : String × Nat × String), gSt[i]? = some r → vk_R r.1 r.2.1 r.2.2 (gAK G i) U ∧ va_O "java/lang/String" (gAK G i) (fun q => gB G ≤ q) U (gH G) ∧ va_OF "java/lang/String" "coder" "B" (.int 0) (gAK G i) (fun q => gB G ≤ q) U (gH G) ∧ va_OF "java/lang/String" "value" "[B" (.ref (gAV G i)) (gAK G i) (fun q => gB G ≤ q) U (gH G) ∧ va_T .byte (gAV G i) r.2.2.length (fun j => .int (Int32.ofNat (r.2.2.toList.getD j ' ').toNat)) (fun q => gB G ≤ q) U (gH G)
theorem gX.warm {G : GT} {s U : State} (hW : s.WarmedH U.vm) (h : gX G s) : gX G U := ⟨fun r hr => va_Nw.warmM hW (h.1 r hr), ⟨va_AO.moved hW.alike h.2.1.1, va_AO.moved hW.alike h.2.1.2⟩, h.2.2.1.warm hW, fun i r hr => ⟨vk_R.warm hW (h.2.2.2 i r hr).1, va_O.moved hW.alike (h.2.2.2 i r hr).2.1, va_OF.moved hW.alike (h.2.2.2 i r hr).2.2.1, va_OF.moved hW.alike (h.2.2.2 i r hr).2.2.2.1, va_T.moved hW.alike (h.2.2.2 i r hr).2.2.2.2⟩⟩
theorem gX.calling {G : GT} {U : State} (g : JFrame) (mk : MethodId) (v : Array Value) (h : gX G U) : gX G (U.calling g mk v) := ⟨fun r hr => va_Nw.same rfl rfl (h.1 r hr), ⟨va_AO.moved (Vm.Alike.refl U.vm) h.2.1.1, va_AO.moved (Vm.Alike.refl U.vm) h.2.1.2⟩, h.2.2.1.calling g mk v, fun i r hr => ⟨vk_R.same rfl (h.2.2.2 i r hr).1, va_O.moved (Vm.Alike.refl U.vm) (h.2.2.2 i r hr).2.1, va_OF.moved (Vm.Alike.refl U.vm) (h.2.2.2 i r hr).2.2.1, va_OF.moved (Vm.Alike.refl U.vm) (h.2.2.2 i r hr).2.2.2.1, va_T.moved (Vm.Alike.refl U.vm) (h.2.2.2 i r hr).2.2.2.2⟩⟩
/-- the slots of the cells from b on -/
def gs (H : Heap) (b : Nat) : Nat := ((H.toList.drop b).map (·.slots.size)).sum
def gBase (G : GT) (H : Heap) : Prop := gB G ≤ H.size ∧ H.size ≤ gN G ∧ gs H (gB G) ≤ gU G ∧ ∀ q, q < gB G → H[q]? = (gH G)[q]?
def gR (G : GT) (d n u : Nat) : Room := { frames := d, cells := gN G - n, slots := gU G - u, locals := 36 * d }
def gCtx (G : GT) (y : MethodName) (cc : ByteArray) (nL : Nat) (rt : Option FieldType) (n u : Nat) (p : Program) (s : State) (m : MethodId) (args : Array Value) (meth : Method) (c : Code) : Prop :=
  (p.tables.exec = Jvm.exec ∧ c.code = cc ∧ c.maxLocals = nL ∧ s.vm.findClass y.cls = some m.cls ∧ ∀ w ∈ gTB, w.before args s = true) ∧ meth.sig.returnType = rt ∧ meth.locks = false ∧ meth.name = y.name ∧ (va_K (gD G) vwCl (gT G) s ∧ gX G s) ∧ s.heap.size = n ∧ gs s.heap (gB G) = u ∧ gBase G s.heap
/-- the end of a method: it returned, the picture is a, 'post' holds -/
def gQ {α : Type} (G : GT) (Abs : α → Heap → Prop) (post : Option Value → α → Prop) : Array Value → State → Outcome → State → Prop := fun _ _ o t => ∃ (v : Option Value) (a : α), o = .returned v ∧ post v a ∧ gBase G t.heap ∧ Abs a t.heap
/-- locals by their places; none: not known -/
def lvl : Nat → List (Option Value) → List (Nat × Value)
  | _, [] => []
  | k, none :: t => lvl (k + 1) t
  | k, some v :: t => (k, v) :: lvl (k + 1) t
def V {α : Type} (G : GT) (Abs : α → Heap → Prop) (y : MethodName) (cc : ByteArray) (nL : Nat) (rt : Option FieldType) (d : Nat) (a : α) (pc : Nat) (L : List (Option Value)) (st : List Value) (post : Option Value → α → Prop) : Prop :=
  ∀ (n u : Nat) (p : Program) (e : Env) (s : State) (m : MethodId) (args : Array Value) (below : List Frame) (meth : Method) (c : Code) (H : Heap) (locs : List Loc) (ls : Array Slot),
    gCtx G y cc nL rt n u p s m args meth c → gBase G H → n ≤ H.size → gs H (gB G) = u + gs H n → Abs a H → (∀ q ∈ locs, gB G ≤ q.base) → lv_has ls nL (lvl 0 L) →
    W p (gL G) e (gR G d n u) s m args below meth c H locs (H.size - n) (gs H n) (MQ below (gQ G Abs post) args s (gN G - n) (gU G - u) (fun q => gB G ≤ q)) (F0 m pc ls st)
def Cm {α : Type} (G : GT) (Abs : α → Heap → Prop) (y : MethodName) (cc : ByteArray) (nL : Nat) (rt : Option FieldType) (d : Nat) (av : List Value) (a : α) (post : Option Value → α → Prop) : Prop :=
  ∀ n u : Nat, Met (gL G) y (Cond.code y cc nL rt :: gTB) (gR G d n u) (va_Pc av (fun U => U.heap.size = n ∧ gs U.heap (gB G) = u ∧ gBase G U.heap ∧ (va_K (gD G) vwCl (gT G) U ∧ gX G U) ∧ Abs a U.heap)) (gQ G Abs post) (gN G - n) (gU G - u) (fun q => gB G ≤ q)
theorem gs_self (H : Heap) : gs H H.size = 0 := by
  unfold gs
  rw [List.drop_eq_nil_of_le (by simp)]
  rfl
theorem gs_push (H : Heap) (x : Cell) {b : Nat} (h : b ≤ H.size) : gs (H.push x) b = gs H b + x.slots.size := by
  unfold gs
  rw [Array.toList_push, List.drop_append_of_le_length (by simpa using h)]
  simp
/-- two heaps of one size, cells of the same sizes -/
theorem gs_same {H H' : Heap} {b : Nat} (hz : H'.size = H.size) (h : ∀ q, b ≤ q → (H'[q]?).map (·.slots.size) = (H[q]?).map (·.slots.size)) : gs H' b = gs H b := by
  unfold gs
  congr 1
  apply List.ext_getElem?
  intro i
  rw [List.getElem?_map, List.getElem?_map, List.getElem?_drop, List.getElem?_drop]
  simpa using h (b + i) (Nat.le_add_right _ _)
theorem gs_split (H : Heap) {b n : Nat} (h : b ≤ n) : gs H b = (((H.toList.drop b).take (n - b)).map (·.slots.size)).sum + gs H n := by
  unfold gs
  rw [show H.toList.drop n = (H.toList.drop b).drop (n - b) by rw [List.drop_drop]; congr 1; omega]
  rw [← List.sum_append, ← List.map_append, List.take_append_drop]
/-- what the frame's books say of slots: ours are those at the start and the new ones -/
theorem gs_stand {p : Program} {l : Launch} {e : Env} {R : Room} {s : State} {m : MethodId} {args : Array Value} {below : List Frame} {meth : Method} {c : Code} {T : State} {locs : List Loc} {cells slots : Nat} (X : Stand p l e R s m args below meth c T locs cells slots) {b : Nat} (hb : b ≤ s.heap.size) : gs T.heap b = gs s.heap b + gs T.heap s.heap.size := by
  have hsame := X.same
  have h2 : s.heap.size ≤ T.heap.size := hsame.2.1
  have h6 := hsame.2.2.2.2.2
  rw [gs_split T.heap hb, gs_split s.heap hb, gs_self, Nat.add_zero]
  congr 2
  apply List.ext_getElem?
  intro i
  rw [List.getElem?_map, List.getElem?_map, List.getElem?_take, List.getElem?_take]
  split
  · rename_i hi
    rw [List.getElem?_drop, List.getElem?_drop]
    have hlt : b + i < s.heap.size := by omega
    obtain ⟨c', q1, q2, q3, -⟩ := h6 (b + i) _ (Array.getElem?_eq_getElem hlt)
    have q1 : T.heap[b + i]? = some c' := q1
    rw [Array.getElem?_toList, Array.getElem?_toList, q1, Array.getElem?_eq_getElem hlt]
    simp [q3]
  · rfl
/-- as few cells and slots as there are -/
theorem stand_tight {p : Program} {l : Launch} {e : Env} {R : Room} {s : State} {m : MethodId} {args : Array Value} {below : List Frame} {meth : Method} {c : Code} {T : State} {locs : List Loc} {cells slots : Nat} (X : Stand p l e R s m args below meth c T locs cells slots) : Stand p l e R s m args below meth c T locs (T.heap.size - s.heap.size) (gs T.heap s.heap.size) := by
  have hs := X.same
  have h2 : s.heap.size ≤ T.heap.size := hs.2.1
  refine { X with same := ⟨hs.1, hs.2.1, ?_, hs.2.2.2.1, Nat.le_refl _, hs.2.2.2.2.2⟩ }
  show T.heap.size ≤ s.heap.size + (T.heap.size - s.heap.size)
  omega
theorem W.mono {p : Program} {l : Launch} {e : Env} {R : Room} {s : State} {m : MethodId} {args : Array Value} {below : List Frame} {meth : Method} {c : Code} {H : Heap} {locs : List Loc} {cells slots : Nat} {Q Q' : State → Prop} {g : JFrame} (h : W p l e R s m args below meth c H locs cells slots Q g) (hq : ∀ t, Q t → Q' t) : W p l e R s m args below meth c H locs cells slots Q' g := by
  intro T hT X
  obtain ⟨t, a, b⟩ := h T hT X
  exact ⟨t, a, hq t b⟩
