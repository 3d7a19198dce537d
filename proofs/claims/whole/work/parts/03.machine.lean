/-! ===== the machine seen from afar: V (a frame of a method, a picture of the heap), Cm (a method's contract); nothing here speaks of one method ===== -/
/-- launch, numbers, the first cell that is ours, the heap at the start, room, kinds of rows -/
abbrev GT : Type := Launch × va_G × Nat × Heap × Nat × Nat × List (ClassId × FieldType)
abbrev gL (G : GT) : Launch := G.1
abbrev gD (G : GT) : va_G := G.2.1
abbrev gB (G : GT) : Nat := G.2.2.1
abbrev gH (G : GT) : Heap := G.2.2.2.1
abbrev gN (G : GT) : Nat := G.2.2.2.2.1
abbrev gU (G : GT) : Nat := G.2.2.2.2.2.1
abbrev gT (G : GT) : List (ClassId × FieldType) := G.2.2.2.2.2.2
/-- the slots of the cells from b on -/
def gs (H : Heap) (b : Nat) : Nat := ((H.toList.drop b).map (·.slots.size)).sum
def gBase (G : GT) (H : Heap) : Prop := gB G ≤ H.size ∧ H.size ≤ gN G ∧ gs H (gB G) ≤ gU G ∧ ∀ q, q < gB G → H[q]? = (gH G)[q]?
def gR (G : GT) (d n u : Nat) : Room := { frames := d, cells := gN G - n, slots := gU G - u, locals := 36 * d }
/-- the tables' words that hold in every later state too -/
def gTB : List Cond := lw_tbl.filter goodWord
theorem gTB_in {w : Cond} (h : w ∈ lw_tbl) (hg : goodWord w = true) : w ∈ gTB := List.mem_filter.mpr ⟨h, hg⟩
theorem gTB_ok {w : Cond} (h : w ∈ gTB) : goodWord w = true := (List.mem_filter.mp h).2
theorem gTB_sub {w : Cond} (h : w ∈ gTB) : w ∈ lw_tbl := (List.mem_filter.mp h).1
def gCtx (G : GT) (y : MethodName) (cc : ByteArray) (nL : Nat) (rt : Option FieldType) (n u : Nat) (p : Program) (s : State) (m : MethodId) (args : Array Value) (meth : Method) (c : Code) : Prop :=
  (p.tables.exec = Jvm.exec ∧ c.code = cc ∧ c.maxLocals = nL ∧ s.vm.findClass y.cls = some m.cls ∧ ∀ w ∈ gTB, w.before args s = true) ∧ meth.sig.returnType = rt ∧ meth.locks = false ∧ meth.name = y.name ∧ va_K (gD G) vwCl (gT G) s ∧ s.heap.size = n ∧ gs s.heap (gB G) = u ∧ gBase G s.heap
/-- the end of a method: it returned, the picture is a, 'post' holds -/
def gQ {α : Type} (G : GT) (Abs : α → Heap → Prop) (post : Option Value → α → Prop) : Array Value → State → Outcome → State → Prop := fun _ _ o t => ∃ (v : Option Value) (a : α), o = .returned v ∧ post v a ∧ gBase G t.heap ∧ Abs a t.heap
/-- locals by their places; none: not known -/
def lvl : Nat → List (Option Value) → List (Nat × Value)
  | _, [] => []
  | k, none :: t => lvl (k + 1) t
  | k, some v :: t => (k, v) :: lvl (k + 1) t
def V {α : Type} (G : GT) (Abs : α → Heap → Prop) (y : MethodName) (cc : ByteArray) (nL : Nat) (rt : Option FieldType) (d : Nat) (a : α) (pc : Nat) (L : List (Option Value)) (st : List Value) (post : Option Value → α → Prop) : Prop :=
  ∀ (n u : Nat) (p : Program) (e : Env) (s : State) (m : MethodId) (args : Array Value) (below : List Frame) (meth : Method) (c : Code) (H : Heap) (locs : List Loc) (ls : Array Slot),
    gCtx G y cc nL rt n u p s m args meth c → gBase G H → n ≤ H.size → gs H (gB G) = u + gs H n → Abs a H → (∀ q ∈ locs, gB G ≤ q.base) → lv_has ls nL (lvl 0 L) →
    W p (gL G) e (gR G d n u) s m args below meth c H locs (H.size - n) (gs H n) (MQ below (gQ G Abs post) args s (gN G - n) (gU G - u) (fun q => gB G ≤ q)) (F0 m pc ls st)
def Cm {α : Type} (G : GT) (Abs : α → Heap → Prop) (y : MethodName) (cc : ByteArray) (nL : Nat) (rt : Option FieldType) (d : Nat) (av : List Value) (a : α) (post : Option Value → α → Prop) : Prop :=
  ∀ n u : Nat, Met (gL G) y (Cond.code y cc nL rt :: gTB) (gR G d n u) (va_Pc av (fun U => U.heap.size = n ∧ gs U.heap (gB G) = u ∧ gBase G U.heap ∧ va_K (gD G) vwCl (gT G) U ∧ Abs a U.heap)) (gQ G Abs post) (gN G - n) (gU G - u) (fun q => gB G ≤ q)
theorem gs_self (H : Heap) : gs H H.size = 0 := by
  unfold gs
  rw [List.drop_eq_nil_of_le (by simp)]
  rfl
theorem gs_push (H : Heap) (x : Cell) {b : Nat} (h : b ≤ H.size) : gs (H.push x) b = gs H b + x.slots.size := by
  unfold gs
  rw [Array.toList_push, List.drop_append_of_le_length (by simpa using h)]
  simp
/-- two heaps of one size, cells of the same sizes -/
theorem gs_same {H H' : Heap} {b : Nat} (hz : H'.size = H.size) (h : ∀ q, b ≤ q → (H'[q]?).map (·.slots.size) = (H[q]?).map (·.slots.size)) : gs H' b = gs H b := by
  unfold gs
  congr 1
  apply List.ext_getElem?
  intro i
  rw [List.getElem?_map, List.getElem?_map, List.getElem?_drop, List.getElem?_drop]
  simpa using h (b + i) (Nat.le_add_right _ _)
theorem gs_split (H : Heap) {b n : Nat} (h : b ≤ n) : gs H b = (((H.toList.drop b).take (n - b)).map (·.slots.size)).sum + gs H n := by
  unfold gs
  rw [show H.toList.drop n = (H.toList.drop b).drop (n - b) by rw [List.drop_drop]; congr 1; omega]
  rw [← List.sum_append, ← List.map_append, List.take_append_drop]
/-- what the frame's books say of slots: ours are those at the start and the new ones -/
theorem gs_stand {p : Program} {l : Launch} {e : Env} {R : Room} {s : State} {m : MethodId} {args : Array Value} {below : List Frame} {meth : Method} {c : Code} {T : State} {locs : List Loc} {cells slots : Nat} (X : Stand p l e R s m args below meth c T locs cells slots) {b : Nat} (hb : b ≤ s.heap.size) : gs T.heap b = gs s.heap b + gs T.heap s.heap.size := by
  have hsame := X.same
  have h2 : s.heap.size ≤ T.heap.size := hsame.2.1
  have h6 := hsame.2.2.2.2.2
  rw [gs_split T.heap hb, gs_split s.heap hb, gs_self, Nat.add_zero]
  congr 2
  apply List.ext_getElem?
  intro i
  rw [List.getElem?_map, List.getElem?_map, List.getElem?_take, List.getElem?_take]
  split
  · rename_i hi
    rw [List.getElem?_drop, List.getElem?_drop]
    have hlt : b + i < s.heap.size := by omega
    obtain ⟨c', q1, q2, q3, -⟩ := h6 (b + i) _ (Array.getElem?_eq_getElem hlt)
    have q1 : T.heap[b + i]? = some c' := q1
    rw [Array.getElem?_toList, Array.getElem?_toList, q1, Array.getElem?_eq_getElem hlt]
    simp [q3]
  · rfl
/-- as few cells and slots as there are -/
theorem stand_tight {p : Program} {l : Launch} {e : Env} {R : Room} {s : State} {m : MethodId} {args : Array Value} {below : List Frame} {meth : Method} {c : Code} {T : State} {locs : List Loc} {cells slots : Nat} (X : Stand p l e R s m args below meth c T locs cells slots) : Stand p l e R s m args below meth c T locs (T.heap.size - s.heap.size) (gs T.heap s.heap.size) := by
  have hs := X.same
  have h2 : s.heap.size ≤ T.heap.size := hs.2.1
  refine { X with same := ⟨hs.1, hs.2.1, ?_, hs.2.2.2.1, Nat.le_refl _, hs.2.2.2.2.2⟩ }
  show T.heap.size ≤ s.heap.size + (T.heap.size - s.heap.size)
  omega
theorem W.mono {p : Program} {l : Launch} {e : Env} {R : Room} {s : State} {m : MethodId} {args : Array Value} {below : List Frame} {meth : Method} {c : Code} {H : Heap} {locs : List Loc} {cells slots : Nat} {Q Q' : State → Prop} {g : JFrame} (h : W p l e R s m args below meth c H locs cells slots Q g) (hq : ∀ t, Q t → Q' t) : W p l e R s m args below meth c H locs cells slots Q' g := by
  intro T hT X
  obtain ⟨t, a, b⟩ := h T hT X
  exact ⟨t, a, hq t b⟩
