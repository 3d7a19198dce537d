/-- the tables' words that hold in every later state too -/
def gTB : List Cond := lw_tbl.filter goodWord
theorem gTB_in {w : Cond} (h : w ∈ lw_tbl) (hg : goodWord w = true) : w ∈ gTB := List.mem_filter.mpr ⟨h, hg⟩
theorem gTB_ok {w : Cond} (h : w ∈ gTB) : goodWord w = true := (List.mem_filter.mp h).2
theorem gTB_list {ws : List Cond} {ps : List Nat} (h : ws = ps.filterMap (fun i => tables_1[i]?)) (hg : ws.all goodWord = true) : ∀ w ∈ ws, w ∈ gTB := by
  intro w hw
  refine gTB_in (List.mem_append_right _ ?_) (List.all_eq_true.mp hg w hw)
  rw [h] at hw
  obtain ⟨i, -, hi⟩ := List.mem_filterMap.mp hw
  exact List.mem_of_getElem? hi
/-- a method that can be called: by an object, as a function, as a maker -/
def gMV (y : MethodName) (cc : ByteArray) (nL : Nat) (rt : Option FieldType) : Prop := Cond.code y cc nL rt ∈ gTB ∧ Cond.instanceMethod y ∈ gTB ∧ Cond.selects y.cls y y ∈ gTB ∧ Cond.initialized y.cls ∈ gTB ∧ (y.cls ≠ "java/lang/invoke/MethodHandle" ∧ y.cls ≠ "java/lang/invoke/VarHandle") ∧ nL ≤ 17
def gMS (y : MethodName) (cc : ByteArray) (nL : Nat) (rt : Option FieldType) : Prop := Cond.code y cc nL rt ∈ gTB ∧ Cond.static y ∈ gTB ∧ Cond.initialized y.cls ∈ gTB ∧ (y.cls ≠ "java/lang/invoke/MethodHandle" ∧ y.cls ≠ "java/lang/invoke/VarHandle") ∧ nL ≤ 17
def gMI (y : MethodName) (cc : ByteArray) (nL : Nat) (rt : Option FieldType) : Prop := Cond.code y cc nL rt ∈ gTB ∧ Cond.instanceMethod y ∈ gTB ∧ Cond.initialized y.cls ∈ gTB ∧ y.name = "<init>" ∧ (y.cls ≠ "java/lang/invoke/MethodHandle" ∧ y.cls ≠ "java/lang/invoke/VarHandle") ∧ nL ≤ 17
theorem gTB_sub {w : Cond} (h : w ∈ gTB) : w ∈ lw_tbl := (List.mem_filter.mp h).1
