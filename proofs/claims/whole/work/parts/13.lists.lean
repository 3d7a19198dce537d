/-! ===== lists and stretches of rows ===== -/
/-- a row holds the list l from place p on -/
def sg (f : Int → Int) (p : Int) (l : List Int) : Prop := ∀ k : Nat, k < l.length → f (p + (k : Int)) = l.getD k 0
theorem sg_nil (f : Int → Int) (p : Int) : sg f p [] := fun k h => absurd h (by simp)
theorem sg_congr {f g : Int → Int} {p : Int} {l : List Int} (h : sg f p l) (he : ∀ k, p ≤ k → k < p + l.length → g k = f k) : sg g p l := fun k hk => by
  rw [he _ (by omega) (by omega)]
  exact h k hk
theorem sg_out {f : Int → Int} {p k v : Int} {l : List Int} (h : sg f p l) (hk : k < p ∨ p + l.length ≤ k) : sg (up f k v) p l := sg_congr h fun j a b => up_n (by omega)
theorem getD_snoc_lt {l : List Int} {v : Int} {k : Nat} (h : k < l.length) : (l ++ [v]).getD k 0 = l.getD k 0 := by
  rw [List.getD_eq_getElem?_getD, List.getD_eq_getElem?_getD, List.getElem?_append_left h]
theorem getD_snoc_eq (l : List Int) (v : Int) : (l ++ [v]).getD l.length 0 = v := by
  rw [List.getD_eq_getElem?_getD, List.getElem?_append_right (Nat.le_refl _)]
  simp
theorem sg_snoc {f : Int → Int} {p v : Int} {l : List Int} (h : sg f p l) : sg (up f (p + l.length) v) p (l ++ [v]) := fun k hk => by
  rw [List.length_append, List.length_singleton] at hk
  by_cases e : k = l.length
  · subst e
    rw [up_s, getD_snoc_eq]
  · rw [up_n (by omega), getD_snoc_lt (by omega)]
    exact h k (by omega)
theorem sg_snoc' {f : Int → Int} {p v q : Int} {l : List Int} (h : sg f p l) (hq : q = p + l.length) : sg (up f q v) p (l ++ [v]) := by
  subst hq
  exact sg_snoc h
theorem getD_append_lt {l m : List Int} {k : Nat} (h : k < l.length) : (l ++ m).getD k 0 = l.getD k 0 := by
  rw [List.getD_eq_getElem?_getD, List.getD_eq_getElem?_getD, List.getElem?_append_left h]
theorem getD_append_ge {l m : List Int} {k : Nat} (h : l.length ≤ k) : (l ++ m).getD k 0 = m.getD (k - l.length) 0 := by
  rw [List.getD_eq_getElem?_getD, List.getD_eq_getElem?_getD, List.getElem?_append_right h]
theorem sg_append {f : Int → Int} {p : Int} {l m : List Int} : sg f p (l ++ m) ↔ sg f p l ∧ sg f (p + l.length) m := by
  constructor
  · intro h
    refine ⟨fun k hk => ?_, fun k hk => ?_⟩
    · rw [h k (by rw [List.length_append]; omega), getD_append_lt hk]
    · have := h (l.length + k) (by rw [List.length_append]; omega)
      rw [getD_append_ge (by omega), show l.length + k - l.length = k by omega] at this
      rw [← this]
      congr 1
      omega
  · rintro ⟨h1, h2⟩ k hk
    rw [List.length_append] at hk
    by_cases e : k < l.length
    · rw [getD_append_lt e]
      exact h1 k e
    · rw [getD_append_ge (by omega), ← h2 (k - l.length) (by omega)]
      congr 1
      omega
theorem sg_cons {f : Int → Int} {p v : Int} {l : List Int} : sg f p (v :: l) ↔ f p = v ∧ sg f (p + 1) l := by
  rw [show v :: l = [v] ++ l from rfl, sg_append]
  constructor
  · rintro ⟨h1, h2⟩
    exact ⟨by simpa using h1 0 (by simp), by simpa using h2⟩
  · rintro ⟨h1, h2⟩
    refine ⟨fun k hk => ?_, by simpa using h2⟩
    rw [List.length_singleton] at hk
    have : k = 0 := by omega
    subst this
    simpa using h1
theorem getD_set {l : List Int} {i k : Nat} {v : Int} (hi : i < l.length) : (l.set i v).getD k 0 = if k = i then v else l.getD k 0 := by
  rw [List.getD_eq_getElem?_getD, List.getD_eq_getElem?_getD, List.getElem?_set]
  by_cases e : i = k
  · subst e
    rw [if_pos rfl, if_pos hi, if_pos rfl]
    rfl
  · rw [if_neg e, if_neg (fun h => e h.symm)]
theorem sg_set {f : Int → Int} {p v q : Int} {l : List Int} {i : Nat} (h : sg f p l) (hi : i < l.length) (hq : q = p + (i : Int)) : sg (up f q v) p (l.set i v) := fun k hk => by
  subst hq
  rw [List.length_set] at hk
  rw [getD_set hi]
  by_cases e : k = i
  · subst e
    rw [up_s, if_pos rfl]
  · rw [up_n (by omega), if_neg e]
    exact h k hk
theorem drop_cons {l : List Int} {k : Nat} (h : k < l.length) : l.drop k = l.getD k 0 :: l.drop (k + 1) := by
  rw [List.drop_eq_getElem_cons h, List.getD_eq_getElem?_getD, List.getElem?_eq_getElem h]
  rfl
theorem sg_take {f : Int → Int} {p : Int} {l : List Int} {n : Nat} (h : sg f p l) : sg f p (l.take n) := by
  have := h
  rw [← List.take_append_drop n l, sg_append] at this
  exact this.1
theorem sg_drop {f : Int → Int} {p : Int} {l : List Int} {n : Nat} (h : sg f p l) (hn : n ≤ l.length) : sg f (p + n) (l.drop n) := by
  have := h
  rw [← List.take_append_drop n l, sg_append] at this
  rw [List.length_take_of_le hn] at this
  exact this.2
theorem sg_eq {f : Int → Int} {p : Int} {l m : List Int} (h : sg f p l) (h2 : sg f p m) (he : l.length = m.length) : l = m := by
  apply List.ext_getElem?
  intro i
  by_cases hi : i < l.length
  · have h3 := (h i hi).symm.trans (h2 i (he ▸ hi))
    rw [List.getD_eq_getElem?_getD, List.getD_eq_getElem?_getD, List.getElem?_eq_getElem hi, List.getElem?_eq_getElem (he ▸ hi)] at h3
    rw [List.getElem?_eq_getElem hi, List.getElem?_eq_getElem (he ▸ hi)]
    exact congrArg some (by simpa using h3)
  · rw [List.getElem?_eq_none (by omega), List.getElem?_eq_none (by omega)]
/-- all are bytes -/
def byt (l : List Int) : Prop := ∀ x ∈ l, 0 ≤ x ∧ x ≤ 255
theorem byt_nil : byt [] := fun x h => absurd h List.not_mem_nil
theorem byt_cons {v : Int} {l : List Int} : byt (v :: l) ↔ (0 ≤ v ∧ v ≤ 255) ∧ byt l := List.forall_mem_cons
theorem byt_append {l m : List Int} : byt (l ++ m) ↔ byt l ∧ byt m := List.forall_mem_append
theorem byt_at {l : List Int} (h : byt l) (k : Nat) : 0 ≤ l.getD k 0 ∧ l.getD k 0 ≤ 255 := by
  rw [List.getD_eq_getElem?_getD]
  by_cases e : k < l.length
  · rw [List.getElem?_eq_getElem e]
    exact h _ (List.getElem_mem e)
  · rw [List.getElem?_eq_none (by omega)]
    exact ⟨by decide, by decide⟩
theorem byt_take {l : List Int} (h : byt l) (n : Nat) : byt (l.take n) := fun x hx => h x (List.mem_of_mem_take hx)
theorem byt_drop {l : List Int} (h : byt l) (n : Nat) : byt (l.drop n) := fun x hx => h x (List.mem_of_mem_drop hx)
/-- what stays of numbers and rows -/
def frI (ks : List Nat) (I I' : Nat → Int) : Prop := ∀ k, k ∉ ks → I' k = I k
def frA (js : List Nat) (A A' : Nat → Int → Int) : Prop := ∀ j, j ∉ js → A' j = A j
theorem frI.rf {ks : List Nat} {I : Nat → Int} : frI ks I I := fun _ _ => rfl
theorem frA.rf {ks : List Nat} {A : Nat → Int → Int} : frA ks A A := fun _ _ => rfl
theorem frI.up {ks : List Nat} {I I' : Nat → Int} {k : Nat} {v : Int} (h : frI ks I I') (hk : k ∈ ks) : frI ks I (up I' k v) := fun j hj => by
  have hne : j ≠ k := fun e => hj (by rw [e]; exact hk)
  rw [up_n hne]
  exact h j hj
theorem frA.up {ks : List Nat} {I I' : Nat → Int → Int} {k : Nat} {v : Int → Int} (h : frA ks I I') (hk : k ∈ ks) : frA ks I (up I' k v) := fun j hj => by
  have hne : j ≠ k := fun e => hj (by rw [e]; exact hk)
  rw [up_n hne]
  exact h j hj
theorem frI.trans {ks ls : List Nat} {I I' I'' : Nat → Int} (h : frI ks I I') (h2 : frI ls I' I'') (hs : ∀ k ∈ ls, k ∈ ks) : frI ks I I'' := fun k hk => (h2 k (fun e => hk (hs k e))).trans (h k hk)
theorem frA.trans {ks ls : List Nat} {I I' I'' : Nat → Int → Int} (h : frA ks I I') (h2 : frA ls I' I'') (hs : ∀ k ∈ ls, k ∈ ks) : frA ks I I'' := fun k hk => (h2 k (fun e => hk (hs k e))).trans (h k hk)
theorem frI.wk {ks ls : List Nat} {I I' : Nat → Int} (h : frI ks I I') (hs : ∀ k ∈ ks, k ∈ ls) : frI ls I I' := fun k hk => h k (fun e => hk (hs k e))
theorem frA.wk {ks ls : List Nat} {I I' : Nat → Int → Int} (h : frA ks I I') (hs : ∀ k ∈ ks, k ∈ ls) : frA ls I I' := fun k hk => h k (fun e => hk (hs k e))
