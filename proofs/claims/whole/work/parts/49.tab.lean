/-! ===== a switch, its cases one by one ===== -/
def tabK (x : Int) (P : Nat → Prop) : Int → List Nat → Prop
  | _, [] => True
  | lo, r :: t => (x = lo → P r) ∧ tabK x P (lo + 1) t
theorem tabK_get {x : Int} {P : Nat → Prop} : ∀ {rs : List Nat} {lo : Int} {i r : Nat}, tabK x P lo rs → rs[i]? = some r → x = lo + (i : Int) → P r := by
  intro rs
  induction rs with
  | nil => intro lo i r _ h; simp at h
  | cons a t ih =>
    intro lo i r h hi hx
    cases i with
    | zero =>
      have e : a = r := by simpa using hi
      rw [← e]
      exact h.1 (by simpa using hx)
    | succ i => exact ih h.2 (by simpa using hi) (by rw [hx]; push_cast; omega)
section TAB
variable {α : Type} {G : GT} {Abs : α → Heap → Prop} {y : MethodName} {cc : ByteArray} {nL : Nat} {rt : Option FieldType} {d : Nat} {a : α} {pc : Nat} {L : List (Option Value)} {st : List Value} {post : Option Value → α → Prop}
theorem s_tabL {x : Int} {dflt lo hi : Int} {offs : Array Int} {len : Nat} (rs : List Nat) (rd : Nat) (hd : decode cc pc = .ok (.tableswitch dflt lo hi offs, len)) (hrs : rs.map (fun r : Nat => (r : Int) - (pc : Int)) = offs.toList) (hrd : (pc : Int) + dflt = rd) (hhi : hi = lo + ((rs.length - 1 : Nat) : Int)) (h0 : 0 < rs.length) (ki : tabK x (fun r => V G Abs y cc nL rt d a r L st post) lo rs) (ko : x < lo ∨ hi < x → V G Abs y cc nL rt d a rd L st post) (hx : -2147483648 ≤ x ∧ x ≤ 2147483647 := by omega) : V G Abs y cc nL rt d a pc L (vi x :: st) post := by
  have hsz : offs.size = rs.length := by
    have := congrArg List.length hrs
    simpa using this.symm
  have hget : ∀ i : Nat, offs[i]? = (rs[i]?).map (fun r : Nat => (r : Int) - (pc : Int)) := fun i => by
    rw [← Array.getElem?_toList, ← hrs, List.getElem?_map]
  refine s_table hd (fun i off hi2 ho r hr => ?_) (fun h r hr => ?_) ?_ ?_ ⟨?_, ?_⟩ hx
  · rw [hget] at ho
    cases e : rs[i]? with
    | none => rw [e] at ho; cases ho
    | some r' =>
      rw [e] at ho
      have ho : (r' : Int) - pc = off := Option.some.inj ho
      have : r = r' := by omega
      rw [this]
      exact tabK_get ki e hi2
  · have : r = rd := by omega
    rw [this]
    exact ko h
  · rw [hsz]; exact hhi
  · omega
  · rw [Array.all_eq_true]
    intro i hi2
    have h2 := hget i
    rw [Array.getElem?_eq_getElem hi2, List.getElem?_eq_getElem (by omega)] at h2
    have h3 := Option.some.inj h2
    rw [h3]
    simp only [decide_eq_true_eq]
    omega
  · omega
theorem s_ldcw {i : Nat} (z : Int) {v : Int32} (q : Nat) (hd : decode cc pc = .ok (.ldc_w i, 3)) (hq : pc + 3 = q) (hw : Cond.constant y.cls i v ∈ gTB) (hv : Int32.ofInt z = v) (k : V G Abs y cc nL rt d a q L (vi z :: st) post) : V G Abs y cc nL rt d a pc L (st) post := by
  subst hq
  intro n u p e s m args below meth c H locs ls C hB hn hg hA hl hL
  exact (lv_ldcw C.1.1 C.1.2.1 C.1.2.2.2.1 (v := Int32.ofInt z) (by rw [hv]; exact C.1.2.2.2.2 _ hw) hd) (k n u p e s m args below meth c H locs ls C hB hn hg hA hl hL)
end TAB
