/-! ===== blind: sums over bytes, added without carries ===== -/
def sN : Nat → (Nat → Int) → Int
  | 0, _ => 0
  | n + 1, f => sN n f + f n
theorem sN_congr {f g : Nat → Int} : ∀ n, (∀ i, i < n → f i = g i) → sN n f = sN n g := by
  intro n
  induction n with
  | zero => intro _; rfl
  | succ n ih =>
    intro h
    show sN n f + f n = sN n g + g n
    rw [ih (fun i hi => h i (by omega)), h n (by omega)]
theorem sN_add (f : Nat → Int) (m : Nat) : ∀ n, sN (m + n) f = sN m f + sN n (fun v => f (m + v)) := by
  intro n
  induction n with
  | zero => show sN m f = sN m f + 0; omega
  | succ n ih =>
    show sN (m + n) f + f (m + n) = sN m f + (sN n (fun v => f (m + v)) + f (m + n))
    rw [ih]
    omega
theorem xor_hi {n a b : Nat} (ha : a < 2 ^ n) (hb : b < 2 ^ n) : (2 ^ n + a) ^^^ b = 2 ^ n + (a ^^^ b) := by
  have hx : a ^^^ b < 2 ^ n := Nat.xor_lt_two_pow ha hb
  refine Nat.eq_of_testBit_eq (fun j => ?_)
  rw [Nat.testBit_xor]
  rcases Nat.lt_trichotomy j n with h | h | h
  · rw [Nat.testBit_two_pow_add_gt h, Nat.testBit_two_pow_add_gt h, Nat.testBit_xor]
  · subst h
    rw [Nat.testBit_two_pow_add_eq, Nat.testBit_two_pow_add_eq, Nat.testBit_lt_two_pow ha, Nat.testBit_lt_two_pow hb, Nat.testBit_lt_two_pow hx]
    rfl
  · have h2 : 2 ^ (n + 1) ≤ 2 ^ j := Nat.pow_le_pow_right (by decide) h
    have h3 : 2 ^ (n + 1) = 2 ^ n + 2 ^ n := by rw [Nat.pow_succ]; omega
    rw [Nat.testBit_lt_two_pow (x := 2 ^ n + a) (by omega), Nat.testBit_lt_two_pow (x := b) (by omega), Nat.testBit_lt_two_pow (x := 2 ^ n + (a ^^^ b)) (by omega)]
    rfl
theorem sN_xor : ∀ (n c : Nat) (f : Nat → Int), c < 2 ^ n → sN (2 ^ n) (fun v => f (c ^^^ v)) = sN (2 ^ n) f := by
  intro n
  induction n with
  | zero =>
    intro c f hc
    have : c = 0 := by have : 2 ^ 0 = 1 := rfl; omega
    subst this
    rfl
  | succ n ih =>
    intro c f hc
    have h3 : 2 ^ (n + 1) = 2 ^ n + 2 ^ n := by rw [Nat.pow_succ]; omega
    rw [h3, sN_add, sN_add]
    by_cases e : c < 2 ^ n
    · rw [ih c f e]
      congr 1
      rw [sN_congr (g := fun v => (fun u => f (2 ^ n + u)) (c ^^^ v)) _ (fun i hi => ?_)]
      · exact ih c (fun u => f (2 ^ n + u)) e
      · show f (c ^^^ (2 ^ n + i)) = f (2 ^ n + (c ^^^ i))
        rw [Nat.xor_comm, xor_hi hi e, Nat.xor_comm]
    · obtain ⟨c', rfl⟩ : ∃ c', c = 2 ^ n + c' := ⟨c - 2 ^ n, by omega⟩
      have hc' : c' < 2 ^ n := by omega
      rw [sN_congr (f := fun v => f (2 ^ n + c' ^^^ v)) (g := fun v => (fun u => f (2 ^ n + u)) (c' ^^^ v)) _ (fun i hi => by show f (2 ^ n + c' ^^^ i) = f (2 ^ n + (c' ^^^ i)); rw [xor_hi hc' hi]), ih c' (fun u => f (2 ^ n + u)) hc']
      rw [sN_congr (f := fun v => f (2 ^ n + c' ^^^ (2 ^ n + v))) (g := fun v => f (c' ^^^ v)) _ (fun i hi => ?_), ih c' f hc']
      · omega
      · show f (2 ^ n + c' ^^^ (2 ^ n + i)) = f (c' ^^^ i)
        congr 1
        have hx : c' ^^^ i < 2 ^ n := Nat.xor_lt_two_pow hc' hi
        have e1 : 2 ^ n + i = 2 ^ n ^^^ i := by have := xor_hi (a := 0) (Nat.pow_pos (by decide)) hi; rw [Nat.add_zero, Nat.zero_xor] at this; exact this.symm
        have e2 : 2 ^ n + c' = 2 ^ n ^^^ c' := by have := xor_hi (a := 0) (Nat.pow_pos (by decide)) hc'; rw [Nat.add_zero, Nat.zero_xor] at this; exact this.symm
        rw [e1, e2, Nat.xor_assoc, ← Nat.xor_assoc c', Nat.xor_comm c', Nat.xor_assoc, ← Nat.xor_assoc, Nat.xor_self, Nat.zero_xor]
/-! a frame's bytes, understood: what went before does not matter, what lies before does not matter -/
theorem unl_out {L Z : Nat} {way : Int} {bs : List Int} : ∀ (f : Nat) (out : List Int) (p : Nat), unl L Z way bs f out p = ((unl L Z way bs f [] p).1, out ++ (unl L Z way bs f [] p).2) := by
  intro f
  induction f with
  | zero => intro out p; show (_, _) = (_, out ++ []); rw [List.append_nil]; rfl
  | succ f ih =>
    intro out p
    rw [unl, unl]
    split
    · rw [List.append_nil]
    split
    · rw [List.nil_append, List.append_assoc]
    split
    · rw [List.append_nil]
    split
    · rw [List.append_nil]
    rw [ih, ih ([] ++ _ ++ _), List.nil_append, List.append_assoc, List.append_assoc]
    exact Prod.ext rfl (congrArg (fun l => out ++ l) (List.append_assoc _ _ _).symm)
theorem getD_ext {l m : List Int} {p : Nat} (hl : m.length = l.length) (h : ∀ i, p ≤ i → m.getD i 0 = l.getD i 0) : ∀ q, p ≤ q → m.drop q = l.drop q := by
  intro q hq
  refine List.ext_getElem (by rw [List.length_drop, List.length_drop, hl]) (fun j h1 h2 => ?_)
  rw [List.length_drop] at h1 h2
  have := h (q + j) (by omega)
  rw [List.getD_eq_getElem?_getD, List.getD_eq_getElem?_getD, List.getElem?_eq_getElem (by omega), List.getElem?_eq_getElem (by omega)] at this
  rw [List.getElem_drop, List.getElem_drop]
  exact this
