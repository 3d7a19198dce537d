/-! ===== bytes unstuffed: what both sides compute ===== -/
/-- the place of the first 0 of n bytes from place p on; -1: none -/
def fz (bs : List Int) : Nat → Nat → Int
  | _, 0 => -1
  | p, n + 1 => if bs.getD p 0 = 0 then (p : Int) else fz bs (p + 1) n
theorem fz_0 (bs : List Int) (p : Nat) : fz bs p 0 = -1 := rfl
theorem fz_z {bs : List Int} {p n : Nat} (h : bs.getD p 0 = 0) : fz bs p (n + 1) = (p : Int) := by rw [fz, if_pos h]
theorem fz_s {bs : List Int} {p n : Nat} (h : ¬ bs.getD p 0 = 0) : fz bs p (n + 1) = fz bs (p + 1) n := by rw [fz, if_neg h]
theorem fz_rg {bs : List Int} : ∀ {n p : Nat}, fz bs p n = -1 ∨ ((p : Int) ≤ fz bs p n ∧ fz bs p n < p + n)
  | 0, p => Or.inl rfl
  | n + 1, p => by
    by_cases h : bs.getD p 0 = 0
    · rw [fz_z h]; right; omega
    · rw [fz_s h]
      rcases fz_rg (bs := bs) (n := n) (p := p + 1) with h | h
      · exact Or.inl h
      · right; omega
/-- is it a CODE; how many bytes belong to it -/
abbrev isC (L Z : Nat) (way c : Int) : Prop := (0 < c ∧ c ≤ L + 1) ∨ (way = 1 ∧ 0 < c ∧ c ≤ L + 1 + Z)
def ndC (L : Nat) (c : Int) : Int := if c ≤ L + 1 then c - 1 else c - L - 2
/-- zeros behind a CODE's bytes -/
def zrC (L : Nat) (c : Int) (more : Prop) [Decidable more] : List Int := if c ≤ L ∧ more then [0] else if (L : Int) + 1 < c then [0, 0] else []
/-- CODE by CODE from place p on, 'out' so far: where it is WRONG (-1: nowhere), the bytes -/
def unl (L Z : Nat) (way : Int) (bs : List Int) : Nat → List Int → Nat → Int × List Int
  | 0, out, _ => (-1, out)
  | f + 1, out, p =>
    if bs.length ≤ p then (-1, out)
    else if way = 2 ∧ 0 < bs.getD p 0 ∧ ((bs.length - p - 1 : Nat) : Int) < bs.getD p 0 - 1 then (fz bs (p + 1) (bs.length - p - 1), out ++ bs.drop (p + 1) ++ [bs.getD p 0])
    else if ¬ isC L Z way (bs.getD p 0) ∨ ((bs.length - p - 1 : Nat) : Int) < ndC L (bs.getD p 0) then ((p : Int), out)
    else if fz bs (p + 1) (ndC L (bs.getD p 0)).toNat ≠ -1 then (fz bs (p + 1) (ndC L (bs.getD p 0)).toNat, out)
    else unl L Z way bs f (out ++ (bs.drop (p + 1)).take (ndC L (bs.getD p 0)).toNat ++ zrC L (bs.getD p 0) (p + 1 + (ndC L (bs.getD p 0)).toNat < bs.length)) (p + 1 + (ndC L (bs.getD p 0)).toNat)
def unF (L Z : Nat) (way : Int) (bs : List Int) : Int × List Int := if bs.length = 0 then (0, []) else unl L Z way bs (bs.length + 1) [] 0
section UNL
variable {L Z : Nat} {way : Int} {bs : List Int} {f : Nat} {out : List Int} {p : Nat}
theorem unl_end (h : bs.length ≤ p) : unl L Z way bs (f + 1) out p = (-1, out) := by rw [unl, if_pos h]
theorem unl_tail (h : p < bs.length) (h2 : way = 2 ∧ 0 < bs.getD p 0 ∧ ((bs.length - p - 1 : Nat) : Int) < bs.getD p 0 - 1) : unl L Z way bs (f + 1) out p = (fz bs (p + 1) (bs.length - p - 1), out ++ bs.drop (p + 1) ++ [bs.getD p 0]) := by rw [unl, if_neg (by omega), if_pos h2]
theorem unl_bad (h : p < bs.length) (h2 : ¬ (way = 2 ∧ 0 < bs.getD p 0 ∧ ((bs.length - p - 1 : Nat) : Int) < bs.getD p 0 - 1)) (h3 : ¬ isC L Z way (bs.getD p 0) ∨ ((bs.length - p - 1 : Nat) : Int) < ndC L (bs.getD p 0)) : unl L Z way bs (f + 1) out p = ((p : Int), out) := by rw [unl, if_neg (by omega), if_neg h2, if_pos h3]
theorem unl_zero {k : Nat} (h : p < bs.length) (h2 : ¬ (way = 2 ∧ 0 < bs.getD p 0 ∧ ((bs.length - p - 1 : Nat) : Int) < bs.getD p 0 - 1)) (h3 : isC L Z way (bs.getD p 0)) (h4 : ndC L (bs.getD p 0) = k) (h5 : p + 1 + k ≤ bs.length) (h6 : fz bs (p + 1) k ≠ -1) : unl L Z way bs (f + 1) out p = (fz bs (p + 1) k, out) := by
  have e : (ndC L (bs.getD p 0)).toNat = k := by omega
  rw [unl, if_neg (by omega), if_neg h2, if_neg (fun q => q.elim (fun g => g h3) (fun g => by omega)), e, if_pos h6]
theorem unl_step {k : Nat} (h : p < bs.length) (h2 : ¬ (way = 2 ∧ 0 < bs.getD p 0 ∧ ((bs.length - p - 1 : Nat) : Int) < bs.getD p 0 - 1)) (h3 : isC L Z way (bs.getD p 0)) (h4 : ndC L (bs.getD p 0) = k) (h5 : p + 1 + k ≤ bs.length) (h6 : fz bs (p + 1) k = -1) : unl L Z way bs (f + 1) out p = unl L Z way bs f (out ++ (bs.drop (p + 1)).take k ++ zrC L (bs.getD p 0) (p + 1 + k < bs.length)) (p + 1 + k) := by
  have e : (ndC L (bs.getD p 0)).toNat = k := by omega
  rw [unl, if_neg (by omega), if_neg h2, if_neg (fun q => q.elim (fun g => g h3) (fun g => by omega)), e, if_neg (fun g => g h6)]
theorem zrC_1 {c : Int} {more : Prop} [Decidable more] (h : c ≤ L ∧ more) : zrC L c more = [0] := if_pos h
theorem zrC_2 {c : Int} {more : Prop} [Decidable more] (h : (L : Int) + 1 < c) : zrC L c more = [0, 0] := by
  unfold zrC
  rw [if_neg (fun g => by omega), if_pos h]
theorem zrC_0 {c : Int} {more : Prop} [Decidable more] (h : ¬ (c ≤ L ∧ more)) (h2 : ¬ (L : Int) + 1 < c) : zrC L c more = [] := by
  unfold zrC
  rw [if_neg h, if_neg h2]
end UNL
