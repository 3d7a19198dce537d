/-! ===== bytes stuffed: what both sides compute ===== -/
/-- the run of bytes that aren't 0, L at most -/
def rln : Nat → List Int → Nat
  | 0, _ => 0
  | _ + 1, [] => 0
  | L + 1, x :: t => if x = 0 then 0 else rln L t + 1
theorem rln_0 (l : List Int) : rln 0 l = 0 := by unfold rln; rfl
theorem rln_nil (L : Nat) : rln L [] = 0 := by cases L <;> rfl
theorem rln_zero (L : Nat) (t : List Int) : rln L (0 :: t) = 0 := by cases L <;> simp [rln]
theorem rln_succ {L : Nat} {x : Int} {t : List Int} (h : x ≠ 0) : rln (L + 1) (x :: t) = rln L t + 1 := by simp [rln, h]
theorem rln_le (L : Nat) (l : List Int) : rln L l ≤ L := by
  induction L generalizing l with
  | zero => rw [rln_0]; exact Nat.le_refl 0
  | succ L ih =>
    cases l with
    | nil => rw [rln_nil]; omega
    | cons x t =>
      by_cases e : x = 0
      · subst e; rw [rln_zero]; omega
      · rw [rln_succ e]; have := ih t; omega
theorem rln_len (L : Nat) (l : List Int) : rln L l ≤ l.length := by
  induction L generalizing l with
  | zero => rw [rln_0]; omega
  | succ L ih =>
    cases l with
    | nil => rw [rln_nil]; exact Nat.le_refl 0
    | cons x t =>
      by_cases e : x = 0
      · subst e; rw [rln_zero]; omega
      · rw [rln_succ e, List.length_cons]; have := ih t; omega
/-- one block more behind 'out' and on, from place p on: the blocks, and where the last CODE stands -/
def stl (L Z : Nat) (pw : Bool) (bs : List Int) : Nat → List Int → Nat → Nat → List Int × Nat
  | 0, out, lc, _ => (out, lc)
  | f + 1, out, _, p =>
    if rln L (bs.drop p) = L then
      if p + L < bs.length then stl L Z pw bs f (out ++ ((L : Int) + 1) :: (bs.drop p).take L) out.length (p + L) else (out ++ ((L : Int) + 1) :: (bs.drop p).take L, out.length)
    else if pw = true ∧ rln L (bs.drop p) < Z ∧ p + rln L (bs.drop p) + 1 < bs.length ∧ bs.getD (p + rln L (bs.drop p)) 0 = 0 ∧ bs.getD (p + rln L (bs.drop p) + 1) 0 = 0 then
      if p + rln L (bs.drop p) + 2 < bs.length then stl L Z pw bs f (out ++ ((L : Int) + 2 + (rln L (bs.drop p) : Nat)) :: (bs.drop p).take (rln L (bs.drop p))) out.length (p + rln L (bs.drop p) + 2) else (out ++ ((L : Int) + 2 + (rln L (bs.drop p) : Nat)) :: (bs.drop p).take (rln L (bs.drop p)), out.length)
    else if p + rln L (bs.drop p) < bs.length then stl L Z pw bs f (out ++ ((rln L (bs.drop p) : Nat) + 1 : Int) :: (bs.drop p).take (rln L (bs.drop p))) out.length (p + rln L (bs.drop p) + 1) else (out ++ ((rln L (bs.drop p) : Nat) + 1 : Int) :: (bs.drop p).take (rln L (bs.drop p)), out.length)
/-- the last byte in its CODE's place, where it is no less -/
def rdc (o : List Int × Nat) : List Int := if o.2 + 1 < o.1.length ∧ o.1.getD o.2 0 ≤ o.1.getD (o.1.length - 1) 0 then (o.1.set o.2 (o.1.getD (o.1.length - 1) 0)).dropLast else o.1
def stuffF (L Z : Nat) (way : Int) (bs : List Int) : List Int := if way = 2 then rdc (stl L Z (decide (way = 1)) bs (bs.length + 1) [] 0 0) else (stl L Z (decide (way = 1)) bs (bs.length + 1) [] 0 0).1
theorem stl_L {L Z : Nat} {pw : Bool} {bs : List Int} {f : Nat} {out : List Int} {lc p : Nat} (h : rln L (bs.drop p) = L) : stl L Z pw bs (f + 1) out lc p = if p + L < bs.length then stl L Z pw bs f (out ++ ((L : Int) + 1) :: (bs.drop p).take L) out.length (p + L) else (out ++ ((L : Int) + 1) :: (bs.drop p).take L, out.length) := by
  rw [stl, if_pos h]
theorem stl_P {L Z : Nat} {pw : Bool} {bs : List Int} {f : Nat} {out : List Int} {lc p r : Nat} (hr : rln L (bs.drop p) = r) (h : ¬ r = L) (h2 : pw = true ∧ r < Z ∧ p + r + 1 < bs.length ∧ bs.getD (p + r) 0 = 0 ∧ bs.getD (p + r + 1) 0 = 0) : stl L Z pw bs (f + 1) out lc p = if p + r + 2 < bs.length then stl L Z pw bs f (out ++ ((L : Int) + 2 + (r : Int)) :: (bs.drop p).take r) out.length (p + r + 2) else (out ++ ((L : Int) + 2 + (r : Int)) :: (bs.drop p).take r, out.length) := by
  subst hr
  rw [stl, if_neg h, if_pos h2]
theorem stl_0 {L Z : Nat} {pw : Bool} {bs : List Int} {f : Nat} {out : List Int} {lc p r : Nat} (hr : rln L (bs.drop p) = r) (h : ¬ r = L) (h2 : ¬ (pw = true ∧ r < Z ∧ p + r + 1 < bs.length ∧ bs.getD (p + r) 0 = 0 ∧ bs.getD (p + r + 1) 0 = 0)) : stl L Z pw bs (f + 1) out lc p = if p + r < bs.length then stl L Z pw bs f (out ++ ((r : Int) + 1) :: (bs.drop p).take r) out.length (p + r + 1) else (out ++ ((r : Int) + 1) :: (bs.drop p).take r, out.length) := by
  subst hr
  rw [stl, if_neg h, if_neg h2]
