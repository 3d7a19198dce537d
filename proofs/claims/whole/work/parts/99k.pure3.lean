theorem sN_front (f : Nat → Int) : ∀ n, sN (n + 1) f = f 0 + sN n (fun v => f (v + 1)) := by
  intro n
  induction n with
  | zero => show 0 + f 0 = f 0 + 0; omega
  | succ n ih =>
    show sN (n + 1) f + f (n + 1) = f 0 + (sN n (fun v => f (v + 1)) + f (n + 1))
    rw [ih]
    omega
theorem sN_drop (f : Nat → Int) (a : Nat) : ∀ n, sN n (fun t => if t = a then 0 else f t) = sN n f - (if a < n then f a else 0) := by
  intro n
  induction n with
  | zero => rfl
  | succ n ih =>
    show sN n (fun t => if t = a then 0 else f t) + (if n = a then 0 else f n) = sN n f + f n - _
    rw [ih]
    by_cases e : n = a
    · subst e
      rw [if_pos rfl, if_neg (by omega), if_pos (by omega)]
      omega
    · rw [if_neg e]
      by_cases e2 : a < n
      · rw [if_pos e2, if_pos (by omega)]; omega
      · rw [if_neg e2, if_neg (by omega)]; omega
theorem sN_0 : ∀ n, sN n (fun _ => 0) = 0 := by
  intro n
  induction n with
  | zero => rfl
  | succ n ih => show sN n (fun _ => 0) + 0 = 0; rw [ih]; rfl
/-- the bytes that a flip makes of a byte are all the others -/
theorem sN_flip (F : Nat → Int) (h0 : F 0 = 0) {c : Nat} (hc : c ≤ 255) : sN 255 (fun t => F (c ^^^ (t + 1))) = sN 255 (fun t => if t + 1 = c then 0 else F (t + 1)) := by
  have h1 := sN_xor 8 c F (by have : 2 ^ 8 = 256 := rfl; omega)
  rw [show 2 ^ 8 = 255 + 1 from rfl, sN_front, sN_front (f := F), h0] at h1
  rw [show c ^^^ 0 = c from Nat.xor_zero c] at h1
  have h2 : sN 255 (fun t => if t + 1 = c then 0 else F (t + 1)) = sN 255 (fun t => F (t + 1)) - F c := by
    cases c with
    | zero =>
      rw [h0, Int.sub_zero]
      exact sN_congr _ (fun i _ => if_neg (by omega))
    | succ c =>
      rw [sN_congr (g := fun t => if t = c then 0 else (fun u => F (u + 1)) t) _ (fun i _ => ?_), sN_drop, if_pos (by omega)]
      by_cases e : i = c
      · rw [if_pos (by omega), if_pos e]
      · rw [if_neg (by omega), if_neg e]
  rw [h2]
  omega
theorem bl1_s (ru : RU) (w : List Int) (q : Nat × Nat) (i : Nat) : ∀ m v, bl1 ru w q i m v = sN m (fun t => if xr (w.getD i 0) ((v + t : Nat) : Int) ≠ 0 ∧ frK ru (flpL w i ((v + t : Nat) : Int)) q = 0 then 1 else 0) := by
  intro m
  induction m with
  | zero => intro v; rfl
  | succ m ih =>
    intro v
    rw [bl1, sN_front, ih]
    congr 1
    exact sN_congr _ (fun t _ => by rw [show v + 1 + t = v + (t + 1) by omega])
theorem bl2_s (ru : RU) (w : List Int) (q : Nat × Nat) : ∀ m i, bl2 ru w q m i = sN m (fun t => bl1 ru w q (i + t) 255 1) := by
  intro m
  induction m with
  | zero => intro i; rfl
  | succ m ih =>
    intro i
    rw [bl2, sN_front, ih]
    congr 1
    exact sN_congr _ (fun t _ => by rw [show i + 1 + t = i + (t + 1) by omega])
theorem bc1_s (ru : RU) (bs : List Int) (p : Nat) (left : Int) : ∀ m v, bc1 ru bs p left m v = sN m (fun t => if ¬ ((v + t : Nat) : Int) = bs.getD p 0 ∧ ¬ rnO (ru 1).toNat (ru 2).toNat (ru 0) ((v + t : Nat) : Int) left = -1 ∧ judK ru (bs.set p ((v + t : Nat) : Int)) = 0 then 1 else 0) := by
  intro m
  induction m with
  | zero => intro v; rfl
  | succ m ih =>
    intro v
    rw [bc1, sN_front, ih]
    congr 1
    exact sN_congr _ (fun t _ => by rw [show v + 1 + t = v + (t + 1) by omega])
/-- how many other bytes at place p nobody would see -/
def cnP (ru : RU) (bs : List Int) (p : Nat) : Int := sN 255 (fun t => if ¬ ((t + 1 : Nat) : Int) = bs.getD p 0 ∧ judK ru (bs.set p ((t + 1 : Nat) : Int)) = 0 then 1 else 0)
theorem frB_set {w : List Int} {fr to p : Nat} {y : Int} (h2 : to ≤ w.length) (hp : p < to - fr) : frB (w.set (fr + p) y) (fr, to) = (frB w (fr, to)).set p y := by
  show ((w.set (fr + p) y).drop fr).take (to - fr) = ((w.drop fr).take (to - fr)).set p y
  rw [List.drop_set, if_neg (by omega), show fr + p - fr = p by omega, List.take_set]
theorem frB_len {w : List Int} {fr to : Nat} (h2 : to ≤ w.length) : (frB w (fr, to)).length = to - fr := by
  show ((w.drop fr).take (to - fr)).length = _
  rw [List.length_take, List.length_drop]
  omega
theorem frB_get {w : List Int} {fr to p : Nat} (hp : p < to - fr) : (frB w (fr, to)).getD p 0 = w.getD (fr + p) 0 := by
  show ((w.drop fr).take (to - fr)).getD p 0 = _
  rw [List.getD_eq_getElem?_getD, List.getElem?_take, if_pos hp, List.getElem?_drop, List.getD_eq_getElem?_getD]
theorem bl1_cn {ru : RU} {w : List Int} {fr to p : Nat} (hb : byt w) (h2 : to ≤ w.length) (hp : p < to - fr) : bl1 ru w (fr, to) (fr + p) 255 1 = cnP ru (frB w (fr, to)) p := by
  have hby := byt_at hb (fr + p)
  rw [bl1_s]
  generalize hc : w.getD (fr + p) 0 = c at *
  obtain ⟨k, rfl⟩ := Int.eq_ofNat_of_zero_le hby.1
  have hk : k ≤ 255 := by omega
  have e1 := sN_flip (fun y => if y ≠ 0 ∧ judK ru ((frB w (fr, to)).set p (y : Int)) = 0 then 1 else 0) (if_neg (fun h => h.1 rfl)) hk
  unfold cnP
  rw [frB_get hp, hc]
  refine Eq.trans (sN_congr _ (fun t ht => ?_)) (e1.trans (sN_congr _ (fun t ht => ?_)))
  · have ex : xr (k : Int) ((1 + t : Nat) : Int) = ((k ^^^ (t + 1) : Nat) : Int) := by unfold xr; rw [Int.toNat_natCast, Int.toNat_natCast, Nat.add_comm 1 t]
    have ef : frK ru (flpL w (fr + p) ((1 + t : Nat) : Int)) (fr, to) = judK ru ((frB w (fr, to)).set p ((k ^^^ (t + 1) : Nat) : Int)) := by
      unfold flpL
      rw [hc, ex]
      unfold frK judK
      rw [frB_set h2 hp, List.length_set, frB_len h2]
    rw [ex, ef]
    by_cases e : k ^^^ (t + 1) = 0
    · rw [if_neg (fun h => h.1 (by rw [e]; rfl)), if_neg (fun h => h.1 e)]
    · by_cases e3 : judK ru ((frB w (fr, to)).set p ((k ^^^ (t + 1) : Nat) : Int)) = 0
      · rw [if_pos ⟨by omega, e3⟩, if_pos ⟨e, e3⟩]
      · rw [if_neg (fun h => e3 h.2), if_neg (fun h => e3 h.2)]
  · by_cases e : t + 1 = k
    · rw [if_pos e, if_neg (fun h => h.1 (by omega))]
    · rw [if_neg e]
      by_cases e3 : judK ru ((frB w (fr, to)).set p ((t + 1 : Nat) : Int)) = 0
      · rw [if_pos ⟨by omega, e3⟩, if_pos ⟨by omega, e3⟩]
      · rw [if_neg (fun h => e3 h.2), if_neg (fun h => e3 h.2)]
theorem bl2_cn {ru : RU} {w : List Int} {fr to : Nat} (hb : byt w) (h2 : to ≤ w.length) : bl2 ru w (fr, to) (to - fr) fr = sN (to - fr) (cnP ru (frB w (fr, to))) := by
  rw [bl2_s]
  exact sN_congr _ (fun t ht => bl1_cn hb h2 ht)
