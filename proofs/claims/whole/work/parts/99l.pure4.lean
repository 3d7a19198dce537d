/-- what plain bytes are by themselves -/
def jkp (ru : RU) (pl : List Int) : Int := if pl.length < 1 + ckl (ru 3) ∨ (ru 3 ≠ 0 ∧ chkF (ru 3) (pl.take (pl.length - 1)) ≠ pl.getD (pl.length - 1) 0) then 3 else if ru 5 ≤ pl.getD 0 0 / 64 ∨ ru 4 < pl.length - 1 - ckl (ru 3) then 4 else 0
theorem judK_p {ru : RU} {bs : List Int} (hl : bs.length ≤ 200) : judK ru bs = if (unF (ru 1).toNat (ru 2).toNat (ru 0) bs).1 ≠ -1 then 2 else jkp ru (unF (ru 1).toNat (ru 2).toNat (ru 0) bs).2 := by
  unfold judK judge jkp
  rw [if_neg (by omega)]
  split
  · rfl
  · split
    · rfl
    · rfl
theorem sN_lt (k : Nat) : ∀ n, sN n (fun t => if t < k then 1 else 0) = (min n k : Nat) := by
  intro n
  induction n with
  | zero => show (0 : Int) = _; rw [Nat.zero_min]; rfl
  | succ n ih =>
    show sN n (fun t => if t < k then 1 else 0) + (if n < k then 1 else 0) = _
    rw [ih]
    split <;> omega
theorem cnt_lt {c M : Nat} (hc : 1 ≤ c ∧ c < M) (hM : M ≤ 256) : sN 255 (fun t => if ¬ t + 1 = c ∧ t + 1 < M then 1 else 0) = (M : Int) - 2 := by
  rw [sN_congr (g := fun t => if t = c - 1 then 0 else (fun u => if u < M - 1 then 1 else 0) t) _ (fun i _ => ?_), sN_drop, sN_lt]
  · rw [if_pos (by omega), if_pos (by omega)]
    omega
  · by_cases e : i = c - 1
    · rw [if_pos e, if_neg (by omega)]
    · rw [if_neg e]
      by_cases e2 : i < M - 1
      · rw [if_pos (by omega)]; exact (if_pos e2).symm
      · rw [if_neg (by omega)]; exact (if_neg e2).symm
/-- another byte among the plain bytes -/
theorem cnt_data {ru : RU} {pl : List Int} {m c : Nat} (hwr : WfRu ru) (hb : byt pl) (h0 : jkp ru pl = 0) (hm : m < pl.length) (hc : pl.getD m 0 = c) (hc1 : 1 ≤ c ∧ c ≤ 255) : sN 255 (fun t => if ¬ t + 1 = c ∧ jkp ru (pl.set m ((t + 1 : Nat) : Int)) = 0 then 1 else 0) = if ru 3 = 0 then 254 - (if m = 0 then 256 - 64 * ru 5 else 0) else 0 := by
  have w5 := hwr.2.2.2.2.2
  have hn1 : ¬ (pl.length < 1 + ckl (ru 3) ∨ (ru 3 ≠ 0 ∧ chkF (ru 3) (pl.take (pl.length - 1)) ≠ pl.getD (pl.length - 1) 0)) := fun h => by
    unfold jkp at h0
    rw [if_pos h] at h0
    exact absurd h0 (by decide)
  have hn2 : ¬ (ru 5 ≤ pl.getD 0 0 / 64 ∨ ru 4 < pl.length - 1 - ckl (ru 3)) := fun h => by
    unfold jkp at h0
    rw [if_neg hn1, if_pos h] at h0
    exact absurd h0 (by decide)
  by_cases e3 : ru 3 = 0
  · rw [if_pos e3]
    have hj : ∀ y : Int, jkp ru (pl.set m y) = 0 ↔ (m = 0 → y / 64 < ru 5) := fun y => by
      unfold jkp
      rw [List.length_set, if_neg (fun h => h.elim (fun g => hn1 (Or.inl g)) (fun g => g.1 e3))]
      by_cases em : m = 0
      · subst em
        rw [show (pl.set 0 y).getD 0 0 = y by rw [List.getD_eq_getElem?_getD, List.getElem?_set_self hm]; rfl]
        by_cases e5 : ru 5 ≤ y / 64
        · rw [if_pos (Or.inl e5)]
          exact ⟨fun h => absurd h (by decide), fun h => by have := h rfl; omega⟩
        · rw [if_neg (fun h => h.elim e5 (fun g => hn2 (Or.inr g)))]
          exact ⟨fun _ _ => by omega, fun _ => rfl⟩
      · rw [show (pl.set m y).getD 0 0 = pl.getD 0 0 by rw [List.getD_eq_getElem?_getD, List.getElem?_set_ne em, List.getD_eq_getElem?_getD], if_neg hn2]
        exact ⟨fun _ h => absurd h em, fun _ => rfl⟩
    by_cases em : m = 0
    · rw [if_pos em]
      have hcl : (c : Int) / 64 < ru 5 := by
        rw [em] at hc
        rw [← hc]
        omega
      obtain ⟨k, hk⟩ := Int.eq_ofNat_of_zero_le (show 0 ≤ ru 5 by omega)
      rw [sN_congr (g := fun t => if ¬ t + 1 = c ∧ t + 1 < 64 * k then 1 else 0) _ (fun i _ => ?_), cnt_lt (by omega) (by omega)]
      · omega
      · have := hj ((i + 1 : Nat) : Int)
        by_cases e : ¬ i + 1 = c ∧ i + 1 < 64 * k
        · rw [if_pos e, if_pos ⟨e.1, this.mpr (fun _ => by omega)⟩]
        · rw [if_neg e, if_neg (fun h => e ⟨h.1, by have := this.mp h.2 em; omega⟩)]
    · rw [if_neg em]
      rw [sN_congr (g := fun t => if ¬ t + 1 = c ∧ t + 1 < 256 then 1 else 0) _ (fun i hi => ?_), cnt_lt (by omega) (by omega)]
      · omega
      · have := (hj ((i + 1 : Nat) : Int)).mpr (fun h => absurd h em)
        by_cases e : i + 1 = c
        · rw [if_neg (fun h => h.1 e), if_neg (fun h => h.1 e)]
        · rw [if_pos ⟨e, this⟩, if_pos ⟨e, by omega⟩]
  · rw [if_neg e3]
    rw [sN_congr (g := fun _ => 0) _ (fun i hi => ?_), sN_0]
    refine if_neg (fun h => ?_)
    obtain ⟨hne, hj⟩ := h
    unfold jkp at hj
    rw [List.length_set] at hj
    have hck : chkF (ru 3) (pl.take (pl.length - 1)) = pl.getD (pl.length - 1) 0 := by
      by_cases g : chkF (ru 3) (pl.take (pl.length - 1)) = pl.getD (pl.length - 1) 0
      · exact g
      · exact absurd (Or.inr ⟨e3, g⟩) hn1
    by_cases g : chkF (ru 3) ((pl.set m ((i + 1 : Nat) : Int)).take (pl.length - 1)) = (pl.set m ((i + 1 : Nat) : Int)).getD (pl.length - 1) 0
    · by_cases el : m = pl.length - 1
      · rw [el, List.take_set_of_le (Nat.le_refl _), hck, show (pl.set (pl.length - 1) ((i + 1 : Nat) : Int)).getD (pl.length - 1) 0 = ((i + 1 : Nat) : Int) by rw [List.getD_eq_getElem?_getD, List.getElem?_set_self (by omega)]; rfl, ← el, hc] at g
        omega
      · rw [show (pl.set m ((i + 1 : Nat) : Int)).getD (pl.length - 1) 0 = pl.getD (pl.length - 1) 0 by rw [List.getD_eq_getElem?_getD, List.getElem?_set_ne el, List.getD_eq_getElem?_getD], ← hck, List.take_set] at g
        have := chk_set (pl.take (pl.length - 1)) m _ 0 (byt_take hb _) (by rw [List.length_take]; omega) (by omega) (by decide) g
        rw [List.getD_eq_getElem?_getD, List.getElem?_take, if_pos (by omega), ← List.getD_eq_getElem?_getD, hc] at this
        omega
    · rw [if_pos (Or.inr ⟨e3, g⟩)] at hj
      exact absurd hj (by decide)
