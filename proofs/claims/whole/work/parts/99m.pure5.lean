section PURE5
variable {L Z : Nat} {way c : Int} {left : Nat}
theorem rn_bad (h : rnO L Z way c left = -1) : ¬ (way = 2 ∧ 0 < c ∧ (left : Int) < c - 1) ∧ (¬ isC L Z way c ∨ (left : Int) < ndC L c) := by
  unfold rnO at h
  unfold isC ndC
  repeat' split at h
  all_goals first | omega | skip
  all_goals (refine ⟨by omega, ?_⟩; split <;> omega)
theorem rn_tail (h : way = 2 ∧ 0 < c ∧ (left : Int) < c - 1) : rnO L Z way c left = left := by
  unfold rnO
  rw [if_neg (by omega), if_pos ⟨h.1, h.2.2⟩]
theorem rn_code (h : ¬ (way = 2 ∧ 0 < c ∧ (left : Int) < c - 1)) (h2 : isC L Z way c) (h3 : ndC L c ≤ left) : rnO L Z way c left = ndC L c := by
  unfold isC at h2
  unfold rnO
  unfold ndC at h3 ⊢
  rw [if_neg (by omega), if_neg (by omega)]
  by_cases e : c ≤ L + 1
  · rw [if_pos e] at h3
    rw [if_pos e, if_pos e, if_pos h3]
  · rw [if_neg e] at h3
    rw [if_neg e, if_neg e, if_pos (by omega), if_pos h3]
end PURE5
theorem sN_data (a : Int) (k0 : Bool) : ∀ k, sN k (fun j => 254 - (if k0 = true ∧ j = 0 then a else 0)) = 254 * (k : Int) - (if k0 = true ∧ 0 < k then a else 0) := by
  intro k
  induction k with
  | zero => rw [if_neg (by omega)]; rfl
  | succ k ih =>
    show sN k _ + (254 - (if k0 = true ∧ k = 0 then a else 0)) = _
    rw [ih]
    cases k0 with
    | false => rw [if_neg (by simp), if_neg (by simp), if_neg (by simp)]; omega
    | true =>
      by_cases e : k = 0
      · subst e
        rw [if_neg (by omega), if_pos ⟨rfl, rfl⟩, if_pos ⟨rfl, by omega⟩]; omega
      · rw [if_pos ⟨rfl, by omega⟩, if_neg (fun h => e h.2), if_pos ⟨rfl, by omega⟩]; omega
theorem set_get {l : List Int} {i j : Nat} {y : Int} (h : j ≠ i) : (l.set i y).getD j 0 = l.getD j 0 := by
  rw [List.getD_eq_getElem?_getD, List.getElem?_set_ne (Ne.symm h), List.getD_eq_getElem?_getD]
/-- at a CODE's place: only another CODE can do it -/
theorem cn_code {ru : RU} {bs out : List Int} {f p : Nat} (hl : bs.length ≤ 200) (hp : p < bs.length) (hpre : ∀ bs' : List Int, bs'.length = bs.length → (∀ i, i < p → bs'.getD i 0 = bs.getD i 0) → unF (ru 1).toNat (ru 2).toNat (ru 0) bs' = unl (ru 1).toNat (ru 2).toNat (ru 0) bs' (f + 1) out p) : cnP ru bs p = bcP ru bs p := by
  unfold cnP bcP
  rw [bc1_s]
  refine sN_congr _ (fun t ht => ?_)
  rw [Nat.add_comm 1 t]
  by_cases e1 : ((t + 1 : Nat) : Int) = bs.getD p 0
  · rw [if_neg (fun h => h.1 e1), if_neg (fun h => h.1 e1)]
  by_cases e3 : rnO (ru 1).toNat (ru 2).toNat (ru 0) ((t + 1 : Nat) : Int) ((bs.length : Int) - p - 1) = -1
  · have hne : ¬ judK ru (bs.set p ((t + 1 : Nat) : Int)) = 0 := fun hj => by
      have e3 := e3
      rw [show (bs.length : Int) - p - 1 = ((bs.length - p - 1 : Nat) : Int) by omega] at e3
      obtain ⟨b1, b2⟩ := rn_bad e3
      have hc : (bs.set p ((t + 1 : Nat) : Int)).getD p 0 = ((t + 1 : Nat) : Int) := by rw [List.getD_eq_getElem?_getD, List.getElem?_set_self hp]; rfl
      have hu := hpre (bs.set p ((t + 1 : Nat) : Int)) List.length_set (fun i hi => set_get (by omega))
      rw [unl_bad (by rw [List.length_set]; exact hp) (by rw [hc, List.length_set]; exact b1) (by rw [hc, List.length_set]; exact b2)] at hu
      rw [judK_p (by rw [List.length_set]; exact hl), hu, if_pos (by show (p : Int) ≠ -1; omega)] at hj
      exact absurd hj (by decide)
    rw [if_neg (fun h => hne h.2), if_neg (fun h => hne h.2.2)]
  · by_cases e2 : judK ru (bs.set p ((t + 1 : Nat) : Int)) = 0
    · rw [if_pos ⟨e1, e2⟩, if_pos ⟨e1, e3, e2⟩]
    · rw [if_neg (fun h => e2 h.2), if_neg (fun h => e2 h.2.2)]
/-- at a place of its bytes -/
theorem cn_data {ru : RU} {bs pl : List Int} {i m : Nat} (hwr : WfRu ru) (hl : bs.length ≤ 200) (hb : byt bs) (hbp : byt pl) (h0 : jkp ru pl = 0) (hm : m < pl.length) (hg : pl.getD m 0 = bs.getD i 0) (hz : bs.getD i 0 ≠ 0) (hu : ∀ y : Int, 1 ≤ y → y ≤ 255 → unF (ru 1).toNat (ru 2).toNat (ru 0) (bs.set i y) = (-1, pl.set m y)) : cnP ru bs i = if ru 3 = 0 then 254 - (if m = 0 then 256 - 64 * ru 5 else 0) else 0 := by
  have hby := byt_at hb i
  obtain ⟨k, hk⟩ := Int.eq_ofNat_of_zero_le hby.1
  rw [← cnt_data (m := m) (c := k) hwr hbp h0 hm (by rw [hg, hk]) (by omega)]
  unfold cnP
  refine sN_congr _ (fun t ht => ?_)
  have hjk : judK ru (bs.set i ((t + 1 : Nat) : Int)) = jkp ru (pl.set m ((t + 1 : Nat) : Int)) := by
    rw [judK_p (by rw [List.length_set]; exact hl), hu _ (by omega) (by omega)]
    exact if_neg (fun h => h rfl)
  rw [hjk, hk]
  by_cases e : t + 1 = k
  · rw [if_neg (fun h => h.1 (by omega)), if_neg (fun h => h.1 e)]
  · by_cases e2 : jkp ru (pl.set m ((t + 1 : Nat) : Int)) = 0
    · rw [if_pos ⟨by omega, e2⟩, if_pos ⟨e, e2⟩]
    · rw [if_neg (fun h => e2 h.2), if_neg (fun h => e2 h.2)]
