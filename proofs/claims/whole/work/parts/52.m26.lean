section M26
variable {G : GT} {m0 n u : Nat} {F : HS} {d : Nat} {I : Nat → Int} {A : Nat → Int → Int} {D : Int64} {post : Option Value → MT → Prop} {S : SY} {b : Int}
/-- refused for reason k -/
theorem RepM.rf {I I' : Nat → Int} {A A' : Nat → Int → Int} {tp bx hd : List Int} {rf : Nat → Int} {il : Int} {ru : RU} {tl : Nat → Int} {s : ST} {ps : List ST} {im : Option ST} (h : RepM I A (tp, bx, hd, rf, il, ru, tl, s, ps, im)) {k : Nat} (f1 : frI [0, 26, 28, 29] I I') (f2 : frA [5, 6, 10] A A') (h10 : A' 10 = up (A 10) (k : Int) (A 10 (k : Int) + 1)) (hk : k < 4) : RepM I' A' (tp, bx, hd, rfF rf k, il, ru, tl, s, ps, im) := by
  obtain ⟨⟨a1, a2⟩, ⟨a3, a4⟩, ⟨a5, a6⟩, a7, a8, ⟨a9, a10⟩, a11, a12, a13, a14⟩ := h
  refine ⟨⟨(f1 2 (by decide)).trans a1, by rw [f2 1 (by decide)]; exact a2⟩, ⟨(f1 31 (by decide)).trans a3, by rw [f2 7 (by decide)]; exact a4⟩, ⟨(f1 38 (by decide)).trans a5, by rw [f2 11 (by decide)]; exact a6⟩, fun j hj => ?_, (f1 17 (by decide)).trans a8, ⟨(f1 19 (by decide)).trans a9, (f1 20 (by decide)).trans a10⟩, by rw [f1 23 (by decide)]; exact a11, (f1 33 (by decide)).trans a12, (f1 43 (by decide)).trans a13, fun hi => ?_⟩
  · rw [h10]
    unfold rfF
    by_cases e : j = k
    · subst e
      rw [up_s, up_s, a7 j hj]
    · rw [up_n (by omega), up_n e]
      exact a7 j hj
  · obtain ⟨b1, b2, b3, b4, b5⟩ := a14 hi
    refine ⟨b1.fr f1 (by decide), fun c hc => by rw [f2 4 (by decide)]; exact b2 c hc, by rw [f2 3 (by decide)]; exact b3, fun k hk => by rw [f2 8 (by decide)]; exact b4 k hk, fun x hx => by rw [f2 14 (by decide)]; exact b5 x hx⟩
theorem RepM.rf' {I : Nat → Int} {A : Nat → Int → Int} {tp bx hd : List Int} {rf : Nat → Int} {il : Int} {ru : RU} {tl : Nat → Int} {s : ST} {ps : List ST} {im : Option ST} (h : RepM I A (tp, bx, hd, rf, il, ru, tl, s, ps, im)) (k : Nat) (hk : k < 4) : RepM (up I 0 0) (up A 10 (up (A 10) (k : Int) (A 10 (k : Int) + 1))) (tp, bx, hd, rfF rf k, il, ru, tl, s, ps, im) := h.rf (frI.rf.up (by decide)) (frA.rf.up (by decide)) (by rw [up_s]) hk
/-- one more kept -/
theorem kp_get {ps : List ST} {s x : ST} {k : Nat} (hl : ps.length ≤ 12) (hk : k < (kpF ps s).length) : (kpF ps s).getD k x = if k = min ps.length 11 then s else ps.getD (if ps.length = 12 then k + 1 else k) x := by
  unfold kpF at hk ⊢
  by_cases h : ps.length = 12
  · rw [if_pos h] at hk ⊢
    rw [if_pos h, List.getD_eq_getElem?_getD, List.getD_eq_getElem?_getD]
    rw [List.length_append, List.length_drop, List.length_singleton] at hk
    by_cases e : k = min ps.length 11
    · rw [if_pos e, List.getElem?_append_right (by rw [List.length_drop]; omega), List.length_drop, show k - (ps.length - 1) = 0 by omega]
      rfl
    · rw [if_neg e, List.getElem?_append_left (by rw [List.length_drop]; omega), List.getElem?_drop, Nat.add_comm]
  · rw [if_neg h] at hk ⊢
    rw [if_neg h, List.getD_eq_getElem?_getD, List.getD_eq_getElem?_getD]
    rw [List.length_append, List.length_singleton] at hk
    by_cases e : k = min ps.length 11
    · rw [if_pos e, List.getElem?_append_right (by omega), show k - ps.length = 0 by omega]
      rfl
    · rw [if_neg e, List.getElem?_append_left (by omega)]
theorem kp_len {ps : List ST} {s : ST} (hl : ps.length ≤ 12) : (kpF ps s).length = min ps.length 11 + 1 := by
  unfold kpF
  split
  · rw [List.length_append, List.length_drop, List.length_singleton]; omega
  · rw [List.length_append, List.length_singleton]; omega
/-- a new state, the old one kept: what an act leaves -/
theorem RepM.act {I I' : Nat → Int} {A A' : Nat → Int → Int} {b : Int} {tp tp' bx hd hd' : List Int} {rf : Nat → Int} {ru : RU} {tl : Nat → Int} {s s' : ST} {ps : List ST} {im : Option ST} (h : RepM I A (tp, bx, hd, rf, 1, ru, tl, s, ps, im)) (hw : WfSy b (tp, bx, hd, rf, 1, ru, tl, s, ps, im)) (f1 : frI [0, 2, 26, 28, 29, 33, 38, 41] I I') (f2 : frA [3, 5, 6, 8, 9, 11, 12, 13] A A') (hac : I' 33 = ((min ps.length 11 : Nat) : Int) + 1) (h8a : ∀ i : Int, 0 ≤ i → i < 9309 * ((min ps.length 11 : Nat) : Int) → A' 8 i = A 8 (if ps.length = 12 then i + 9309 else i)) (h8b : ∀ i, 0 ≤ i → i < 9309 → A' 8 (9309 * ((min ps.length 11 : Nat) : Int) + i) = A 3 i) (hs : RepSt (ru 5).toNat (A' 3) s') (h2 : I' 2 = tp'.length) (ht : tp' = tp ∨ tp' = []) (h38 : I' 38 = hd'.length) (h11 : sg (A' 11) 0 hd') : RepM I' A' (tp', bx, hd', rf, 1, ru, tl, s', kpF ps s, im) := by
  obtain ⟨⟨a1, a2⟩, ⟨a3, a4⟩, ⟨a5, a6⟩, a7, a8, ⟨a9, a10⟩, a11, a12, a13, a14⟩ := h
  obtain ⟨-, -, -, -, -, -, -, w1, w2⟩ := hw
  obtain ⟨hwr, -, hws, hwp, -⟩ := w2 rfl
  obtain ⟨v0, v1, v2, v3, v4, v5⟩ := hwr
  refine ⟨⟨h2, ?_⟩, ⟨(f1 31 (by decide)).trans a3, by rw [f2 7 (by decide)]; exact a4⟩, ⟨h38, h11⟩, fun k hk => by rw [f2 10 (by decide)]; exact a7 k hk, (f1 17 (by decide)).trans a8, ⟨(f1 19 (by decide)).trans a9, (f1 20 (by decide)).trans a10⟩, by rw [f1 23 (by decide)]; exact a11, by rw [hac, kp_len w1]; omega, (f1 43 (by decide)).trans a13, fun hi => ?_⟩
  · rcases ht with rfl | rfl
    · rw [f2 1 (by decide)]; exact a2
    · exact sg_nil _ _
  · obtain ⟨b1, b2, b3, b4, b5⟩ := a14 hi
    refine ⟨b1.fr f1 (by decide), fun c hc => by rw [f2 4 (by decide)]; exact b2 c hc, hs, fun k hk => ?_, fun x hx => by rw [f2 14 (by decide)]; exact b5 x hx⟩
    rw [kp_get w1 hk]
    rw [kp_len w1] at hk
    by_cases e : k = min ps.length 11
    · rw [if_pos e]
      exact b3.congr hws.1 (by omega) (fun i x y => by rw [e]; exact h8b i x y)
    · rw [if_neg e]
      have hlt : (if ps.length = 12 then k + 1 else k) < ps.length := by split <;> omega
      have hb := b4 _ hlt
      have hm : ps.getD (if ps.length = 12 then k + 1 else k) s ∈ ps := getD_mem hlt
      have hd1 : ps.getD (if ps.length = 12 then k + 1 else k) s' = ps.getD (if ps.length = 12 then k + 1 else k) s := by
        rw [List.getD_eq_getElem?_getD, List.getD_eq_getElem?_getD, List.getElem?_eq_getElem hlt]
        rfl
      rw [hd1]
      refine hb.congr (hwp _ hm).1 (by omega) (fun i x y => ?_)
      show A' 8 (9309 * (k : Int) + i) = A 8 (9309 * (((if ps.length = 12 then k + 1 else k : Nat)) : Int) + i)
      rw [h8a _ (by omega) (by omega)]
      congr 1
      split <;> omega
end M26
