theorem blk {ru : RU} {bs : List Int} {f p k ol : Nat} (hp : p + 1 + k ≤ bs.length) (hr : rnP ru bs p = k) (hc : cnP ru bs p = bcP ru bs p) (hd : ∀ j, j < k → cnP ru bs (p + 1 + j) = if ru 3 = 0 then 254 - (if ol + j = 0 then 256 - 64 * ru 5 else 0) else 0) (ho : p = 0 ↔ ol = 0) (ih : bP ru bs f (p + 1 + k) = sN (bs.length - (p + 1 + k)) (fun t => cnP ru bs (p + 1 + k + t))) : bP ru bs (f + 1) p = sN (bs.length - p) (fun t => cnP ru bs (p + t)) := by
  rw [bP, if_neg (by rw [hr]; omega), hr, show ((k : Int)).toNat = k from rfl, ih, show bs.length - p = 1 + k + (bs.length - (p + 1 + k)) by omega, sN_add, sN_add]
  have e1 : sN 1 (fun t => cnP ru bs (p + t)) = bcP ru bs p := by
    show 0 + cnP ru bs (p + 0) = _
    rw [Nat.add_zero, hc, Int.zero_add]
  have e2 : sN k (fun v => cnP ru bs (p + (1 + v))) = if ru 3 = 0 then 254 * (k : Int) - (if p = 0 ∧ 0 < (k : Int) then 256 - 64 * ru 5 else 0) else 0 := by
    rw [sN_congr (g := fun j => if ru 3 = 0 then 254 - (if ol + j = 0 then 256 - 64 * ru 5 else 0) else 0) _ (fun j hj => by rw [show p + (1 + j) = p + 1 + j by omega]; exact hd j hj)]
    by_cases e3 : ru 3 = 0
    · rw [if_pos e3, sN_congr (g := fun j => 254 - (if decide (ol = 0) = true ∧ j = 0 then 256 - 64 * ru 5 else 0)) _ (fun j hj => ?_), sN_data]
      · by_cases e4 : p = 0 ∧ 0 < k
        · rw [if_pos ⟨decide_eq_true (ho.mp e4.1), e4.2⟩, if_pos ⟨e4.1, by omega⟩]
        · rw [if_neg (fun h => e4 ⟨ho.mpr (of_decide_eq_true h.1), h.2⟩), if_neg (fun h => e4 ⟨h.1, by omega⟩)]
      · rw [if_pos e3]
        by_cases e4 : ol + j = 0
        · rw [if_pos e4, if_pos ⟨decide_eq_true (by omega), by omega⟩]
        · rw [if_neg e4, if_neg (fun h => e4 (by have := of_decide_eq_true h.1; omega))]
    · rw [if_neg e3, sN_congr (g := fun _ => 0) _ (fun j _ => if_neg e3), sN_0]
  rw [e1, e2, sN_congr (f := fun v => cnP ru bs (p + (1 + k + v))) (g := fun t => cnP ru bs (p + 1 + k + t)) _ (fun t _ => by rw [show p + (1 + k + t) = p + 1 + k + t by omega])]
theorem bP_cn {ru : RU} {bs : List Int} (hwr : WfRu ru) (hb : byt bs) (hl : bs.length ≤ 200) (h0 : judK ru bs = 0) : bP ru bs bs.length 0 = sN bs.length (cnP ru bs) := by
  rw [judK_p hl] at h0
  have hu1 : (unF (ru 1).toNat (ru 2).toNat (ru 0) bs).1 = -1 := by
    by_cases e : (unF (ru 1).toNat (ru 2).toNat (ru 0) bs).1 = -1
    · exact e
    · rw [if_pos e] at h0; exact absurd h0 (by decide)
  rw [if_neg (fun h => h hu1)] at h0
  have hbp := (unF_byt (L := (ru 1).toNat) (Z := (ru 2).toNat) (way := ru 0) hb).1
  have hU : unF (ru 1).toNat (ru 2).toNat (ru 0) bs = (-1, (unF (ru 1).toNat (ru 2).toNat (ru 0) bs).2) := Prod.ext hu1 rfl
  generalize (unF (ru 1).toNat (ru 2).toNat (ru 0) bs).2 = pl at *
  have hpos : bs.length ≠ 0 := fun e => by
    unfold unF at hU
    rw [if_pos e] at hU
    exact absurd (show (0 : Int) = -1 from congrArg Prod.fst hU) (by decide)
  have w1 := hwr.2.1
  have key : ∀ (f p : Nat) (out : List Int), bs.length ≤ f + p → p ≤ bs.length → (p < bs.length → (p = 0 ↔ out.length = 0)) → (∀ bs' : List Int, bs'.length = bs.length → (∀ i, i < p → bs'.getD i 0 = bs.getD i 0) → unF (ru 1).toNat (ru 2).toNat (ru 0) bs' = unl (ru 1).toNat (ru 2).toNat (ru 0) bs' (f + 1) out p) → bP ru bs f p = sN (bs.length - p) (fun t => cnP ru bs (p + t)) := by
    intro f
    induction f with
    | zero =>
      intro p out h1 h2 h3 h4
      rw [show bs.length - p = 0 by omega]
      rfl
    | succ f ih =>
      intro p out h1 h2 h3 hpre
      by_cases hp : bs.length ≤ p
      · rw [bP, if_pos (Or.inl hp), show bs.length - p = 0 by omega]
        rfl
      have hp : p < bs.length := by omega
      have hcc := cn_code (f := f + 1) hl hp hpre
      have hb0 := hpre bs rfl (fun _ _ => rfl)
      rw [hU] at hb0
      by_cases ht : ru 0 = 2 ∧ 0 < bs.getD p 0 ∧ ((bs.length - p - 1 : Nat) : Int) < bs.getD p 0 - 1
      · rw [unl_tail hp ht] at hb0
        have hfz : fz bs (p + 1) (bs.length - p - 1) = -1 := (congrArg Prod.fst hb0).symm
        have hpl : pl = out ++ bs.drop (p + 1) ++ [bs.getD p 0] := congrArg Prod.snd hb0
        have hnz := (fz_iff _ _).mp hfz
        refine blk (k := bs.length - p - 1) (ol := out.length) (by omega) (by unfold rnP; rw [show (bs.length : Int) - p - 1 = ((bs.length - p - 1 : Nat) : Int) by omega]; exact rn_tail ht) hcc (fun j hj => ?_) (h3 hp) ?_
        · refine cn_data (m := out.length + j) hwr hl hb hbp h0 ?_ ?_ (hnz _ (by omega) (by omega)) (fun y y1 y2 => ?_)
          · rw [hpl, List.length_append, List.length_append, List.length_drop, List.length_singleton]; omega
          · rw [hpl, List.append_assoc, List.getD_eq_getElem?_getD, List.getElem?_append_right (by omega), List.getElem?_append_left (by rw [List.length_drop]; omega), List.getElem?_drop, List.getD_eq_getElem?_getD, show p + 1 + (out.length + j - out.length) = p + 1 + j by omega]
          · have hc : (bs.set (p + 1 + j) y).getD p 0 = bs.getD p 0 := set_get (by omega)
            rw [hpre (bs.set (p + 1 + j) y) List.length_set (fun i hi => set_get (by omega)), unl_tail (by rw [List.length_set]; exact hp) (by rw [hc, List.length_set]; exact ht), hc, List.length_set]
            refine Prod.ext ((fz_iff _ _).mpr (fun i i1 i2 => ?_)) ?_
            · by_cases e : i = p + 1 + j
              · rw [e, List.getD_eq_getElem?_getD, List.getElem?_set_self (by omega)]; show y ≠ 0; omega
              · rw [set_get e]; exact hnz i i1 i2
            · show out ++ (bs.set (p + 1 + j) y).drop (p + 1) ++ [bs.getD p 0] = pl.set (out.length + j) y
              rw [hpl, List.drop_set, if_neg (by omega), show p + 1 + j - (p + 1) = j by omega, List.append_assoc, List.append_assoc, List.set_append_right _ _ (by omega), show out.length + j - out.length = j by omega, List.set_append_left _ _ (by rw [List.length_drop]; omega)]
        · rw [show p + 1 + (bs.length - p - 1) = bs.length by omega, Nat.sub_self]
          cases f with
          | zero => rfl
          | succ f => rw [bP, if_pos (Or.inl (Nat.le_refl _))]; rfl
      · by_cases hbad : ¬ isC (ru 1).toNat (ru 2).toNat (ru 0) (bs.getD p 0) ∨ ((bs.length - p - 1 : Nat) : Int) < ndC (ru 1).toNat (bs.getD p 0)
        · rw [unl_bad hp ht hbad] at hb0
          have := congrArg Prod.fst hb0
          have : (-1 : Int) = (p : Int) := this
          omega
        have hisC : isC (ru 1).toNat (ru 2).toNat (ru 0) (bs.getD p 0) := Decidable.byContradiction (fun h => hbad (Or.inl h))
        have hnd : ndC (ru 1).toNat (bs.getD p 0) ≤ ((bs.length - p - 1 : Nat) : Int) := by omega
        have hnd0 : 0 ≤ ndC (ru 1).toNat (bs.getD p 0) := by
          unfold isC at hisC
          unfold ndC
          split <;> omega
        obtain ⟨k, hk⟩ := Int.eq_ofNat_of_zero_le hnd0
        have h5 : p + 1 + k ≤ bs.length := by omega
        by_cases hfz : fz bs (p + 1) k = -1
        rotate_left
        · rw [unl_zero hp ht hisC hk h5 hfz] at hb0
          exact absurd (congrArg Prod.fst hb0).symm hfz
        have hnz := (fz_iff _ _).mp hfz
        have hstep : ∀ bs' : List Int, bs'.length = bs.length → bs'.getD p 0 = bs.getD p 0 → (∀ i, i < p → bs'.getD i 0 = bs.getD i 0) → (∀ i, p + 1 ≤ i → i < p + 1 + k → bs'.getD i 0 ≠ 0) → unF (ru 1).toNat (ru 2).toNat (ru 0) bs' = unl (ru 1).toNat (ru 2).toNat (ru 0) bs' (f + 1) (out ++ (bs'.drop (p + 1)).take k ++ zrC (ru 1).toNat (bs.getD p 0) (p + 1 + k < bs.length)) (p + 1 + k) := fun bs' a1 a2 a3 a4 => by
          rw [hpre bs' a1 a3, unl_step (by omega) (by rw [a2, a1]; exact ht) (by rw [a2]; exact hisC) (by rw [a2]; exact hk) (by omega) ((fz_iff _ _).mpr a4), a2, a1]
        have hs0 := hstep bs rfl rfl (fun _ _ => rfl) hnz
        rw [hU, unl_out] at hs0
        have hpl : pl = out ++ (bs.drop (p + 1)).take k ++ zrC (ru 1).toNat (bs.getD p 0) (p + 1 + k < bs.length) ++ (unl (ru 1).toNat (ru 2).toNat (ru 0) bs (f + 1) [] (p + 1 + k)).2 := congrArg Prod.snd hs0
        have hr1 : (-1 : Int) = (unl (ru 1).toNat (ru 2).toNat (ru 0) bs (f + 1) [] (p + 1 + k)).1 := congrArg Prod.fst hs0
        have hdl : ((bs.drop (p + 1)).take k).length = k := by rw [List.length_take, List.length_drop]; omega
        have hrn : rnP ru bs p = k := by
          unfold rnP
          rw [show (bs.length : Int) - p - 1 = ((bs.length - p - 1 : Nat) : Int) by omega, rn_code ht hisC hnd, hk]
        refine blk (k := k) (ol := out.length) h5 hrn hcc (fun j hj => ?_) (h3 hp) (ih (p + 1 + k) (out ++ (bs.drop (p + 1)).take k ++ zrC (ru 1).toNat (bs.getD p 0) (p + 1 + k < bs.length)) (by omega) h5 (fun hlt => ?_) (fun bs' a1 a2 => ?_))
        · refine cn_data (m := out.length + j) hwr hl hb hbp h0 ?_ ?_ (hnz _ (by omega) (by omega)) (fun y y1 y2 => ?_)
          · rw [hpl, List.length_append, List.length_append, List.length_append, hdl]; omega
          · rw [hpl, List.append_assoc, List.append_assoc, List.getD_eq_getElem?_getD, List.getElem?_append_right (by omega), List.getElem?_append_left (by rw [hdl]; omega), List.getElem?_take, if_pos (by omega), List.getElem?_drop, List.getD_eq_getElem?_getD, show p + 1 + (out.length + j - out.length) = p + 1 + j by omega]
          · rw [hstep (bs.set (p + 1 + j) y) List.length_set (set_get (by omega)) (fun i hi => set_get (by omega)) (fun i i1 i2 => ?_), unl_out, unl_from (bs := bs) List.length_set _ _ _ (fun i hi => set_get (by omega))]
            · refine Prod.ext hr1.symm ?_
              show out ++ ((bs.set (p + 1 + j) y).drop (p + 1)).take k ++ zrC (ru 1).toNat (bs.getD p 0) (p + 1 + k < bs.length) ++ (unl (ru 1).toNat (ru 2).toNat (ru 0) bs (f + 1) [] (p + 1 + k)).2 = pl.set (out.length + j) y
              rw [hpl, List.drop_set, if_neg (by omega), show p + 1 + j - (p + 1) = j by omega, List.take_set, List.append_assoc, List.append_assoc, List.append_assoc, List.append_assoc, List.set_append_right _ _ (by omega), show out.length + j - out.length = j by omega, List.set_append_left _ _ (by rw [hdl]; omega)]
            · by_cases e : i = p + 1 + j
              · rw [e, List.getD_eq_getElem?_getD, List.getElem?_set_self (by omega)]; show y ≠ 0; omega
              · rw [set_get e]; exact hnz i i1 i2
        · refine ⟨fun h => by omega, fun h => ?_⟩
          rw [List.length_append, List.length_append, hdl] at h
          have hk0 : k = 0 := by omega
          have hz0 : (zrC (ru 1).toNat (bs.getD p 0) (p + 1 + k < bs.length)).length = 0 := by omega
          unfold isC at hisC
          unfold ndC at hk
          unfold zrC at hz0
          split at hk
          · rw [if_pos ⟨by omega, hlt⟩] at hz0
            exact absurd hz0 (by decide)
          · rw [if_neg (by omega), if_pos (by omega)] at hz0
            exact absurd hz0 (by decide)
        · have e9 : (bs'.drop (p + 1)).take k = (bs.drop (p + 1)).take k := by
            refine List.ext_getElem (by rw [List.length_take, List.length_take, List.length_drop, List.length_drop, a1]) (fun j h1 h2 => ?_)
            rw [List.length_take, List.length_drop] at h1
            have := a2 (p + 1 + j) (by omega)
            rw [List.getD_eq_getElem?_getD, List.getD_eq_getElem?_getD, List.getElem?_eq_getElem (by omega), List.getElem?_eq_getElem (by omega)] at this
            rw [List.getElem_take, List.getElem_take, List.getElem_drop, List.getElem_drop]
            exact this
          rw [hstep bs' a1 (a2 p (by omega)) (fun i hi => a2 i (by omega)) (fun i i1 i2 => by rw [a2 i i2]; exact hnz i i1 i2), e9]
  have := key bs.length 0 [] (by omega) (by omega) (fun _ => ⟨fun _ => rfl, fun _ => rfl⟩) (fun bs' hl' _ => by unfold unF; rw [if_neg (by omega), hl'])
  rw [this, Nat.sub_zero]
  exact sN_congr _ (fun t _ => by rw [Nat.zero_add])
theorem blind_ok {ru : RU} {w : List Int} (hwr : WfRu ru) (hb : byt w) : BlindOk ru w := fun fr to h1 h2 h0 => by
  have hl := frB_len (w := w) (fr := fr) (to := to) (by omega)
  have e2 : judK ru (frB w (fr, to)) = frK ru w (fr, to) := by
    unfold judK frK
    rw [hl]
  have h200 : to - fr ≤ 200 := by
    by_cases e : 200 < to - fr
    · have : frK ru w (fr, to) = 2 := if_pos e
      omega
    · omega
  have h9 := bP_cn (bs := frB w (fr, to)) hwr (byt_take (byt_drop hb _) _) (by omega) (by rw [e2]; exact h0)
  rw [bl2_cn hb (by omega), h9, hl]
