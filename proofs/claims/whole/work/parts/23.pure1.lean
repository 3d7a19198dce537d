/-! ===== bytes stay bytes; sums ===== -/
theorem zrC_byt (L : Nat) (c : Int) (more : Prop) [Decidable more] : byt (zrC L c more) ∧ (zrC L c more).length ≤ 2 := by
  unfold zrC
  split
  · exact ⟨by simp [byt], by simp⟩
  · split
    · exact ⟨by simp [byt], by simp⟩
    · exact ⟨byt_nil, by simp⟩
theorem unl_byt {L Z : Nat} {way : Int} {bs : List Int} (hb : byt bs) : ∀ (f : Nat) (out : List Int) (p : Nat), byt out → out.length ≤ 2 * p → p ≤ bs.length → byt (unl L Z way bs f out p).2 ∧ (unl L Z way bs f out p).2.length ≤ 2 * bs.length := by
  intro f
  induction f with
  | zero => intro out p h1 h2 h3; exact ⟨h1, by show out.length ≤ _; omega⟩
  | succ f ih =>
    intro out p h1 h2 h3
    by_cases hlt : bs.length ≤ p
    · rw [unl_end hlt]; exact ⟨h1, by show out.length ≤ _; omega⟩
    have hlt : p < bs.length := by omega
    by_cases ht : way = 2 ∧ 0 < bs.getD p 0 ∧ ((bs.length - p - 1 : Nat) : Int) < bs.getD p 0 - 1
    · rw [unl_tail hlt ht]
      refine ⟨byt_append.mpr ⟨byt_append.mpr ⟨h1, byt_drop hb _⟩, byt_cons.mpr ⟨byt_at hb p, byt_nil⟩⟩, ?_⟩
      show (out ++ bs.drop (p + 1) ++ [bs.getD p 0]).length ≤ _
      rw [List.length_append, List.length_append, List.length_drop, List.length_singleton]
      omega
    by_cases hbad : ¬ isC L Z way (bs.getD p 0) ∨ ((bs.length - p - 1 : Nat) : Int) < ndC L (bs.getD p 0)
    · rw [unl_bad hlt ht hbad]; exact ⟨h1, by show out.length ≤ _; omega⟩
    have g1 : isC L Z way (bs.getD p 0) := Classical.byContradiction fun h => hbad (Or.inl h)
    have g2 : ¬ ((bs.length - p - 1 : Nat) : Int) < ndC L (bs.getD p 0) := fun h => hbad (Or.inr h)
    have g3 : 0 ≤ ndC L (bs.getD p 0) := by unfold ndC; split <;> omega
    obtain ⟨k, hk⟩ := Int.eq_ofNat_of_zero_le g3
    by_cases hz : fz bs (p + 1) k = -1
    · rw [unl_step hlt ht g1 hk (by omega) hz]
      have hz2 := zrC_byt L (bs.getD p 0) (p + 1 + k < bs.length)
      refine ih _ _ (byt_append.mpr ⟨byt_append.mpr ⟨h1, byt_take (byt_drop hb _) _⟩, hz2.1⟩) ?_ (by omega)
      rw [List.length_append, List.length_append, List.length_take_of_le (by rw [List.length_drop]; omega)]
      omega
    · rw [unl_zero hlt ht g1 hk (by omega) hz]; exact ⟨h1, by show out.length ≤ _; omega⟩
theorem unF_byt {L Z : Nat} {way : Int} {bs : List Int} (hb : byt bs) : byt (unF L Z way bs).2 ∧ (unF L Z way bs).2.length ≤ 2 * bs.length := by
  unfold unF
  split
  · exact ⟨byt_nil, by simp⟩
  · exact unl_byt hb _ _ _ byt_nil (by simp) (by omega)
theorem unF_rg {L Z : Nat} {way : Int} {bs : List Int} : -1 ≤ (unF L Z way bs).1 ∧ (unF L Z way bs).1 ≤ bs.length := by
  have key : ∀ (f : Nat) (out : List Int) (p : Nat), p ≤ bs.length → -1 ≤ (unl L Z way bs f out p).1 ∧ (unl L Z way bs f out p).1 ≤ bs.length := by
    intro f
    induction f with
    | zero => intro out p h; exact ⟨by show (-1 : Int) ≤ -1; omega, by show (-1 : Int) ≤ _; omega⟩
    | succ f ih =>
      intro out p h3
      by_cases hlt : bs.length ≤ p
      · rw [unl_end hlt]; exact ⟨by show (-1 : Int) ≤ -1; omega, by show (-1 : Int) ≤ _; omega⟩
      have hlt : p < bs.length := by omega
      by_cases ht : way = 2 ∧ 0 < bs.getD p 0 ∧ ((bs.length - p - 1 : Nat) : Int) < bs.getD p 0 - 1
      · rw [unl_tail hlt ht]
        have := fz_rg (bs := bs) (n := bs.length - p - 1) (p := p + 1)
        show -1 ≤ fz bs (p + 1) (bs.length - p - 1) ∧ _
        omega
      by_cases hbad : ¬ isC L Z way (bs.getD p 0) ∨ ((bs.length - p - 1 : Nat) : Int) < ndC L (bs.getD p 0)
      · rw [unl_bad hlt ht hbad]; show (-1 : Int) ≤ p ∧ (p : Int) ≤ _; omega
      have g1 : isC L Z way (bs.getD p 0) := Classical.byContradiction fun h => hbad (Or.inl h)
      have g2 : ¬ ((bs.length - p - 1 : Nat) : Int) < ndC L (bs.getD p 0) := fun h => hbad (Or.inr h)
      have g3 : 0 ≤ ndC L (bs.getD p 0) := by unfold ndC; split <;> omega
      obtain ⟨k, hk⟩ := Int.eq_ofNat_of_zero_le g3
      by_cases hz : fz bs (p + 1) k = -1
      · rw [unl_step hlt ht g1 hk (by omega) hz]
        exact ih _ _ (by omega)
      · rw [unl_zero hlt ht g1 hk (by omega) hz]
        have := fz_rg (bs := bs) (n := k) (p := p + 1)
        show -1 ≤ fz bs (p + 1) k ∧ fz bs (p + 1) k ≤ _
        omega
  unfold unF
  split
  · show (-1 : Int) ≤ 0 ∧ (0 : Int) ≤ _; omega
  · exact key _ _ _ (by omega)
theorem crc1_rg {s : Int} (h : 0 ≤ s ∧ s ≤ 255) : 0 ≤ crc1 s ∧ crc1 s ≤ 255 := by
  unfold crc1
  split
  · exact xr_rg (by omega) (by omega)
  · omega
theorem crc8_rg {s : Int} (h : 0 ≤ s ∧ s ≤ 255) : 0 ≤ crc8 s ∧ crc8 s ≤ 255 := crc1_rg (crc1_rg (crc1_rg (crc1_rg (crc1_rg (crc1_rg (crc1_rg (crc1_rg h)))))))
theorem chk1_rg {ck s b : Int} (h : 0 ≤ s ∧ s ≤ 255) (hb : 0 ≤ b ∧ b ≤ 255) : 0 ≤ chk1 ck s b ∧ chk1 ck s b ≤ 255 := by
  unfold chk1
  split
  · omega
  · exact crc8_rg (xr_rg h hb)
theorem chkF_rg {ck : Int} {l : List Int} (h : byt l) : 0 ≤ chkF ck l ∧ chkF ck l ≤ 255 := by
  have key : ∀ (l : List Int) (s : Int), byt l → 0 ≤ s ∧ s ≤ 255 → 0 ≤ l.foldl (chk1 ck) s ∧ l.foldl (chk1 ck) s ≤ 255 := by
    intro l
    induction l with
    | nil => intro s _ hs; exact hs
    | cons b l ih => intro s hl hs; exact ih _ (byt_cons.mp hl).2 (chk1_rg hs (byt_cons.mp hl).1)
  exact key l 0 h (by omega)
theorem chkF_snoc {ck : Int} {l : List Int} {v : Int} : chkF ck (l ++ [v]) = chk1 ck (chkF ck l) v := by
  unfold chkF
  rw [List.foldl_append]
  rfl
/-- the rules keep to their bounds -/
def WfRu (ru : RU) : Prop := (0 ≤ ru 0 ∧ ru 0 ≤ 2) ∧ (2 ≤ ru 1 ∧ ru 1 ≤ 60) ∧ (1 ≤ ru 2 ∧ ru 2 ≤ 30) ∧ (0 ≤ ru 3 ∧ ru 3 ≤ 2) ∧ (1 ≤ ru 4 ∧ ru 4 ≤ 60) ∧ (1 ≤ ru 5 ∧ ru 5 ≤ 4)
def RuM (I : Nat → Int) (ru : RU) : Prop := I 18 = ru 0 ∧ I 19 = ru 1 ∧ I 20 = ru 2 ∧ I 21 = ru 3 ∧ I 22 = ru 4 ∧ I 23 = ru 5
theorem RuM.fr {I I' : Nat → Int} {ru : RU} {ks : List Nat} (h : RuM I ru) (hf : frI ks I I') (hk : (18 ∉ ks ∧ 19 ∉ ks ∧ 20 ∉ ks) ∧ 21 ∉ ks ∧ 22 ∉ ks ∧ 23 ∉ ks) : RuM I' ru := ⟨(hf _ hk.1.1).trans h.1, (hf _ hk.1.2.1).trans h.2.1, (hf _ hk.1.2.2).trans h.2.2.1, (hf _ hk.2.1).trans h.2.2.2.1, (hf _ hk.2.2.1).trans h.2.2.2.2.1, (hf _ hk.2.2.2).trans h.2.2.2.2.2⟩
theorem judge_2 {ru : RU} {bs : List Int} (h : (unF (ru 1).toNat (ru 2).toNat (ru 0) bs).1 ≠ -1) : judge ru bs = (2, []) := by unfold judge; rw [if_pos h]
theorem judge_3 {ru : RU} {bs : List Int} (h : (unF (ru 1).toNat (ru 2).toNat (ru 0) bs).1 = -1) {pl : List Int} (hp : (unF (ru 1).toNat (ru 2).toNat (ru 0) bs).2 = pl) (h2 : pl.length < 1 + ckl (ru 3) ∨ (ru 3 ≠ 0 ∧ chkF (ru 3) (pl.take (pl.length - 1)) ≠ pl.getD (pl.length - 1) 0)) : judge ru bs = (3, []) := by
  subst hp
  unfold judge
  rw [if_neg (fun g => g h), if_pos h2]
theorem judge_ok {ru : RU} {bs : List Int} (h : (unF (ru 1).toNat (ru 2).toNat (ru 0) bs).1 = -1) {pl : List Int} (hp : (unF (ru 1).toNat (ru 2).toNat (ru 0) bs).2 = pl) (h2 : ¬ (pl.length < 1 + ckl (ru 3) ∨ (ru 3 ≠ 0 ∧ chkF (ru 3) (pl.take (pl.length - 1)) ≠ pl.getD (pl.length - 1) 0))) : judge ru bs = (if ru 5 ≤ pl.getD 0 0 / 64 ∨ ru 4 < pl.length - 1 - ckl (ru 3) then 4 else 0, pl) := by
  subst hp
  unfold judge
  rw [if_neg (fun g => g h), if_neg h2]
