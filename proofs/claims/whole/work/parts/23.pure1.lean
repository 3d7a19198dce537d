/-! ===== bytes stay bytes; sums ===== -/
theorem zrC_byt (L : Nat) (c : Int) (more : Prop) [Decidable more] : byt (zrC L c more) ∧ (zrC L c more).length ≤ 2 := by
  unfold zrC
  split
  · exact ⟨by simp [byt], by simp⟩
  · split
    · exact ⟨by simp [byt], by simp⟩
    · exact ⟨byt_nil, by simp⟩
theorem unl_byt {L Z : Nat} {way : Int} {bs : List Int} (hb : byt bs) : ∀ (f : Nat) (out : List Int) (p : Nat), byt out → out.length ≤ 2 * p → p ≤ bs.length → byt (unl L Z way bs f out p).2 ∧ (unl L Z way bs f out p).2.length ≤ 2 * bs.length := by
  intro f
  induction f with
  | zero => intro out p h1 h2 h3; exact ⟨h1, by show out.length ≤ _; omega⟩
  | succ f ih =>
    intro out p h1 h2 h3
    by_cases hlt : bs.length ≤ p
    · rw [unl_end hlt]; exact ⟨h1, by show out.length ≤ _; omega⟩
    have hlt : p < bs.length := by omega
    by_cases ht : way = 2 ∧ 0 < bs.getD p 0 ∧ ((bs.length - p - 1 : Nat) : Int) < bs.getD p 0 - 1
    · rw [unl_tail hlt ht]
      refine ⟨byt_append.mpr ⟨byt_append.mpr ⟨h1, byt_drop hb _⟩, byt_cons.mpr ⟨byt_at hb p, byt_nil⟩⟩, ?_⟩
      show (out ++ bs.drop (p + 1) ++ [bs.getD p 0]).length ≤ _
      rw [List.length_append, List.length_append, List.length_drop, List.length_singleton]
      omega
    by_cases hbad : ¬ isC L Z way (bs.getD p 0) ∨ ((bs.length - p - 1 : Nat) : Int) < ndC L (bs.getD p 0)
    · rw [unl_bad hlt ht hbad]; exact ⟨h1, by show out.length ≤ _; omega⟩
    have g1 : isC L Z way (bs.getD p 0) := Classical.byContradiction fun h => hbad (Or.inl h)
    have g2 : ¬ ((bs.length - p - 1 : Nat) : Int) < ndC L (bs.getD p 0) := fun h => hbad (Or.inr h)
    have g3 : 0 ≤ ndC L (bs.getD p 0) := by unfold ndC; split <;> omega
    obtain ⟨k, hk⟩ := Int.eq_ofNat_of_zero_le g3
    by_cases hz : fz bs (p + 1) k = -1
    · rw [unl_step hlt ht g1 hk (by omega) hz]
      have hz2 := zrC_byt L (bs.getD p 0) (p + 1 + k < bs.length)
      refine ih _ _ (byt_append.mpr ⟨byt_append.mpr ⟨h1, byt_take (byt_drop hb _) _⟩, hz2.1⟩) ?_ (by omega)
      rw [List.length_append, List.length_append, List.length_take_of_le (by rw [List.length_drop]; omega)]
      omega
    · rw [unl_zero hlt ht g1 hk (by omega) hz]; exact ⟨h1, by show out.length ≤ _; omega⟩
theorem unF_byt {L Z : Nat} {way : Int} {bs : List Int} (hb : byt bs) : byt (unF L Z way bs).2 ∧ (unF L Z way bs).2.length ≤ 2 * bs.length := by
  unfold unF
  split
  · exact ⟨byt_nil, by simp⟩
  · exact unl_byt hb _ _ _ byt_nil (by simp) (by omega)
theorem unF_rg {L Z : Nat} {way : Int} {bs : List Int} : -1 ≤ (unF L Z way bs).1 ∧ (unF L Z way bs).1 ≤ bs.length := by
  have key : ∀ (f : Nat) (out : List Int) (p : Nat), p ≤ bs.length → -1 ≤ (unl L Z way bs f out p).1 ∧ (unl L Z way bs f out p).1 ≤ bs.length := by
    intro f
    induction f with
    | zero => intro out p h; exact ⟨by show (-1 : Int) ≤ -1; omega, by show (-1 : Int) ≤ _; omega⟩
    | succ f ih =>
      intro out p h3
      by_cases hlt : bs.length ≤ p
      · rw [unl_end hlt]; exact ⟨by show (-1 : Int) ≤ -1; omega, by show (-1 : Int) ≤ _; omega⟩
      have hlt : p < bs.length := by omega
      by_cases ht : way = 2 ∧ 0 < bs.getD p 0 ∧ ((bs.length - p - 1 : Nat) : Int) < bs.getD p 0 - 1
      · rw [unl_tail hlt ht]
        have := fz_rg (bs := bs) (n := bs.length - p - 1) (p := p + 1)
        show -1 ≤ fz bs (p + 1) (bs.length - p - 1) ∧ _
        omega
      by_cases hbad : ¬ isC L Z way (bs.getD p 0) ∨ ((bs.length - p - 1 : Nat) : Int) < ndC L (bs.getD p 0)
      · rw [unl_bad hlt ht hbad]; show (-1 : Int) ≤ p ∧ (p : Int) ≤ _; omega
      have g1 : isC L Z way (bs.getD p 0) := Classical.byContradiction fun h => hbad (Or.inl h)
      have g2 : ¬ ((bs.length - p - 1 : Nat) : Int) < ndC L (bs.getD p 0) := fun h => hbad (Or.inr h)
      have g3 : 0 ≤ ndC L (bs.getD p 0) := by unfold ndC; split <;> omega
      obtain ⟨k, hk⟩ := Int.eq_ofNat_of_zero_le g3
      by_cases hz : fz bs (p + 1) k = -1
      · rw [unl_step hlt ht g1 hk (by omega) hz]
        exact ih _ _ (by omega)
      · rw [unl_zero hlt ht g1 hk (by omega) hz]
        have := fz_rg (bs := bs) (n := k) (p := p + 1)
        show -1 ≤ fz bs (p + 1) k ∧ fz bs (p + 1) k ≤ _
        omega
  unfold unF
  split
  · show (-1 : Int) ≤ 0 ∧ (0 : Int) ≤ _; omega
  · exact key _ _ _ (by omega)
theorem crc1_rg {s : Int} (h : 0 ≤ s ∧ s ≤ 255) : 0 ≤ crc1 s ∧ crc1 s ≤ 255 := by
  unfold crc1
  split
  · exact xr_rg (by omega) (by omega)
  · omega
theorem crc8_rg {s : Int} (h : 0 ≤ s ∧ s ≤ 255) : 0 ≤ crc8 s ∧ crc8 s ≤ 255 := crc1_rg (crc1_rg (crc1_rg (crc1_rg (crc1_rg (crc1_rg (crc1_rg (crc1_rg h)))))))
theorem chk1_rg {ck s b : Int} (h : 0 ≤ s ∧ s ≤ 255) (hb : 0 ≤ b ∧ b ≤ 255) : 0 ≤ chk1 ck s b ∧ chk1 ck s b ≤ 255 := by
  unfold chk1
  split
  · omega
  · exact crc8_rg (xr_rg h hb)
theorem chkF_rg {ck : Int} {l : List Int} (h : byt l) : 0 ≤ chkF ck l ∧ chkF ck l ≤ 255 := by
  have key : ∀ (l : List Int) (s : Int), byt l → 0 ≤ s ∧ s ≤ 255 → 0 ≤ l.foldl (chk1 ck) s ∧ l.foldl (chk1 ck) s ≤ 255 := by
    intro l
    induction l with
    | nil => intro s _ hs; exact hs
    | cons b l ih => intro s hl hs; exact ih _ (byt_cons.mp hl).2 (chk1_rg hs (byt_cons.mp hl).1)
  exact key l 0 h (by omega)
theorem chkF_snoc {ck : Int} {l : List Int} {v : Int} : chkF ck (l ++ [v]) = chk1 ck (chkF ck l) v := by
  unfold chkF
  rw [List.foldl_append]
  rfl
/-- the rules keep to their bounds -/
def WfRu (ru : RU) : Prop := (0 ≤ ru 0 ∧ ru 0 ≤ 2) ∧ (2 ≤ ru 1 ∧ ru 1 ≤ 60) ∧ (1 ≤ ru 2 ∧ ru 2 ≤ 30) ∧ (0 ≤ ru 3 ∧ ru 3 ≤ 2) ∧ (1 ≤ ru 4 ∧ ru 4 ≤ 60) ∧ (1 ≤ ru 5 ∧ ru 5 ≤ 4)
def RuM (I : Nat → Int) (ru : RU) : Prop := I 18 = ru 0 ∧ I 19 = ru 1 ∧ I 20 = ru 2 ∧ I 21 = ru 3 ∧ I 22 = ru 4 ∧ I 23 = ru 5
theorem RuM.fr {I I' : Nat → Int} {ru : RU} {ks : List Nat} (h : RuM I ru) (hf : frI ks I I') (hk : (18 ∉ ks ∧ 19 ∉ ks ∧ 20 ∉ ks) ∧ 21 ∉ ks ∧ 22 ∉ ks ∧ 23 ∉ ks) : RuM I' ru := ⟨(hf _ hk.1.1).trans h.1, (hf _ hk.1.2.1).trans h.2.1, (hf _ hk.1.2.2).trans h.2.2.1, (hf _ hk.2.1).trans h.2.2.2.1, (hf _ hk.2.2.1).trans h.2.2.2.2.1, (hf _ hk.2.2.2).trans h.2.2.2.2.2⟩
theorem judge_2 {ru : RU} {bs : List Int} (h : (unF (ru 1).toNat (ru 2).toNat (ru 0) bs).1 ≠ -1) : judge ru bs = (2, []) := by unfold judge; rw [if_pos h]
theorem judge_3 {ru : RU} {bs : List Int} (h : (unF (ru 1).toNat (ru 2).toNat (ru 0) bs).1 = -1) {pl : List Int} (hp : (unF (ru 1).toNat (ru 2).toNat (ru 0) bs).2 = pl) (h2 : pl.length < 1 + ckl (ru 3) ∨ (ru 3 ≠ 0 ∧ chkF (ru 3) (pl.take (pl.length - 1)) ≠ pl.getD (pl.length - 1) 0)) : judge ru bs = (3, []) := by
  subst hp
  unfold judge
  rw [if_neg (fun g => g h), if_pos h2]
theorem judge_ok {ru : RU} {bs : List Int} (h : (unF (ru 1).toNat (ru 2).toNat (ru 0) bs).1 = -1) {pl : List Int} (hp : (unF (ru 1).toNat (ru 2).toNat (ru 0) bs).2 = pl) (h2 : ¬ (pl.length < 1 + ckl (ru 3) ∨ (ru 3 ≠ 0 ∧ chkF (ru 3) (pl.take (pl.length - 1)) ≠ pl.getD (pl.length - 1) 0))) : judge ru bs = (if ru 5 ≤ pl.getD 0 0 / 64 ∨ ru 4 < pl.length - 1 - ckl (ru 3) then 4 else 0, pl) := by
  subst hp
  unfold judge
  rw [if_neg (fun g => g h), if_neg h2]
/-! ===== channels keep to their bounds ===== -/
theorem WfCh.mono {b b' : Int} {c : CH} (h : WfCh b c) (hb : b ≤ b') : WfCh b' c := by
  obtain ⟨w0, w1, w2, w3, w4, w5, w6, w7, w8, w9, w10, w11, w12, w13, w14⟩ := h
  exact ⟨w0, w1, w2, w3, by omega, by omega, by omega, by omega, w8, w9, w10, fun w hw => ⟨(w11 w hw).1, (w11 w hw).2.1, (w11 w hw).2.2.1, by have := (w11 w hw).2.2.2; omega⟩, w12, w13, w14⟩
theorem tearF_wf {b : Int} {c : CH} (h : WfCh b c) : WfCh (b + 1) (tearF c) := by
  obtain ⟨w0, w1, w2, w3, w4, w5, w6, w7, w8, w9, w10, w11, w12, w13, w14⟩ := h.mono (b' := b + 1) (by omega)
  obtain ⟨-, -, -, -, -, v5, -⟩ := h
  refine ⟨w0, w1, w2, w3, w4, ?_, ?_, w7, w8, w9, w10, w11, by show 0 ≤ 120; omega, byt_nil, fun _ => rfl⟩
  · show 0 ≤ c.1 5 + _ ∧ c.1 5 + _ ≤ b + 1
    split <;> omega
  · show (0 : Int) ≤ 0 ∧ (0 : Int) ≤ b + 1
    omega
theorem lostF_wf {b : Int} {c : CH} {h : Int} (hw : WfCh b c) : WfCh (b + 16) (lostF c h) := by
  have key : ∀ y : CH, WfCh (b + 16) y → WfCh (b + 16) (up y.1 3 ((h + 1) % 16), y.2) := by
    rintro y ⟨w0, w1, w2, w3, w4, w5, w6, w7, w8, w9, w10, w11, w12, w13, w14⟩
    exact ⟨w0, w1, w2, by show 0 ≤ (h + 1) % 16 ∧ (h + 1) % 16 ≤ 15; omega, w4, w5, w6, w7, w8, w9, w10, w11, w12, w13, w14⟩
  refine key _ ?_
  split
  · exact hw.mono (by omega)
  · have hw2 : WfCh (b + 15) (up c.1 4 (c.1 4 + (h - c.1 3) % 16), c.2) := by
      obtain ⟨w0, w1, w2, w3, w4, w5, w6, w7, w8, w9, w10, w11, w12, w13, w14⟩ := hw.mono (b' := b + 15) (by omega)
      obtain ⟨-, -, -, -, v4, -⟩ := hw
      exact ⟨w0, w1, w2, w3, by show 0 ≤ c.1 4 + (h - c.1 3) % 16 ∧ c.1 4 + (h - c.1 3) % 16 ≤ b + 15; omega, w5, w6, w7, w8, w9, w10, w11, w12, w13, w14⟩
    exact (tearF_wf hw2).mono (by omega)
theorem putT_wf {b : Int} {c : CH} {pt : List Int} (hw : WfCh b c) (hb : byt pt) (hl : c.2.2.2.length + pt.length ≤ 120) : WfCh (b + 1) (putT c pt) := by
  obtain ⟨w0, w1, w2, w3, w4, w5, w6, w7, w8, w9, w10, w11, w12, w13, w14⟩ := hw.mono (b' := b + 1) (by omega)
  obtain ⟨-, -, -, -, -, -, v6, -⟩ := hw
  refine ⟨w0, w1, w2, w3, w4, w5, by show 0 ≤ c.1 6 + 1 ∧ c.1 6 + 1 ≤ b + 1; omega, w7, w8, w9, w10, w11, ?_, byt_append.mpr ⟨w13, hb⟩, fun e => ?_⟩
  · show (c.2.2.2 ++ pt).length ≤ 120
    rw [List.length_append]
    exact hl
  · have e : c.1 6 + 1 = 0 := e
    omega
theorem endF_wf {b : Int} {y : CH} (hw : WfCh b y) : WfCh (b + 1) (endF y).2 := by
  unfold endF
  split
  · exact tearF_wf hw
  · obtain ⟨w0, w1, w2, w3, w4, w5, w6, w7, w8, w9, w10, w11, w12, w13, w14⟩ := hw.mono (b' := b + 1) (by omega)
    rename_i h8
    refine ⟨w0, w1, w2, w3, w4, w5, by show (0 : Int) ≤ 0 ∧ (0 : Int) ≤ b + 1; omega, w7, w8, w9, ?_, ?_, by show 0 ≤ 120; omega, byt_nil, fun _ => rfl⟩
    · show (y.2.2.1 ++ [(y.2.2.2, y.1 6)]).length ≤ 8
      rw [List.length_append, List.length_singleton]
      omega
    · intro w hw
      rcases List.mem_append.mp hw with h | h
      · exact w11 w h
      · rw [List.mem_singleton.mp h]
        exact ⟨w12, w13, w6.1, w6.2⟩
theorem addF_wf {b : Int} {c : CH} {h : Int} {pt : List Int} (hw : WfCh b c) (hb : byt pt) (hl : c.2.2.2.length + pt.length ≤ 120) : WfCh (b + 2) (addF c h pt).2 := by
  unfold addF
  split
  · exact (putT_wf hw hb hl).mono (by omega)
  · exact (endF_wf (putT_wf hw hb hl)).mono (by omega)
theorem accF_wf {b : Int} {c : CH} {h : Int} {pt : List Int} (hw : WfCh b c) (hb : byt pt) (hl : pt.length ≤ 120) : WfCh (b + 20) (accF c h pt).2 := by
  have h1 := lostF_wf (h := h) hw
  unfold accF
  split
  · exact (addF_wf (tearF_wf h1) hb (by show 0 + pt.length ≤ 120; omega)).mono (by omega)
  · split
    · exact h1.mono (by omega)
    · split
      · exact (tearF_wf h1).mono (by omega)
      · exact (addF_wf h1 hb (by omega)).mono (by omega)
theorem accF_rg {c : CH} {h : Int} {pt : List Int} : 0 ≤ (accF c h pt).1 ∧ (accF c h pt).1 ≤ 6 := by
  have ha : ∀ y : CH, 0 ≤ (addF y h pt).1 ∧ (addF y h pt).1 ≤ 6 := by
    intro y
    unfold addF endF
    split
    · exact ⟨by show (0 : Int) ≤ 0; decide, by show (0 : Int) ≤ 6; decide⟩
    · split
      · exact ⟨by show (0 : Int) ≤ 6; decide, by show (6 : Int) ≤ 6; decide⟩
      · exact ⟨by show (0 : Int) ≤ 1; decide, by show (1 : Int) ≤ 6; decide⟩
  unfold accF
  split
  · exact ha _
  · split
    · exact ⟨by show (0 : Int) ≤ 5; decide, by show (5 : Int) ≤ 6; decide⟩
    · split
      · exact ⟨by show (0 : Int) ≤ 5; decide, by show (5 : Int) ≤ 6; decide⟩
      · exact ha _
