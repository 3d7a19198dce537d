/-! ===== what every call keeps ===== -/
section KEEP
variable {b b' : Int} {tp bx hd : List Int} {rf : Nat → Int} {il : Int} {ru : RU} {tl : Nat → Int} {s s' : ST} {ps : List ST} {im : Option ST} {Y : SY}
theorem WfS.mono (h : WfS b ru tl s) (hb : b ≤ b') : WfS b' ru tl s := ⟨h.1.mono hb, h.2⟩
theorem WfSy.mono (h : WfSy b Y) (hb : b ≤ b') : WfSy b' Y := by
  obtain ⟨tp, bx, hd, rf, il, ru, tl, s, ps, im⟩ := Y
  obtain ⟨h1, h2, h3, h4, h5, h6, h7, h8, h9⟩ := h
  refine ⟨h1, h2, h3, fun k hk => ⟨(h4 k hk).1, Int.le_trans (h4 k hk).2 hb⟩, h5, h6, h7, h8, fun e => ?_⟩
  obtain ⟨a1, a2, a3, a4, a5⟩ := h9 e
  exact ⟨a1, a2, a3.mono hb, fun x hx => (a4 x hx).mono hb, fun x hx => (a5 x hx).mono hb⟩
theorem WfSy.ref1 (h : WfSy b (tp, bx, hd, rf, il, ru, tl, s, ps, im)) (k : Nat) : WfSy (b + 12000) (tp, bx, hd, rfF rf k, il, ru, tl, s, ps, im) := by
  obtain ⟨h1, h2, h3, h4, h5, h6, h7, h8, h9⟩ := h.mono (b' := b + 12000) (by omega)
  refine ⟨h1, h2, h3, fun j hj => ?_, h5, h6, h7, h8, h9⟩
  have := h.2.2.2.1 j hj
  unfold rfF
  by_cases e : j = k
  · rw [e, up_s]; rw [e] at this; omega
  · rw [up_n e]; omega
theorem kpF_len (h : ps.length ≤ 12) : (kpF ps s).length ≤ 12 := by
  unfold kpF
  rw [List.length_append, List.length_singleton]
  split
  · rw [List.length_drop]; omega
  · omega
theorem WfSy.act {tp' hd' : List Int} (h : WfSy b (tp, bx, hd, rf, 1, ru, tl, s, ps, im)) (hb : b ≤ b') (hs : WfS b' ru tl s') (h1 : tp'.length ≤ 300 ∧ byt tp') (h3 : hd'.length ≤ 120 ∧ byt hd') : WfSy b' (tp', bx, hd', rf, 1, ru, tl, s', kpF ps s, im) := by
  obtain ⟨-, h2, -, h4, h5, h6, h7, h8, h9⟩ := h.mono hb
  obtain ⟨a1, a2, a3, a4, a5⟩ := h9 rfl
  refine ⟨h1, h2, h3, h4, h5, h6, fun e => absurd e (by decide), kpF_len h8, fun _ => ⟨a1, a2, hs, fun x hx => ?_, a5⟩⟩
  unfold kpF at hx
  rcases List.mem_append.mp hx with hx | hx
  · split at hx
    · exact a4 x (List.mem_of_mem_drop hx)
    · exact a4 x hx
  · rw [List.mem_singleton.mp hx]
    exact a3
theorem WfSt.chS {ch k : Nat} {c : CH} (h : WfSt b ch s) (hc : WfCh b c) : WfSt b ch (chS s k c) := by
  obtain ⟨h1, h2, h3, h4, h5, h6, h7, h8, h9, h10, h11⟩ := h
  refine ⟨h1, h2, h3, h4, h5, h6, h7, h8, h9, h10, fun j hj => ?_⟩
  show WfCh b (up s.2.2.2.2 k c j)
  by_cases e : j = k
  · rw [e, up_s]; exact hc
  · rw [up_n e]; exact h11 j hj
theorem k_feed (h : WfSy b Y) (a1 a2 a3 a4 a5 : Int) : WfSy (b + 12000) (oFeed Y a1 a2 a3 a4 a5).2 := by
  obtain ⟨tp, S⟩ := Y
  unfold oFeed
  dsimp only
  split
  · exact h.mono (by omega)
  · obtain ⟨bx, hd, rf, il, ru, tl, s, ps, im⟩ := S
    obtain ⟨h1, h2⟩ := h.mono (b' := b + 12000) (by omega)
    refine ⟨⟨?_, ?_⟩, h2⟩
    · rw [List.length_append, List.length_append, List.length_append, List.length_append, List.length_append]
      have l4 : ∀ v, (fouF v).length = 4 := fun v => rfl
      rw [l4, l4, l4, l4, l4]
      omega
    · exact byt_append.mpr ⟨byt_append.mpr ⟨byt_append.mpr ⟨byt_append.mpr ⟨byt_append.mpr ⟨h1.2, fouF_byt _⟩, fouF_byt _⟩, fouF_byt _⟩, fouF_byt _⟩, fouF_byt _⟩
theorem k_end (h : WfSy b Y) (n : Int) : WfSy (b + 12000) (oEnd Y n).2 := by
  obtain ⟨tp, S⟩ := Y
  unfold oEnd
  dsimp only
  split
  · obtain ⟨bx, hd, rf, il, ru, tl, s, ps, im⟩ := S
    obtain ⟨h1, h2⟩ := h.mono (b' := b + 12000) (by omega)
    exact ⟨⟨by rw [List.length_take]; omega, byt_take h1.2 _⟩, h2⟩
  · exact h.mono (by omega)
theorem k_flip (h : WfSy b Y) (i v : Int) : WfSy (b + 12000) (oFlip Y i v).2 := by
  obtain ⟨tp, bx, hd, rf, il, ru, tl, s, ps, im⟩ := Y
  unfold oFlip
  dsimp only
  split
  · exact h.ref1 0
  split
  · exact h.ref1 1
  split
  · exact h.ref1 2
  have hil : il = 1 := by omega
  subst hil
  have h9 := (h.2.2.2.2.2.2.2.2 rfl).2.2.1
  have hf := flpL_ok (i := i.toNat) (v := v) h9.1.2.1 (by omega)
  exact h.act (by omega) (WfS.mono (b := b) ⟨h9.1.wire hf.1 (by rw [hf.2]; exact h9.1.1), h9.2⟩ (by omega)) h.1 h.2.2.1
theorem k_lose (h : WfSy b Y) (i : Int) : WfSy (b + 12000) (oLose Y i).2 := by
  obtain ⟨tp, bx, hd, rf, il, ru, tl, s, ps, im⟩ := Y
  unfold oLose
  dsimp only
  split
  · exact h.ref1 0
  split
  · exact h.ref1 1
  have hil : il = 1 := by omega
  subst hil
  have h9 := (h.2.2.2.2.2.2.2.2 rfl).2.2.1
  have h600 := h9.1.1
  have hf := losL_ok (i := i.toNat) h9.1.2.1 (by omega)
  exact h.act (by omega) (WfS.mono (b := b) ⟨h9.1.wire hf.1 (by rw [hf.2]; omega), h9.2⟩ (by omega)) h.1 h.2.2.1
theorem k_insert (h : WfSy b Y) (i v : Int) : WfSy (b + 12000) (oInsert Y i v).2 := by
  obtain ⟨tp, bx, hd, rf, il, ru, tl, s, ps, im⟩ := Y
  unfold oInsert
  dsimp only
  split
  · exact h.ref1 0
  split
  · exact h.ref1 1
  split
  · exact h.ref1 2
  split
  · exact h.ref1 3
  have hil : il = 1 := by omega
  subst hil
  have h9 := (h.2.2.2.2.2.2.2.2 rfl).2.2.1
  have h600 := h9.1.1
  have hf := insL_ok (i := i.toNat) (v := v) h9.1.2.1 (by omega) (by omega)
  exact h.act (by omega) (WfS.mono (b := b) ⟨h9.1.wire hf.1 (by rw [hf.2]; omega), h9.2⟩ (by omega)) h.1 h.2.2.1
theorem k_noise (h : WfSy b Y) (n : Int) (D : Int64) : WfSy (b + 12000) (oNoise Y n D).2 := by
  obtain ⟨tp, bx, hd, rf, il, ru, tl, s, ps, im⟩ := Y
  unfold oNoise
  dsimp only
  split
  · exact h.ref1 0
  split
  · exact h.ref1 2
  split
  · exact h.mono (by omega)
  have hil : il = 1 := by omega
  subst hil
  have h9 := (h.2.2.2.2.2.2.2.2 rfl).2.2.1
  have hf := noiN_ok n.toNat D s.1 h9.1.2.1 h9.1.1
  exact h.act (by omega) (WfS.mono (b := b) ⟨h9.1.wire hf.2.2.1 hf.2.2.2, h9.2⟩ (by omega)) h.1 h.2.2.1
theorem k_read (h : WfSy b Y) (n : Int) : WfSy (b + 12000) (oRead Y n).2 := by
  obtain ⟨tp, bx, hd, rf, il, ru, tl, s, ps, im⟩ := Y
  unfold oRead
  dsimp only
  split
  · exact h.ref1 0
  split
  · exact h.ref1 2
  split
  · exact h.mono (by omega)
  have hil : il = 1 := by omega
  subst hil
  obtain ⟨wr, wtl, h9, -⟩ := h.2.2.2.2.2.2.2.2 rfl
  refine h.act (by omega) ⟨readF_wf h9.1 wr rfl, fun c hc => ?_⟩ h.1 h.2.2.1
  have hcr : ∀ (l : List Int) (s2 : ST), ((l.foldl (byteF ru) s2).2.2.2.2 c).1 0 = (s2.2.2.2.2 c).1 0 := by
    intro l
    induction l with
    | nil => intro s2; rfl
    | cons x t ih => intro s2; rw [List.foldl_cons, ih, byteF_cr]
  show (((s.1.take (min n.toNat s.1.length)).foldl (byteF ru) s).2.2.2.2 c).1 0 ≤ tl c
  rw [hcr]
  exact h9.2 c hc
theorem k_put (h : WfSy b Y) (n : Int) : WfSy (b + 12000) (oPut Y n).2 := by
  obtain ⟨tp, bx, hd, rf, il, ru, tl, s, ps, im⟩ := Y
  unfold oPut
  dsimp only
  split
  · exact h.ref1 0
  split
  · exact h.ref1 2
  split
  · exact h.mono (by omega)
  have hil : il = 1 := by omega
  subst hil
  obtain ⟨wr, wtl, h9, -⟩ := h.2.2.2.2.2.2.2.2 rfl
  refine h.act (by omega) ⟨((putN_ok wr rfl n.toNat s h9.1).1).mono (by omega), fun c hc => ?_⟩ h.1 h.2.2.1
  have key : ∀ (k : Nat) (s2 : ST), ((putN ru k s2).2.2.2.2.2 c).1 0 ≤ (s2.2.2.2.2 c).1 0 := by
    intro k
    induction k with
    | zero => intro s2; exact Int.le_refl _
    | succ k ih =>
      intro s2
      by_cases hcan : canF ru s2
      · rw [putN_y hcan]
        refine Int.le_trans (ih (putF ru s2)) ?_
        show (up s2.2.2.2.2 (pickF s2 (ru 5).toNat).toNat (wasF ru (s2.2.2.2.2 (pickF s2 (ru 5).toNat).toNat)) c).1 0 ≤ _
        by_cases e : c = (pickF s2 (ru 5).toNat).toNat
        · rw [e, up_s, wasF_cr]; omega
        · rw [up_n e]; exact Int.le_refl _
      · rw [putN_n hcan]; exact Int.le_refl _
  exact Int.le_trans (key n.toNat s) (h9.2 c hc)
theorem k_send (h : WfSy b Y) (z : Int) : WfSy (b + 12000) (oSend Y z).2 := by
  obtain ⟨tp, bx, hd, rf, il, ru, tl, s, ps, im⟩ := Y
  unfold oSend
  dsimp only
  split
  · exact h.ref1 0
  split
  · exact h.ref1 1
  split
  · exact h.ref1 2
  split
  · exact h.ref1 3
  have hil : il = 1 := by omega
  subst hil
  obtain ⟨wr, wtl, h9, -⟩ := h.2.2.2.2.2.2.2.2 rfl
  have w5 := wr.2.2.2.2.2
  have hk : z.toNat < (ru 5).toNat := by omega
  obtain ⟨c1, c2, c3, c4, c5, c6, c7, c8, c9, c10, c11⟩ := h9.1.2.2.2.2.2.2.2.2.2.2 z.toNat hk
  refine h.act (b' := b + 12000) (by omega) (WfS.mono (b := b) ⟨h9.1.chS ⟨c1, ⟨c2.1, ?_⟩, c3, c4, c5, c6, c7, c8, ?_, ?_, c11⟩, fun c hc => ?_⟩ (by omega)) ⟨by show 0 ≤ 300; omega, byt_nil⟩ h.2.2.1
  · show (s.2.2.2.2 z.toNat).1 1 ≤ ((((s.2.2.2.2 z.toNat).2.1 ++ [tp]).headD []).length : Int)
    cases e : (s.2.2.2.2 z.toNat).2.1 with
    | nil =>
      rw [e] at c2
      have h2 : (s.2.2.2.2 z.toNat).1 1 ≤ ((([] : List (List Int)).headD []).length : Int) := c2.2
      have h3 : ((([] : List (List Int)).headD []).length : Int) = 0 := rfl
      have h4 : (0 : Int) ≤ ((([] ++ [tp] : List (List Int)).headD []).length : Int) := Int.natCast_nonneg _
      omega
    | cons a t =>
      rw [e] at c2
      exact c2.2
  · show ((s.2.2.2.2 z.toNat).2.1 ++ [tp]).length ≤ 8
    rw [List.length_append, List.length_singleton]
    omega
  · intro w hw
    rcases List.mem_append.mp hw with hw | hw
    · exact c10 w hw
    · rw [List.mem_singleton.mp hw]
      exact ⟨by omega, h.1.2⟩
  · show (up s.2.2.2.2 z.toNat _ c).1 0 ≤ tl c
    by_cases e : c = z.toNat
    · rw [e, up_s]; exact h9.2 _ hk
    · rw [up_n e]; exact h9.2 c hc
theorem k_take (h : WfSy b Y) (z : Int) : WfSy (b + 12000) (oTake Y z).2 := by
  obtain ⟨tp, bx, hd, rf, il, ru, tl, s, ps, im⟩ := Y
  unfold oTake
  dsimp only
  split
  · exact h.ref1 0
  split
  · exact h.ref1 1
  have hil : il = 1 := by omega
  subst hil
  obtain ⟨wr, wtl, h9, -⟩ := h.2.2.2.2.2.2.2.2 rfl
  have w5 := wr.2.2.2.2.2
  have hk : z.toNat < (ru 5).toNat := by omega
  obtain ⟨c1, c2, c3, c4, c5, c6, c7, c8, c9, c10, c11, c12, c13⟩ := h9.1.2.2.2.2.2.2.2.2.2.2 z.toNat hk
  have hl : 0 < (s.2.2.2.2 z.toNat).2.2.1.length := by omega
  have hm := c12 _ (getD_mem (x := ([], 0)) hl)
  generalize (s.2.2.2.2 z.toNat).2.2.1.getD 0 ([], 0) = ms at *
  have ht := wtl z.toNat hk
  refine h.act (b' := b + 12000) (by omega) ⟨(h9.1.mono (b' := b + 12000) (by omega)).chS ⟨?_, ?_, ?_, ?_, ?_, ?_, ?_, ?_, c9, c10, ?_, fun w hw => ?_, c13.1, c13.2.1, ?_⟩, fun c hc => ?_⟩ h.1 ⟨hm.1, hm.2.1⟩
  · show 0 ≤ up (up (s.2.2.2.2 z.toNat).1 0 (min (tl z.toNat) ((s.2.2.2.2 z.toNat).1 0 + ms.2))) 7 ((s.2.2.2.2 z.toNat).1 7 + 1) 0 ∧ up (up (s.2.2.2.2 z.toNat).1 0 (min (tl z.toNat) ((s.2.2.2.2 z.toNat).1 0 + ms.2))) 7 ((s.2.2.2.2 z.toNat).1 7 + 1) 0 ≤ 8
    rw [up_n (by decide), up_s]
    omega
  · show 0 ≤ up (up (s.2.2.2.2 z.toNat).1 0 (min (tl z.toNat) ((s.2.2.2.2 z.toNat).1 0 + ms.2))) 7 ((s.2.2.2.2 z.toNat).1 7 + 1) 1 ∧ up (up (s.2.2.2.2 z.toNat).1 0 (min (tl z.toNat) ((s.2.2.2.2 z.toNat).1 0 + ms.2))) 7 ((s.2.2.2.2 z.toNat).1 7 + 1) 1 ≤ _
    rw [up_n (by decide), up_n (by decide)]
    exact c2
  · show 0 ≤ up (up (s.2.2.2.2 z.toNat).1 0 (min (tl z.toNat) ((s.2.2.2.2 z.toNat).1 0 + ms.2))) 7 ((s.2.2.2.2 z.toNat).1 7 + 1) 2 ∧ up (up (s.2.2.2.2 z.toNat).1 0 (min (tl z.toNat) ((s.2.2.2.2 z.toNat).1 0 + ms.2))) 7 ((s.2.2.2.2 z.toNat).1 7 + 1) 2 ≤ 15
    rw [up_n (by decide), up_n (by decide)]
    exact c3
  · show 0 ≤ up (up (s.2.2.2.2 z.toNat).1 0 (min (tl z.toNat) ((s.2.2.2.2 z.toNat).1 0 + ms.2))) 7 ((s.2.2.2.2 z.toNat).1 7 + 1) 3 ∧ up (up (s.2.2.2.2 z.toNat).1 0 (min (tl z.toNat) ((s.2.2.2.2 z.toNat).1 0 + ms.2))) 7 ((s.2.2.2.2 z.toNat).1 7 + 1) 3 ≤ 15
    rw [up_n (by decide), up_n (by decide)]
    exact c4
  · show 0 ≤ up (up (s.2.2.2.2 z.toNat).1 0 (min (tl z.toNat) ((s.2.2.2.2 z.toNat).1 0 + ms.2))) 7 ((s.2.2.2.2 z.toNat).1 7 + 1) 4 ∧ up (up (s.2.2.2.2 z.toNat).1 0 (min (tl z.toNat) ((s.2.2.2.2 z.toNat).1 0 + ms.2))) 7 ((s.2.2.2.2 z.toNat).1 7 + 1) 4 ≤ b + 12000
    rw [up_n (by decide), up_n (by decide)]
    omega
  · show 0 ≤ up (up (s.2.2.2.2 z.toNat).1 0 (min (tl z.toNat) ((s.2.2.2.2 z.toNat).1 0 + ms.2))) 7 ((s.2.2.2.2 z.toNat).1 7 + 1) 5 ∧ up (up (s.2.2.2.2 z.toNat).1 0 (min (tl z.toNat) ((s.2.2.2.2 z.toNat).1 0 + ms.2))) 7 ((s.2.2.2.2 z.toNat).1 7 + 1) 5 ≤ b + 12000
    rw [up_n (by decide), up_n (by decide)]
    omega
  · show 0 ≤ up (up (s.2.2.2.2 z.toNat).1 0 (min (tl z.toNat) ((s.2.2.2.2 z.toNat).1 0 + ms.2))) 7 ((s.2.2.2.2 z.toNat).1 7 + 1) 6 ∧ up (up (s.2.2.2.2 z.toNat).1 0 (min (tl z.toNat) ((s.2.2.2.2 z.toNat).1 0 + ms.2))) 7 ((s.2.2.2.2 z.toNat).1 7 + 1) 6 ≤ b + 12000
    rw [up_n (by decide), up_n (by decide)]
    omega
  · show 0 ≤ up (up (s.2.2.2.2 z.toNat).1 0 (min (tl z.toNat) ((s.2.2.2.2 z.toNat).1 0 + ms.2))) 7 ((s.2.2.2.2 z.toNat).1 7 + 1) 7 ∧ up (up (s.2.2.2.2 z.toNat).1 0 (min (tl z.toNat) ((s.2.2.2.2 z.toNat).1 0 + ms.2))) 7 ((s.2.2.2.2 z.toNat).1 7 + 1) 7 ≤ b + 12000
    rw [up_s]
    omega
  · show ((s.2.2.2.2 z.toNat).2.2.1.drop 1).length ≤ 8
    rw [List.length_drop]
    omega
  · have := c12 w (List.mem_of_mem_drop hw)
    exact ⟨this.1, this.2.1, this.2.2.1, by omega⟩
  · intro e6
    have e6 : up (up (s.2.2.2.2 z.toNat).1 0 (min (tl z.toNat) ((s.2.2.2.2 z.toNat).1 0 + ms.2))) 7 ((s.2.2.2.2 z.toNat).1 7 + 1) 6 = 0 := e6
    rw [up_n (by decide), up_n (by decide)] at e6
    exact c13.2.2 e6
  · show (up s.2.2.2.2 z.toNat _ c).1 0 ≤ tl c
    by_cases e : c = z.toNat
    · rw [e, up_s]
      show up (up (s.2.2.2.2 z.toNat).1 0 (min (tl z.toNat) ((s.2.2.2.2 z.toNat).1 0 + ms.2))) 7 ((s.2.2.2.2 z.toNat).1 7 + 1) 0 ≤ tl z.toNat
      rw [up_n (by decide), up_s]
      omega
    · rw [up_n e]; exact h9.2 c hc
theorem k_renew (h : WfSy b Y) (z : Int) : WfSy (b + 12000) (oRenew Y z).2 := by
  obtain ⟨tp, bx, hd, rf, il, ru, tl, s, ps, im⟩ := Y
  unfold oRenew
  dsimp only
  split
  · exact h.ref1 0
  split
  · exact h.ref1 1
  split
  · exact h.ref1 2
  have hil : il = 1 := by omega
  subst hil
  obtain ⟨wr, wtl, h9, -⟩ := h.2.2.2.2.2.2.2.2 rfl
  have w5 := wr.2.2.2.2.2
  have hk : z.toNat < (ru 5).toNat := by omega
  obtain ⟨c1, c2, c3, c4, c5, c6, c7, c8, c9⟩ := h9.1.2.2.2.2.2.2.2.2.2.2 z.toNat hk
  have ht := wtl z.toNat hk
  refine h.act (b' := b + 12000) (by omega) (WfS.mono (b := b) ⟨h9.1.chS ⟨?_, c2, c3, c4, c5, c6, c7, c8, c9⟩, fun c hc => ?_⟩ (by omega)) h.1 h.2.2.1
  · show 0 ≤ up (s.2.2.2.2 z.toNat).1 0 (tl z.toNat) 0 ∧ up (s.2.2.2.2 z.toNat).1 0 (tl z.toNat) 0 ≤ 8
    rw [up_s]
    omega
  · show (up s.2.2.2.2 z.toNat _ c).1 0 ≤ tl c
    by_cases e : c = z.toNat
    · rw [e, up_s]
      show up (s.2.2.2.2 z.toNat).1 0 _ 0 ≤ tl z.toNat
      rw [up_s]
      exact Int.le_refl _
    · rw [up_n e]; exact h9.2 c hc
theorem k_undo (h : WfSy b Y) : WfSy (b + 12000) (oUndo Y).2 := by
  obtain ⟨tp, bx, hd, rf, il, ru, tl, s, ps, im⟩ := Y
  unfold oUndo
  dsimp only
  split
  · exact h.mono (by omega)
  obtain ⟨h1, h2, h3, h4, h5, h6, h7, h8, h9⟩ := h.mono (b' := b + 12000) (by omega)
  have hil : il = 1 := by
    rcases h5 with e | e
    · have hq := (h7 e).2.1
      have : ps.length = 0 := by rw [hq]; rfl
      exact absurd this (by assumption)
    · exact e
  subst hil
  obtain ⟨a1, a2, a3, a4, a5⟩ := h9 rfl
  refine ⟨h1, h2, h3, h4, h5, h6, fun e => absurd e (by decide), by rw [List.length_dropLast]; omega, fun _ => ⟨a1, a2, a4 _ (getD_mem (by omega)), fun x hx => a4 x ((List.dropLast_sublist ps).subset hx), a5⟩⟩
theorem k_image (h : WfSy b Y) : WfSy (b + 12000) (oImage Y).2 := by
  obtain ⟨tp, bx, hd, rf, il, ru, tl, s, ps, im⟩ := Y
  unfold oImage
  dsimp only
  split
  · exact h.mono (by omega)
  have hil : il = 1 := by omega
  subst hil
  obtain ⟨h1, h2, h3, h4, h5, h6, h7, h8, h9⟩ := h.mono (b' := b + 12000) (by omega)
  obtain ⟨a1, a2, a3, a4, a5⟩ := h9 rfl
  exact ⟨h1, h2, h3, h4, h5, h6, fun e => absurd e (by decide), h8, fun _ => ⟨a1, a2, a3, a4, fun x hx => by cases hx; exact a3⟩⟩
theorem k_back (h : WfSy b Y) : WfSy (b + 12000) (oBack Y).2 := by
  obtain ⟨tp, bx, hd, rf, il, ru, tl, s, ps, im⟩ := Y
  cases im with
  | none => exact h.mono (by omega)
  | some x =>
    obtain ⟨h1, h2, h3, h4, h5, h6, h7, h8, h9⟩ := h.mono (b' := b + 12000) (by omega)
    have hil : il = 1 := by
      rcases h5 with e | e
      · have := (h7 e).2.2.1
        cases this
      · exact e
    subst hil
    obtain ⟨a1, a2, a3, a4, a5⟩ := h9 rfl
    exact ⟨h1, h2, h3, h4, h5, h6, fun e => absurd (show (1 : Int) = 0 from e) (by decide), Nat.zero_le _, fun _ => ⟨a1, a2, a5 x rfl, fun y hy => absurd hy List.not_mem_nil, a5⟩⟩
theorem k_stuff (h : WfSy b Y) (w : Int) : WfSy (b + 12000) (oStuff Y w).2 := by
  obtain ⟨tp, bx, hd, rf, il, ru, tl, s, ps, im⟩ := Y
  unfold oStuff
  dsimp only
  split
  · obtain ⟨h1, h2, h3⟩ := h.mono (b' := b + 12000) (by omega)
    obtain ⟨w1, w2⟩ := h3.2.2.2.1
    have hl := stuffF_len (L := (ru 1).toNat) (Z := (ru 2).toNat) (way := w) (bs := tp) (by omega)
    exact ⟨⟨by show 0 ≤ 300; omega, byt_nil⟩, ⟨by omega, (stuffF_ok h1.2 (by omega) (by omega)).1⟩, h3⟩
  · exact h.mono (by omega)
theorem k_unstuff (h : WfSy b Y) (w : Int) : WfSy (b + 12000) (oUnstuff Y w).2 := by
  obtain ⟨tp, bx, hd, rf, il, ru, tl, s, ps, im⟩ := Y
  unfold oUnstuff
  dsimp only
  split
  · split
    · obtain ⟨h1, h2, h3⟩ := h.mono (b' := b + 12000) (by omega)
      have hu := unF_byt (L := (ru 1).toNat) (Z := (ru 2).toNat) (way := w) h1.2
      exact ⟨⟨by show 0 ≤ 300; omega, byt_nil⟩, ⟨by omega, hu.1⟩, h3⟩
    · exact h.mono (by omega)
  · exact h.mono (by omega)
end KEEP
