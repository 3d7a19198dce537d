/-! ===== stuffed bytes are bytes; which channel is picked ===== -/
theorem stl_ok {L Z : Nat} {pw : Bool} {bs : List Int} (hb : byt bs) (hL : 1 ≤ L ∧ L ≤ 60) (hZ : Z ≤ 60) : ∀ (f : Nat) (out : List Int) (lc p : Nat), byt out → out.length ≤ 2 * p → p ≤ bs.length → bs.length < p + f → byt (stl L Z pw bs f out lc p).1 ∧ (stl L Z pw bs f out lc p).1.length ≤ 2 * bs.length + 1 ∧ (stl L Z pw bs f out lc p).2 < (stl L Z pw bs f out lc p).1.length := by
  intro f
  induction f with
  | zero => intro out lc p h1 h2 h3 h4; omega
  | succ f ih =>
    intro out lc p h1 h2 h3 h4
    generalize hr : rln L (bs.drop p) = r
    have hr1 : r ≤ L := by rw [← hr]; exact rln_le _ _
    have hr2 : p + r ≤ bs.length := by have := rln_len L (bs.drop p); rw [hr, List.length_drop] at this; omega
    have htk : ((bs.drop p).take r).length = r := len_take_drop (by omega)
    have step : ∀ (cd : Int) (q : Nat), 0 ≤ cd ∧ cd ≤ 255 → p + r < q ∨ (p + r = q ∧ 1 ≤ r) → (byt (out ++ cd :: (bs.drop p).take r) ∧ (out ++ cd :: (bs.drop p).take r).length ≤ 2 * bs.length + 1 ∧ out.length < (out ++ cd :: (bs.drop p).take r).length) ∧ (out ++ cd :: (bs.drop p).take r).length ≤ 2 * q := by
      intro cd q hcd hq
      rw [List.length_append, List.length_cons, htk]
      exact ⟨⟨byt_append.mpr ⟨h1, byt_cons.mpr ⟨hcd, byt_take (byt_drop hb _) _⟩⟩, by omega, by omega⟩, by omega⟩
    by_cases g1 : r = L
    · subst g1
      rw [stl_L hr]
      obtain ⟨s1, s2⟩ := step ((r : Int) + 1) (p + r) (by omega) (by omega)
      split
      · exact ih _ _ _ s1.1 s2 (by omega) (by omega)
      · exact s1
    by_cases g2 : pw = true ∧ r < Z ∧ p + r + 1 < bs.length ∧ bs.getD (p + r) 0 = 0 ∧ bs.getD (p + r + 1) 0 = 0
    · rw [stl_P hr g1 g2]
      obtain ⟨s1, s2⟩ := step ((L : Int) + 2 + (r : Int)) (p + r + 2) (by omega) (by omega)
      split
      · exact ih _ _ _ s1.1 s2 (by omega) (by omega)
      · exact s1
    · rw [stl_0 hr g1 g2]
      obtain ⟨s1, s2⟩ := step ((r : Int) + 1) (p + r + 1) (by omega) (by omega)
      split
      · exact ih _ _ _ s1.1 s2 (by omega) (by omega)
      · exact s1
theorem stuffF_ok {L Z : Nat} {way : Int} {bs : List Int} (hb : byt bs) (hL : 1 ≤ L ∧ L ≤ 60) (hZ : Z ≤ 60) : byt (stuffF L Z way bs) ∧ (stuffF L Z way bs).length ≤ 2 * bs.length + 1 := by
  have h := stl_ok (pw := decide (way = 1)) hb hL hZ (bs.length + 1) [] 0 0 byt_nil (by simp) (by omega) (by omega)
  unfold stuffF
  generalize stl L Z (decide (way = 1)) bs (bs.length + 1) [] 0 0 = o at h
  split
  · unfold rdc
    split
    · refine ⟨fun x hx => ?_, ?_⟩
      · rw [List.dropLast_eq_take] at hx
        rcases List.mem_or_eq_of_mem_set (List.mem_of_mem_take hx) with h9 | h9
        · exact h.1 x h9
        · rw [h9]; exact byt_at h.1 _
      · rw [List.length_dropLast, List.length_set]; omega
    · exact ⟨h.1, h.2.1⟩
  · exact ⟨h.1, h.2.1⟩
theorem pickL_ok {s : ST} {ch : Nat} (hp : -1 ≤ s.2.2.1 1) (hch : 0 < ch) : ∀ (m k : Nat) (best : Int), 0 ≤ s.2.2.1 1 + k → (best = -1 ∨ (0 ≤ best ∧ best < ch ∧ 0 < (s.2.2.2.2 best.toNat).2.1.length ∧ 0 < (s.2.2.2.2 best.toNat).1 0)) → pickL s ch m k best = -1 ∨ (0 ≤ pickL s ch m k best ∧ pickL s ch m k best < ch ∧ 0 < (s.2.2.2.2 (pickL s ch m k best).toNat).2.1.length ∧ 0 < (s.2.2.2.2 (pickL s ch m k best).toNat).1 0) := by
  intro m
  induction m with
  | zero => intro k best _ h; exact h
  | succ m ih =>
    intro k best hk h
    refine ih (k + 1) _ (by omega) ?_
    split
    · rename_i hc
      have h1 : 0 ≤ (s.2.2.1 1 + k + ch) % ch := Int.emod_nonneg _ (by omega)
      have h2 : (s.2.2.1 1 + k + ch) % ch < ch := Int.emod_lt_of_pos _ (by omega)
      exact Or.inr ⟨h1, h2, hc.1, hc.2.1⟩
    · exact h
theorem pickF_ok {s : ST} {ch : Nat} (hp : -1 ≤ s.2.2.1 1) (hch : 0 < ch) : pickF s ch = -1 ∨ (0 ≤ pickF s ch ∧ pickF s ch < ch ∧ 0 < (s.2.2.2.2 (pickF s ch).toNat).2.1.length ∧ 0 < (s.2.2.2.2 (pickF s ch).toNat).1 0) := pickL_ok hp hch ch 1 (-1) (by omega) (Or.inl rfl)
theorem prtF_len (ru : RU) (c : CH) : (prtF ru c).length = min (ru 4).toNat ((c.2.1.headD []).length - (c.1 1).toNat) := by
  unfold prtF
  rw [List.length_take, List.length_drop]
theorem headD_mem {l : List (List Int)} (h : 0 < l.length) : l.headD [] ∈ l := by
  cases l with
  | nil => simp at h
  | cons a t => exact List.mem_cons_self
theorem plnF_ok {ru : RU} {b : Int} {c : CH} {k : Int} (hw : WfCh b c) (hwr : WfRu ru) (hk : 0 ≤ k ∧ k ≤ 3) (hl : 0 < c.2.1.length) : byt (plnF ru k c) ∧ (plnF ru k c).length ≤ 62 ∧ (0 ≤ hdF ru k c ∧ hdF ru k c ≤ 255) ∧ byt (prtF ru c) ∧ (prtF ru c).length ≤ 60 := by
  obtain ⟨w0, w1, w2, w3, w4, w5, w6, w7, w8, w9, w10, w11, w12, w13, w14⟩ := hw
  obtain ⟨q0, q1, q2, q3, q4, q5⟩ := hwr
  have hh : 0 ≤ hdF ru k c ∧ hdF ru k c ≤ 255 := by unfold hdF; split <;> split <;> omega
  have hp : byt (prtF ru c) := byt_take (byt_drop (w9 _ (headD_mem hl)).2 _) _
  have hpl : (prtF ru c).length ≤ 60 := by rw [prtF_len]; omega
  refine ⟨?_, ?_, hh, hp, hpl⟩
  · unfold plnF
    refine byt_append.mpr ⟨byt_cons.mpr ⟨hh, hp⟩, ?_⟩
    split
    · exact byt_nil
    · exact byt_cons.mpr ⟨chkF_rg (byt_cons.mpr ⟨hh, hp⟩), byt_nil⟩
  · unfold plnF
    rw [List.length_append, List.length_cons]
    split <;> simp <;> omega
theorem frmF_ok {ru : RU} {b : Int} {c : CH} {k : Int} (hw : WfCh b c) (hwr : WfRu ru) (hk : 0 ≤ k ∧ k ≤ 3) (hl : 0 < c.2.1.length) : byt (frmF ru k c) ∧ (frmF ru k c).length ≤ 125 := by
  obtain ⟨h1, h2, -⟩ := plnF_ok hw hwr hk hl
  obtain ⟨q0, q1, q2, q3, q4, q5⟩ := hwr
  have h := stuffF_ok (L := (ru 1).toNat) (Z := (ru 2).toNat) (way := ru 0) h1 (by omega) (by omega)
  exact ⟨h.1, by unfold frmF; omega⟩
theorem wasF_wf {ru : RU} {b : Int} {c : CH} (hw : WfCh b c) (hwr : WfRu ru) (hl : 0 < c.2.1.length) (hc : 0 < c.1 0) : WfCh b (wasF ru c) := by
  obtain ⟨w0, w1, w2, w3, w4, w5, w6, w7, w8, w9, w10, w11, w12, w13, w14⟩ := hw
  have hn := prtF_len ru c
  unfold wasF
  split
  · refine ⟨by show 0 ≤ c.1 0 - 1 ∧ c.1 0 - 1 ≤ 8; omega, ⟨by show (0 : Int) ≤ 0; omega, by show (0 : Int) ≤ _; omega⟩, by show 0 ≤ (c.1 2 + 1) % 16 ∧ (c.1 2 + 1) % 16 ≤ 15; omega, w3, w4, w5, w6, w7, ?_, fun w hw => w9 w (List.mem_of_mem_drop hw), w10, w11, w12, w13, w14⟩
    show (c.2.1.drop 1).length ≤ 8
    rw [List.length_drop]
    omega
  · exact ⟨by show 0 ≤ c.1 0 - 1 ∧ c.1 0 - 1 ≤ 8; omega, ⟨by show 0 ≤ c.1 1 + ((prtF ru c).length : Int); omega, by show c.1 1 + ((prtF ru c).length : Int) ≤ ((c.2.1.headD []).length : Int); omega⟩, by show 0 ≤ (c.1 2 + 1) % 16 ∧ (c.1 2 + 1) % 16 ≤ 15; omega, w3, w4, w5, w6, w7, w8, w9, w10, w11, w12, w13, w14⟩
theorem putF_wf {ru : RU} {b : Int} {ch : Nat} {s : ST} (hw : WfSt b ch s) (hwr : WfRu ru) (hch : ch = (ru 5).toNat) (hc : canF ru s) : WfSt b ch (putF ru s) := by
  obtain ⟨w0, w1, w2, w3, w4, w5, w6, w7, w8, w9, w10⟩ := hw
  have hq5 := hwr.2.2.2.2.2
  unfold canF at hc
  unfold putF
  rw [← hch] at hc ⊢
  rcases pickF_ok (s := s) (ch := ch) w6.1 (by omega) with h | ⟨h1, h2, h3, h4⟩
  · exact absurd h hc.1
  have hwp := w10 _ (show (pickF s ch).toNat < ch by omega)
  have hf := frmF_ok (k := pickF s ch) hwp hwr (by omega) h3
  refine ⟨?_, ?_, w2, w3, w4, w5, by show -1 ≤ pickF s ch ∧ pickF s ch < ch; omega, w7, w8, w9, fun c hc2 => ?_⟩
  · show (s.1 ++ frmF ru (pickF s ch) (s.2.2.2.2 (pickF s ch).toNat) ++ [0]).length ≤ 600
    rw [List.length_append, List.length_append, List.length_singleton]
    exact hc.2
  · exact byt_append.mpr ⟨byt_append.mpr ⟨w1, hf.1⟩, byt_cons.mpr ⟨by omega, byt_nil⟩⟩
  · show WfCh b (up s.2.2.2.2 (pickF s ch).toNat _ c)
    by_cases e : c = (pickF s ch).toNat
    · subst e
      rw [up_s]
      exact wasF_wf hwp hwr h3 h4
    · rw [up_n e]
      exact w10 c hc2
