/-! ===== what a frame is; a state keeps to its bounds ===== -/
theorem judge_cases {ru : RU} {bs : List Int} (hb : byt bs) : judge ru bs = (2, []) ∨ judge ru bs = (3, []) ∨ (∃ pl, judge ru bs = ((if ru 5 ≤ pl.getD 0 0 / 64 ∨ ru 4 < pl.length - 1 - ckl (ru 3) then 4 else 0), pl) ∧ byt pl ∧ pl.length ≤ 2 * bs.length ∧ 1 + ckl (ru 3) ≤ pl.length) := by
  have hu := unF_byt (L := (ru 1).toNat) (Z := (ru 2).toNat) (way := ru 0) hb
  by_cases h : (unF (ru 1).toNat (ru 2).toNat (ru 0) bs).1 = -1
  · by_cases h2 : (unF (ru 1).toNat (ru 2).toNat (ru 0) bs).2.length < 1 + ckl (ru 3) ∨ (ru 3 ≠ 0 ∧ chkF (ru 3) ((unF (ru 1).toNat (ru 2).toNat (ru 0) bs).2.take ((unF (ru 1).toNat (ru 2).toNat (ru 0) bs).2.length - 1)) ≠ (unF (ru 1).toNat (ru 2).toNat (ru 0) bs).2.getD ((unF (ru 1).toNat (ru 2).toNat (ru 0) bs).2.length - 1) 0)
    · exact Or.inr (Or.inl (judge_3 h rfl h2))
    · exact Or.inr (Or.inr ⟨_, judge_ok h rfl h2, hu.1, hu.2, Nat.not_lt.mp fun g => h2 (Or.inl g)⟩)
  · exact Or.inl (judge_2 h)
/-- a frame that is told: its bytes -/
theorem judge_told {ru : RU} {bs : List Int} (hb : byt bs) (h2 : (judge ru bs).1 ≠ 2) (h3 : (judge ru bs).1 ≠ 3) : byt (judge ru bs).2 ∧ (judge ru bs).2.length ≤ 2 * bs.length ∧ 1 + ckl (ru 3) ≤ (judge ru bs).2.length ∧ ((judge ru bs).1 = 0 ∨ (judge ru bs).1 = 4) ∧ ((judge ru bs).1 = 0 → (judge ru bs).2.getD 0 0 / 64 < ru 5 ∧ ((judge ru bs).2.length : Int) - 1 - (ckl (ru 3) : Nat) ≤ ru 4) := by
  rcases judge_cases (ru := ru) hb with e | e | ⟨pl, e, q1, q2, q3⟩
  · rw [e] at h2; exact absurd rfl h2
  · rw [e] at h3; exact absurd rfl h3
  · rw [e]
    refine ⟨q1, q2, q3, ?_, fun g => ?_⟩
    · show (if _ then (4 : Int) else 0) = 0 ∨ (if _ then (4 : Int) else 0) = 4
      split
      · exact Or.inr rfl
      · exact Or.inl rfl
    · have g : (if ru 5 ≤ pl.getD 0 0 / 64 ∨ ru 4 < (pl.length : Int) - 1 - (ckl (ru 3) : Nat) then (4 : Int) else 0) = 0 := g
      split at g
      · exact absurd g (by decide)
      · show pl.getD 0 0 / 64 < ru 5 ∧ (pl.length : Int) - 1 - (ckl (ru 3) : Nat) ≤ ru 4
        omega
theorem judge_kind {ru : RU} {bs : List Int} (hb : byt bs) : (judge ru bs).1 = 0 ∨ (judge ru bs).1 = 2 ∨ (judge ru bs).1 = 3 ∨ (judge ru bs).1 = 4 := by
  by_cases h2 : (judge ru bs).1 = 2
  · exact Or.inr (Or.inl h2)
  · by_cases h3 : (judge ru bs).1 = 3
    · exact Or.inr (Or.inr (Or.inl h3))
    · rcases (judge_told hb h2 h3).2.2.2.1 with h | h
      · exact Or.inl h
      · exact Or.inr (Or.inr (Or.inr h))
theorem evF_wf {b : Int} {ch : Nat} {s : ST} {ev : List Int} (hw : WfSt b ch s) (hl : ev.length = 5) (he : ∀ x ∈ ev, -1 ≤ x ∧ x ≤ 600) : ((evF s ev).length : Int) = min 40 (s.2.2.1 2 + 1) ∧ ∀ e ∈ evF s ev, e.length = 5 ∧ ∀ x ∈ e, -1 ≤ x ∧ x ≤ 600 := by
  obtain ⟨w0, w1, w2, w3, w4, w5, w6, w7, w8, w9, w10⟩ := hw
  refine ⟨?_, fun e h => ?_⟩
  · unfold evF
    rw [List.length_take, List.length_cons]
    omega
  · rcases List.mem_cons.mp (List.mem_of_mem_take h) with h | h
    · rw [h]; exact ⟨hl, he⟩
    · exact w9 e h
theorem WfSt.mono {b b' : Int} {ch : Nat} {s : ST} (h : WfSt b ch s) (hb : b ≤ b') : WfSt b' ch s := by
  obtain ⟨w0, w1, w2, w3, w4, w5, w6, w7, w8, w9, w10⟩ := h
  exact ⟨w0, w1, w2, w3, w4, w5, w6, by omega, w8, w9, fun c hc => (w10 c hc).mono hb⟩
theorem markF_wf {b : Int} {ch : Nat} {s : ST} {ru : RU} (hw : WfSt b ch s) (hwr : WfRu ru) (hch : ch = (ru 5).toNat) : WfSt (b + 20) ch (markF ru s) := by
  have base := hw.mono (b' := b + 20) (by omega)
  unfold markF
  split
  · exact base
  obtain ⟨w0, w1, w2, w3, w4, w5, w6, w7, w8, w9, w10⟩ := base
  obtain ⟨-, -, -, -, -, -, -, v7, -⟩ := id hw
  have fin : ∀ (ev : List Int) (ps : Nat → CH), ev.length = 5 → (∀ x ∈ ev, -1 ≤ x ∧ x ≤ 600) → (∀ c, c < ch → WfCh (b + 20) (ps c)) → WfSt (b + 20) ch (s.1, [], up (up s.2.2.1 0 0) 2 (s.2.2.1 2 + 1), evF s ev, ps) := by
    intro ev ps h1 h2 h3
    have he := evF_wf hw h1 h2
    exact ⟨w0, w1, by show 0 ≤ 200; omega, byt_nil, fun x hx => absurd hx List.not_mem_nil, Or.inl rfl, w6, by show 0 ≤ s.2.2.1 2 + 1 ∧ s.2.2.1 2 + 1 ≤ b + 20; omega, he.1, he.2, h3⟩
  split
  · exact fin _ _ rfl (by intro x hx; simp at hx; omega) w10
  rename_i hr h2
  have h2 : (judge ru s.2.1).1 ≠ 2 := fun g => h2 (Or.inr g)
  split
  · exact fin _ _ rfl (by intro x hx; simp at hx; omega) w10
  rename_i h3
  obtain ⟨t1, t2, t3, t4, t5⟩ := judge_told w3 h2 h3
  have hb0 := byt_at t1 0
  have hpl : ((partF ru (judge ru s.2.1).2).length : Int) ≤ 400 := by rw [show (partF ru (judge ru s.2.1).2).length = (judge ru s.2.1).2.length - 1 - ckl (ru 3) by unfold partF; rw [List.length_take, List.length_drop]; omega]; omega
  split
  · exact fin _ _ rfl (by intro x hx; simp only [List.mem_cons, List.not_mem_nil, or_false] at hx; omega) w10
  rename_i h4
  have h0 : (judge ru s.2.1).1 = 0 := t4.resolve_right h4
  obtain ⟨t6, t7⟩ := t5 h0
  have hk := accF_rg (c := s.2.2.2.2 ((judge ru s.2.1).2.getD 0 0 / 64).toNat) (h := (judge ru s.2.1).2.getD 0 0) (pt := partF ru (judge ru s.2.1).2)
  refine fin _ _ rfl (by intro x hx; simp only [List.mem_cons, List.not_mem_nil, or_false] at hx; omega) (fun c hc => ?_)
  by_cases e : c = ((judge ru s.2.1).2.getD 0 0 / 64).toNat
  · subst e
    rw [up_s]
    refine accF_wf (hw.2.2.2.2.2.2.2.2.2.2 _ hc) (byt_take (byt_drop t1 1) _) ?_
    have h9 : (partF ru (judge ru s.2.1).2).length = (judge ru s.2.1).2.length - 1 - ckl (ru 3) := by unfold partF; rw [List.length_take, List.length_drop]; omega
    obtain ⟨-, -, -, -, q4, -⟩ := hwr
    omega
  · rw [up_n e]
    exact w10 c hc
theorem byteF_wf {b : Int} {ch : Nat} {s : ST} {ru : RU} {x : Int} (hw : WfSt b ch s) (hwr : WfRu ru) (hch : ch = (ru 5).toNat) (hx : 0 ≤ x ∧ x ≤ 255) : WfSt (b + 20) ch (byteF ru s x) := by
  unfold byteF
  split
  · exact markF_wf hw hwr hch
  rename_i hx0
  obtain ⟨w0, w1, w2, w3, w4, w5, w6, w7, w8, w9, w10⟩ := hw.mono (b' := b + 20) (by omega)
  split
  · rename_i h200
    exact ⟨w0, w1, w2, w3, w4, Or.inr ⟨rfl, h200⟩, w6, w7, w8, w9, w10⟩
  · rename_i h200
    refine ⟨w0, w1, ?_, byt_append.mpr ⟨w3, byt_cons.mpr ⟨hx, byt_nil⟩⟩, ?_, ?_, w6, w7, w8, w9, w10⟩
    · show (s.2.1 ++ [x]).length ≤ 200
      rw [List.length_append, List.length_singleton]
      omega
    · intro z hz
      rcases List.mem_append.mp hz with h | h
      · exact w4 z h
      · rw [List.mem_singleton.mp h]; exact hx0
    · rcases w5 with h | h
      · exact Or.inl h
      · exact absurd h.2 h200
theorem byteF_1 (ru : RU) (s : ST) (x : Int) : (byteF ru s x).1 = s.1 := by
  unfold byteF markF
  split
  · split
    · rfl
    · split
      · rfl
      · split
        · rfl
        · split <;> rfl
  · split <;> rfl
