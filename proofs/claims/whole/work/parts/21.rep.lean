/-! ===== how the reference's rows hold a channel, a state ===== -/
def RepH (g : Int → Int) (c : CH) : Prop := g 0 = c.1 0 ∧ g 1 = c.2.1.length ∧ g 2 = c.1 1 ∧ g 3 = c.1 2 ∧ g 4 = c.1 3 ∧ g 5 = c.1 4 ∧ g 6 = c.1 5 ∧ g 7 = c.2.2.1.length ∧ g 8 = c.1 6 ∧ g 9 = c.2.2.2.length ∧ g 10 = c.1 7 ∧ g 11 = if 0 < c.1 6 then 1 else 0
def RepW (g : Int → Int) (ws : List (List Int)) : Prop := ∀ k : Nat, k < ws.length → g (12 + 121 * (k : Int)) = (ws.getD k []).length ∧ sg g (12 + 121 * (k : Int) + 1) (ws.getD k [])
def RepT (g : Int → Int) (ts : List (List Int × Int)) : Prop := ∀ k : Nat, k < ts.length → g (1100 + 122 * (k : Int)) = (ts.getD k ([], 0)).1.length ∧ g (1100 + 122 * (k : Int) + 1) = (ts.getD k ([], 0)).2 ∧ sg g (1100 + 122 * (k : Int) + 2) (ts.getD k ([], 0)).1
def RepCh (g : Int → Int) (c : CH) : Prop := RepH g c ∧ RepW g c.2.1 ∧ sg g 980 c.2.2.2 ∧ RepT g c.2.2.1
/-- what a channel keeps to; b: no count is more -/
def WfCh (b : Int) (c : CH) : Prop := (0 ≤ c.1 0 ∧ c.1 0 ≤ 8) ∧ (0 ≤ c.1 1 ∧ c.1 1 ≤ (c.2.1.headD []).length) ∧ (0 ≤ c.1 2 ∧ c.1 2 ≤ 15) ∧ (0 ≤ c.1 3 ∧ c.1 3 ≤ 15) ∧ (0 ≤ c.1 4 ∧ c.1 4 ≤ b) ∧ (0 ≤ c.1 5 ∧ c.1 5 ≤ b) ∧ (0 ≤ c.1 6 ∧ c.1 6 ≤ b) ∧ (0 ≤ c.1 7 ∧ c.1 7 ≤ b) ∧ c.2.1.length ≤ 8 ∧ (∀ w ∈ c.2.1, w.length ≤ 120 ∧ byt w) ∧ c.2.2.1.length ≤ 8 ∧ (∀ w ∈ c.2.2.1, w.1.length ≤ 120 ∧ byt w.1 ∧ 0 ≤ w.2 ∧ w.2 ≤ b) ∧ c.2.2.2.length ≤ 120 ∧ byt c.2.2.2 ∧ (c.1 6 = 0 → c.2.2.2 = [])
def WfSt (b : Int) (ch : Nat) (s : ST) : Prop := s.1.length ≤ 600 ∧ byt s.1 ∧ s.2.1.length ≤ 200 ∧ byt s.2.1 ∧ (∀ x ∈ s.2.1, x ≠ 0) ∧ (s.2.2.1 0 = 0 ∨ s.2.2.1 0 = 1 ∧ s.2.1.length = 200) ∧ (-1 ≤ s.2.2.1 1 ∧ s.2.2.1 1 < ch) ∧ (0 ≤ s.2.2.1 2 ∧ s.2.2.1 2 ≤ b) ∧ (s.2.2.2.1.length : Int) = min 40 (s.2.2.1 2) ∧ (∀ e ∈ s.2.2.2.1, e.length = 5 ∧ ∀ x ∈ e, -1 ≤ x ∧ x ≤ 600) ∧ ∀ c, c < ch → WfCh b (s.2.2.2.2 c)
/-- the channel c in a row -/
def atc (f : Int → Int) (c : Int) : Int → Int := fun k => f (1005 + 2076 * c + k)
def RepSt (ch : Nat) (f : Int → Int) (s : ST) : Prop := f 0 = s.1.length ∧ sg f 1 s.1 ∧ f 601 = s.2.1.length ∧ f 602 = s.2.2.1 0 ∧ sg f 603 s.2.1 ∧ f 803 = s.2.2.1 1 ∧ f 804 = s.2.2.1 2 ∧ (∀ i : Nat, i < s.2.2.2.1.length → sg f (805 + 5 * (i : Int)) (s.2.2.2.1.getD i [])) ∧ ∀ c : Nat, c < ch → RepCh (atc f c) (s.2.2.2.2 c)
theorem getD_mem {α : Type} {l : List α} {k : Nat} {x : α} (h : k < l.length) : l.getD k x ∈ l := by
  rw [List.getD_eq_getElem?_getD, List.getElem?_eq_getElem h]
  exact List.getElem_mem h
theorem RepW.congr {g g' : Int → Int} {ws : List (List Int)} (h : RepW g ws) (hl : ws.length ≤ 8) (hw : ∀ w ∈ ws, w.length ≤ 120 ∧ byt w) (he : ∀ k, 12 ≤ k → k < 980 → g' k = g k) : RepW g' ws := fun k hk => by
  obtain ⟨h1, h2⟩ := h k hk
  have h3 := (hw _ (getD_mem (x := []) hk)).1
  exact ⟨by rw [he _ (by omega) (by omega)]; exact h1, sg_congr h2 fun j a b => he j (by omega) (by omega)⟩
theorem RepT.congr {g g' : Int → Int} {b : Int} {ts : List (List Int × Int)} (h : RepT g ts) (hl : ts.length ≤ 8) (hw : ∀ w ∈ ts, w.1.length ≤ 120 ∧ byt w.1 ∧ 0 ≤ w.2 ∧ w.2 ≤ b) (he : ∀ k, 1100 ≤ k → k < 2076 → g' k = g k) : RepT g' ts := fun k hk => by
  obtain ⟨h1, h2, h3⟩ := h k hk
  have h4 := (hw _ (getD_mem (x := ([], 0)) hk)).1
  exact ⟨by rw [he _ (by omega) (by omega)]; exact h1, by rw [he _ (by omega) (by omega)]; exact h2, sg_congr h3 fun j a b => he j (by omega) (by omega)⟩
theorem RepCh.congr {g g' : Int → Int} {b : Int} {c : CH} (h : RepCh g c) (hw : WfCh b c) (he : ∀ k, 0 ≤ k → k < 2076 → g' k = g k) : RepCh g' c := by
  obtain ⟨⟨a0, a1, a2, a3, a4, a5, a6, a7, a8, a9, a10, a11⟩, hW, hS, hT⟩ := h
  obtain ⟨w0, w1, w2, w3, w4, w5, w6, w7, w8, w9, w10, w11, w12, w13, w14⟩ := hw
  refine ⟨⟨?_, ?_, ?_, ?_, ?_, ?_, ?_, ?_, ?_, ?_, ?_, ?_⟩, hW.congr w8 w9 fun k x y => he k (by omega) (by omega), sg_congr hS fun k x y => he k (by omega) (by omega), hT.congr w10 w11 fun k x y => he k (by omega) (by omega)⟩ <;> (rw [he _ (by decide) (by decide)]; assumption)
/-- a state in another row that agrees -/
theorem RepSt.congr {ch : Nat} {f f' : Int → Int} {b : Int} {s : ST} (h : RepSt ch f s) (hw : WfSt b ch s) (hch : ch ≤ 4) (he : ∀ k, 0 ≤ k → k < 9309 → f' k = f k) : RepSt ch f' s := by
  obtain ⟨a0, a1, a2, a3, a4, a5, a6, a7, a8⟩ := h
  obtain ⟨w0, w1, w2, w3, w4, w5, w6, w7, w8, w9, w10⟩ := hw
  refine ⟨by rw [he _ (by decide) (by decide)]; exact a0, sg_congr a1 fun k x y => he k (by omega) (by omega), by rw [he _ (by decide) (by decide)]; exact a2, by rw [he _ (by decide) (by decide)]; exact a3, sg_congr a4 fun k x y => he k (by omega) (by omega), by rw [he _ (by decide) (by decide)]; exact a5, by rw [he _ (by decide) (by decide)]; exact a6, fun i hi => sg_congr (a7 i hi) fun k x y => ?_, fun c hc => (a8 c hc).congr (w10 c hc) fun k x y => he _ (by omega) (by omega)⟩
  have h5 := (w9 _ (getD_mem (x := []) hi)).1
  exact he k (by omega) (by omega)
/-- only the channel c of the row 'now' has changed -/
def frP (c : Int) (f f' : Int → Int) : Prop := ∀ i, (i < 1005 + 2076 * c ∨ 1005 + 2076 * c + 2076 ≤ i) → f' i = f i
theorem frP.rf {c : Int} {f : Int → Int} : frP c f f := fun _ _ => rfl
theorem frP.trans {c : Int} {f g h : Int → Int} (h1 : frP c f g) (h2 : frP c g h) : frP c f h := fun i hi => (h2 i hi).trans (h1 i hi)
theorem frP.up {c w v : Int} {f f' : Int → Int} (h : frP c f f') (hw : 0 ≤ w ∧ w < 2076) : frP c f (up f' (1005 + 2076 * c + w) v) := fun i hi => by
  rw [up_n (by omega)]
  exact h i hi
theorem atc_up {f : Int → Int} {c w v : Int} : atc (up f (1005 + 2076 * c + w) v) c = up (atc f c) w v := by
  funext k
  unfold atc
  by_cases h : k = w
  · subst h
    rw [up_s, up_s]
  · rw [up_n (by omega), up_n h]
theorem RepSt.port {ch : Nat} {f f' : Int → Int} {b : Int} {s : ST} {c : Nat} {x : CH} (h : RepSt ch f s) (hw : WfSt b ch s) (hf : frP c f f') (hx : RepCh (atc f' c) x) : RepSt ch f' (s.1, s.2.1, s.2.2.1, s.2.2.2.1, up s.2.2.2.2 c x) := by
  obtain ⟨a0, a1, a2, a3, a4, a5, a6, a7, a8⟩ := h
  obtain ⟨w0, w1, w2, w3, w4, w5, w6, w7, w8, w9, w10⟩ := hw
  refine ⟨by rw [hf _ (by omega)]; exact a0, show sg f' 1 s.1 from sg_congr a1 fun k x y => hf k (by omega), by rw [hf _ (by omega)]; exact a2, by rw [hf _ (by omega)]; exact a3, show sg f' 603 s.2.1 from sg_congr a4 fun k x y => hf k (by omega), by rw [hf _ (by omega)]; exact a5, by rw [hf _ (by omega)]; exact a6, fun i hi => ?_, fun c2 hc2 => ?_⟩
  · have hi : i < s.2.2.2.1.length := hi
    have h5 := (w9 _ (getD_mem (x := []) hi)).1
    show sg f' (805 + 5 * (i : Int)) (s.2.2.2.1.getD i [])
    exact sg_congr (a7 i hi) fun k x y => hf k (by omega)
  · by_cases e : c2 = c
    · subst e
      show RepCh _ (up s.2.2.2.2 c2 x c2)
      rw [up_s]
      exact hx
    · show RepCh _ (up s.2.2.2.2 c x c2)
      rw [up_n e]
      exact (a8 c2 hc2).congr (w10 c2 hc2) fun k x y => hf _ (by omega)
