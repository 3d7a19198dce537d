section M32X
/-- state, past, image as they are now; all else as before -/
theorem RepM.st {I I' : Nat → Int} {A A' : Nat → Int → Int} {tp bx hd : List Int} {rf : Nat → Int} {ru : RU} {tl : Nat → Int} {s s' : ST} {ps ps' : List ST} {im im' : Option ST} (h : RepM I A (tp, bx, hd, rf, 1, ru, tl, s, ps, im)) (f1 : frI [0, 26, 28, 29, 33, 41, 43] I I') (f2 : frA [3, 5, 6, 8, 9, 12, 13, 14] A A') (h33 : I' 33 = ps'.length) (h43 : I' 43 = if im'.isSome then 1 else 0) (hs : RepSt (ru 5).toNat (A' 3) s') (hps : ∀ k : Nat, k < ps'.length → RepSt (ru 5).toNat (fun i => A' 8 (9309 * (k : Int) + i)) (ps'.getD k s')) (him : ∀ x, im' = some x → RepSt (ru 5).toNat (A' 14) x) : RepM I' A' (tp, bx, hd, rf, 1, ru, tl, s', ps', im') := by
  obtain ⟨⟨a1, a2⟩, ⟨a3, a4⟩, ⟨a5, a6⟩, a7, a8, ⟨a9, a10⟩, a11, a12, a13, a14⟩ := h
  obtain ⟨b1, b2, b3, b4, b5⟩ := a14 rfl
  exact ⟨⟨(f1 2 (by decide)).trans a1, by rw [f2 1 (by decide)]; exact a2⟩, ⟨(f1 31 (by decide)).trans a3, by rw [f2 7 (by decide)]; exact a4⟩, ⟨(f1 38 (by decide)).trans a5, by rw [f2 11 (by decide)]; exact a6⟩, fun k hk => by rw [f2 10 (by decide)]; exact a7 k hk, (f1 17 (by decide)).trans a8, ⟨(f1 19 (by decide)).trans a9, (f1 20 (by decide)).trans a10⟩, by rw [f1 23 (by decide)]; exact a11, h33, h43, fun hi => ⟨b1.fr f1 (by decide), fun c hc => by rw [f2 4 (by decide)]; exact b2 c hc, hs, hps, him⟩⟩
/-- the state's row as it was, on all its places -/
theorem RepM.now {I I' : Nat → Int} {A A' : Nat → Int → Int} {b : Int} {tp bx hd : List Int} {rf : Nat → Int} {ru : RU} {tl : Nat → Int} {s : ST} {ps : List ST} {im : Option ST} (h : RepM I A (tp, bx, hd, rf, 1, ru, tl, s, ps, im)) (hw : WfSy b (tp, bx, hd, rf, 1, ru, tl, s, ps, im)) (f1 : frI [0, 26, 28, 29, 41] I I') (f2 : frA [3, 5, 6, 9, 12, 13] A A') (he : ∀ i, 0 ≤ i → i < 9309 → A' 3 i = A 3 i) : RepM I' A' (tp, bx, hd, rf, 1, ru, tl, s, ps, im) := by
  obtain ⟨-, -, -, -, -, -, -, m3, m4, m2⟩ := id h
  obtain ⟨hru, htl, hs, hps, him⟩ := m2 rfl
  obtain ⟨-, -, -, -, -, -, -, -, w2⟩ := hw
  obtain ⟨hwr, hwt, ⟨hws, hwc⟩, hwp, hwi⟩ := w2 rfl
  have h5 := hwr.2.2.2.2.2
  exact h.st (f1.wk (by decide)) (f2.wk (by decide)) (by rw [f1 33 (by decide)]; exact m3) (by rw [f1 43 (by decide)]; exact m4) (hs.congr hws (by omega) he) (fun k hk => by rw [f2 8 (by decide)]; exact hps k hk) (fun x hx => by rw [f2 14 (by decide)]; exact him x hx)
end M32X
