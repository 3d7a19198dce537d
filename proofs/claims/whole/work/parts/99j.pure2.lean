theorem fz_congr {bs bs' : List Int} : ∀ (n p : Nat), (∀ i, p ≤ i → i < p + n → bs'.getD i 0 = bs.getD i 0) → fz bs' p n = fz bs p n := by
  intro n
  induction n with
  | zero => intro p _; rfl
  | succ n ih =>
    intro p h
    rw [fz, fz, h p (by omega) (by omega), ih (p + 1) (fun i h1 h2 => h i (by omega) (by omega))]
theorem fz_iff {bs : List Int} : ∀ (n p : Nat), fz bs p n = -1 ↔ ∀ i, p ≤ i → i < p + n → bs.getD i 0 ≠ 0 := by
  intro n
  induction n with
  | zero => intro p; exact ⟨fun _ i h1 h2 => by omega, fun _ => rfl⟩
  | succ n ih =>
    intro p
    rw [fz]
    by_cases e : bs.getD p 0 = 0
    · rw [if_pos e]
      exact ⟨fun h => by omega, fun h => absurd e (h p (by omega) (by omega))⟩
    · rw [if_neg e, ih]
      refine ⟨fun h i h1 h2 => ?_, fun h i h1 h2 => h i (by omega) (by omega)⟩
      by_cases e2 : i = p
      · rw [e2]; exact e
      · exact h i (by omega) (by omega)
theorem unl_from {L Z : Nat} {way : Int} {bs bs' : List Int} (hl : bs'.length = bs.length) : ∀ (f : Nat) (out : List Int) (p : Nat), (∀ i, p ≤ i → bs'.getD i 0 = bs.getD i 0) → unl L Z way bs' f out p = unl L Z way bs f out p := by
  intro f
  induction f with
  | zero => intro out p _; rfl
  | succ f ih =>
    intro out p h
    rw [unl, unl, hl, h p (by omega), getD_ext hl h (p + 1) (by omega), fz_congr _ (p + 1) (fun i h1 _ => h i (by omega)), fz_congr (bs := bs) _ (p + 1) (fun i h1 _ => h i (by omega)), ih _ _ (fun i h1 => h i (by omega))]
theorem xr_can {a b c : Int} (ha : 0 ≤ a) (hb : 0 ≤ b) (h : xr a c = xr b c) : a = b := by
  unfold xr at h
  have h : a.toNat ^^^ c.toNat = b.toNat ^^^ c.toNat := by exact_mod_cast h
  have h2 : (a.toNat ^^^ c.toNat) ^^^ c.toNat = (b.toNat ^^^ c.toNat) ^^^ c.toNat := by rw [h]
  rw [Nat.xor_assoc, Nat.xor_self, Nat.xor_zero, Nat.xor_assoc, Nat.xor_self, Nat.xor_zero] at h2
  omega
theorem xr_com (a b : Int) : xr a b = xr b a := by unfold xr; rw [Nat.xor_comm]
def crI (t : Int) : Int := if t % 2 = 1 then xr t 7 / 2 + 128 else t / 2
theorem crI_ok : ∀ s : Fin 256, crI (crc1 (s.val : Int)) = (s.val : Int) ∧ 0 ≤ crc1 (s.val : Int) ∧ crc1 (s.val : Int) ≤ 255 := by decide +kernel
theorem crc1_inj {s t : Int} (h : 0 ≤ s ∧ s ≤ 255) (h2 : 0 ≤ t ∧ t ≤ 255) (he : crc1 s = crc1 t) : s = t := by
  have e1 := crI_ok ⟨s.toNat, by omega⟩
  have e2 := crI_ok ⟨t.toNat, by omega⟩
  rw [show ((⟨s.toNat, by omega⟩ : Fin 256).val : Int) = s by show ((s.toNat : Nat) : Int) = s; omega] at e1
  rw [show ((⟨t.toNat, by omega⟩ : Fin 256).val : Int) = t by show ((t.toNat : Nat) : Int) = t; omega] at e2
  rw [← e1.1, ← e2.1, he]
theorem crc8_inj {s t : Int} (h : 0 ≤ s ∧ s ≤ 255) (h2 : 0 ≤ t ∧ t ≤ 255) (he : crc8 s = crc8 t) : s = t := by
  have r := @crc1_rg
  exact crc1_inj h h2 (crc1_inj (r h) (r h2) (crc1_inj (r (r h)) (r (r h2)) (crc1_inj (r (r (r h))) (r (r (r h2))) (crc1_inj (r (r (r (r h)))) (r (r (r (r h2)))) (crc1_inj (r (r (r (r (r h))))) (r (r (r (r (r h2))))) (crc1_inj (r (r (r (r (r (r h)))))) (r (r (r (r (r (r h2)))))) (crc1_inj (r (r (r (r (r (r (r h))))))) (r (r (r (r (r (r (r h2))))))) he)))))))
theorem chk1_s {ck s t b : Int} (hs : 0 ≤ s ∧ s ≤ 255) (ht : 0 ≤ t ∧ t ≤ 255) (hb : 0 ≤ b ∧ b ≤ 255) (h : chk1 ck s b = chk1 ck t b) : s = t := by
  unfold chk1 at h
  split at h
  · omega
  · exact xr_can hs.1 ht.1 (crc8_inj (xr_rg hs hb) (xr_rg ht hb) h)
theorem chk1_b {ck s b c : Int} (hs : 0 ≤ s ∧ s ≤ 255) (hb : 0 ≤ b ∧ b ≤ 255) (hc : 0 ≤ c ∧ c ≤ 255) (h : chk1 ck s b = chk1 ck s c) : b = c := by
  unfold chk1 at h
  split at h
  · omega
  · have := crc8_inj (xr_rg hs hb) (xr_rg hs hc) h
    rw [xr_com s b, xr_com s c] at this
    exact xr_can hb.1 hc.1 this
theorem chk_rg {ck : Int} : ∀ (l : List Int) (s : Int), byt l → (0 ≤ s ∧ s ≤ 255) → 0 ≤ l.foldl (chk1 ck) s ∧ l.foldl (chk1 ck) s ≤ 255 := by
  intro l
  induction l with
  | nil => intro s _ hs; exact hs
  | cons a l ih => intro s hl hs; exact ih _ (byt_cons.mp hl).2 (chk1_rg hs (byt_cons.mp hl).1)
theorem chk_s {ck : Int} : ∀ (l : List Int) (s t : Int), byt l → (0 ≤ s ∧ s ≤ 255) → (0 ≤ t ∧ t ≤ 255) → l.foldl (chk1 ck) s = l.foldl (chk1 ck) t → s = t := by
  intro l
  induction l with
  | nil => intro s t _ _ _ h; exact h
  | cons a l ih =>
    intro s t hl hs ht h
    have ha := (byt_cons.mp hl).1
    exact chk1_s hs ht ha (ih _ _ (byt_cons.mp hl).2 (chk1_rg hs ha) (chk1_rg ht ha) h)
theorem chk_set {ck : Int} : ∀ (l : List Int) (m : Nat) (y s : Int), byt l → m < l.length → (0 ≤ y ∧ y ≤ 255) → (0 ≤ s ∧ s ≤ 255) → (l.set m y).foldl (chk1 ck) s = l.foldl (chk1 ck) s → y = l.getD m 0 := by
  intro l
  induction l with
  | nil => intro m y s _ hm; exact absurd hm (Nat.not_lt_zero m)
  | cons a l ih =>
    intro m y s hl hm hy hs h
    obtain ⟨ha, hl2⟩ := byt_cons.mp hl
    cases m with
    | zero => exact chk1_b hs hy ha (chk_s l _ _ hl2 (chk1_rg hs hy) (chk1_rg hs ha) h)
    | succ m => exact ih m y _ hl2 (Nat.lt_of_succ_lt_succ hm) hy (chk1_rg hs ha) h
