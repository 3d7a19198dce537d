/-! ===== the reference's object: its numbers I, its rows A (by their places 1 .. 14 behind it), its draws ===== -/
abbrev rg (z : Int) : Prop := -2147483648 ≤ z ∧ z ≤ 2147483647
/-- how long its rows are: 1 tape, 2 readCredits, 3 now, 4 told, 5 plain, 6 stuffed, 7 box, 8 were, 9 aside, 10 refused, 11 hand, 12 begins, 13 ends, 14 imaged -/
def ml (j : Nat) : Nat := match j with
  | 1 => 300 | 2 => 4 | 3 => 9309 | 4 => 4 | 5 => 1400 | 6 => 1400 | 7 => 1400 | 8 => 111708 | 9 => 9309 | 10 => 4 | 11 => 120 | 12 => 600 | 13 => 600 | 14 => 9309 | _ => 0
def fM (m0 : Nat) (I : Nat → Int) (D : Int64) : List Value := [vi (I 0), .ref (m0 + 1), vi (I 2), vi (I 3), vi (I 4), vi (I 5), vi (I 6), vi (I 7), vi (I 8), vi (I 9), vi (I 10), vi (I 11), vi (I 12), vi (I 13), vi (I 14), .ref (m0 + 2), .ref (m0 + 3), vi (I 17), vi (I 18), vi (I 19), vi (I 20), vi (I 21), vi (I 22), vi (I 23), .ref (m0 + 4), .ref (m0 + 5), vi (I 26), .ref (m0 + 6), vi (I 28), vi (I 29), .ref (m0 + 7), vi (I 31), .ref (m0 + 8), vi (I 33), .ref (m0 + 9), .ref (m0 + 10), .long D, .ref (m0 + 11), vi (I 38), .ref (m0 + 12), .ref (m0 + 13), vi (I 41), .ref (m0 + 14), vi (I 43)]
abbrev MT : Type := (Nat → Int) × (Nat → Int → Int) × Int64
/-- m0: where it stands; F: cells that are not its own, and stay -/
def AM (G : GT) (m0 : Nat) (F : HS) (n u : Nat) (a : MT) (H : Heap) : Prop := ∃ σ : HS, A1 G (σ, n, u) H ∧ σ m0 = some (.inr (12, fM m0 a.1 a.2.2)) ∧ (∀ j, 1 ≤ j → j ≤ 14 → σ (m0 + j) = some (.inl (gK G 0, ml j, .inl (fun k => Int32.ofInt (a.2.1 j (k : Int)))))) ∧ (∀ x c, F x = some c → σ x = some c ∧ (x < m0 ∨ m0 + 14 < x)) ∧ (∀ k, rg (a.1 k)) ∧ ∀ j k, rg (a.2.1 j k)
section MODEL
variable {G : GT} {m0 n u : Nat} {F : HS} {y : MethodName} {cc : ByteArray} {nL : Nat} {rt : Option FieldType} {d : Nat} {I : Nat → Int} {A : Nat → Int → Int} {D : Int64} {pc : Nat} {L : List (Option Value)} {st : List Value} {post : Option Value → MT → Prop}
theorem m_rec : ∀ H, AM G m0 F n u (I, A, D) H → ∃ fs, va_at (gD G) vwCl (m0, .inr (12, fs)) H := by
  rintro H ⟨σ, h1, h2, -⟩
  exact ⟨_, (h1.2.2 m0 _ h2).2⟩
theorem m_rg (h : (∀ k, rg (I k)) → (∀ j k, rg (A j k)) → V G (AM G m0 F n u) y cc nL rt d (I, A, D) pc L st post) : V G (AM G m0 F n u) y cc nL rt d (I, A, D) pc L st post := by
  intro n1 u1 p e s m args below meth c H locs ls C hB hn hg hA hl hL
  have hA2 := hA
  obtain ⟨σ, h1, h2, h3, h4, h5, h6⟩ := hA2
  exact h h5 h6 n1 u1 p e s m args below meth c H locs ls C hB hn hg hA hl hL
theorem m_getV {i k : Nat} {v : Value} (q : Nat) (hd : decode cc pc = .ok (.getfield i, 3)) (hq : pc + 3 = q) (hw : Cond.fieldLink y.cls i (TX12 k).1 (TX12 k).2.1 (TX12 k).2.2.1 ∈ gTB) (hk : k < 44) (hv : (fM m0 I D)[k]? = some v) (kk : V G (AM G m0 F n u) y cc nL rt d (I, A, D) q L (v :: st) post) : V G (AM G m0 F n u) y cc nL rt d (I, A, D) pc L (.ref m0 :: st) post := by
  refine V_lift (Abs := A1 G) fun H hA => ?_
  have hA2 := hA
  obtain ⟨σ, h1, h2, h3, h4, h5, h6⟩ := hA2
  refine ⟨(σ, n, u), h1, ?_⟩
  refine h_get (Cn := RX12) (T := TX12) (N := 44) q k hd hq h2 rfl lay_X12 hw hk hv ?_
  intro n1 u1 p e s m args below meth c H1 locs ls C hB hn hg hA1 hl hL
  have k1 := kk n1 u1 p e s m args below meth c H1 locs ls C hB hn hg ⟨σ, hA1, h2, h3, h4, h5, h6⟩ hl hL
  refine k1.mono ?_
  rintro t ⟨o, r1, r2, ⟨v, a', e1, q2, q3, σ2, w1, w2⟩, r3⟩
  exact ⟨o, r1, r2, ⟨v, (σ2, n, u), e1, ⟨a', fun H2 hH2 => ⟨σ2, hH2, w2⟩, q2⟩, q3, w1⟩, r3⟩
theorem m_getI {i : Nat} (q k : Nat) (hd : decode cc pc = .ok (.getfield i, 3)) (hq : pc + 3 = q) (hw : Cond.fieldLink y.cls i (TX12 k).1 (TX12 k).2.1 (TX12 k).2.2.1 ∈ gTB) (hk : k < 44) (hv : (fM m0 I D)[k]? = some (vi (I k))) (kk : rg (I k) → V G (AM G m0 F n u) y cc nL rt d (I, A, D) q L (vi (I k) :: st) post) : V G (AM G m0 F n u) y cc nL rt d (I, A, D) pc L (.ref m0 :: st) post := m_rg fun h _ => m_getV q hd hq hw hk hv (kk (h k))
/-- behind a change of the object or of a row -/
theorem m_after {σ : HS} {I2 : Nat → Int} {A2 : Nat → Int → Int} {D2 : Int64} {x : Nat} {c : va_E} (h2 : up σ x (some c) m0 = some (.inr (12, fM m0 I2 D2))) (h3 : ∀ j, 1 ≤ j → j ≤ 14 → up σ x (some c) (m0 + j) = some (.inl (gK G 0, ml j, .inl (fun k => Int32.ofInt (A2 j (k : Int)))))) (hx : m0 ≤ x ∧ x ≤ m0 + 14) (h4 : ∀ x c, F x = some c → σ x = some c ∧ (x < m0 ∨ m0 + 14 < x)) (h5 : ∀ k, rg (I2 k)) (h6 : ∀ j k, rg (A2 j k)) (kk : V G (AM G m0 F n u) y cc nL rt d (I2, A2, D2) pc L st post) : V G (A1 G) y cc nL rt d (up σ x (some c), n, u) pc L st (fun v a' => ∃ b', (∀ H, A1 G a' H → AM G m0 F n u b' H) ∧ post v b') := by
  intro n1 u1 p e s m args below meth c1 H1 locs ls C hB hn hg hA1 hl hL
  have h4' : ∀ z c', F z = some c' → up σ x (some c) z = some c' ∧ (z < m0 ∨ m0 + 14 < z) := fun z c' hz => by
    obtain ⟨w1, w2⟩ := h4 z c' hz
    rw [up_n (by omega)]
    exact ⟨w1, w2⟩
  have k1 := kk n1 u1 p e s m args below meth c1 H1 locs ls C hB hn hg ⟨_, hA1, h2, h3, h4', h5, h6⟩ hl hL
  refine k1.mono ?_
  rintro t ⟨o, r1, r2, ⟨v, a', e1, q2, q3, σ2, w1, w2⟩, r3⟩
  exact ⟨o, r1, r2, ⟨v, (σ2, n, u), e1, ⟨a', fun H2 hH2 => ⟨σ2, hH2, w2⟩, q2⟩, q3, w1⟩, r3⟩
theorem up_rg {f : Nat → Int} {k : Nat} {z : Int} (h : ∀ k, rg (f k)) (hz : rg z) : ∀ j, rg (up f k z j) := fun j => by
  unfold up
  split
  · exact hz
  · exact h j
theorem m_putV {i k : Nat} {v : Value} {I2 : Nat → Int} {D2 : Int64} (q : Nat) (hd : decode cc pc = .ok (.putfield i, 3)) (hq : pc + 3 = q) (hw : Cond.fieldLink y.cls i (TX12 k).1 (TX12 k).2.1 (TX12 k).2.2.1 ∈ gTB) (hk : k < 44) (hf : (TX12 k).2.2.2 = false) (hn1 : narrow (tyX12 k) v = v) (hfit : fits (tyX12 k) v = true) (hv : (fM m0 I D).set k v = fM m0 I2 D2) (hI : (∀ k, rg (I k)) → ∀ k, rg (I2 k)) (kk : V G (AM G m0 F n u) y cc nL rt d (I2, A, D2) q L st post) : V G (AM G m0 F n u) y cc nL rt d (I, A, D) pc L (v :: .ref m0 :: st) post := by
  refine V_lift (Abs := A1 G) fun H hA => ?_
  obtain ⟨σ, h1, h2, h3, h4, h5, h6⟩ := hA
  refine ⟨(σ, n, u), h1, ?_⟩
  refine h_put (Cn := RX12) (T := TX12) (N := 44) tyX12 q k hd hq h2 rfl lay_X12 tyX12_ok nmX12 hw hk (Or.inl hf) hn1 hfit (by simpa [fM] using hk) ?_
  rw [show fM m0 (I, A, D).1 (I, A, D).2.2 = fM m0 I D from rfl, hv]
  exact m_after (by rw [up_s]) (fun j a b => by rw [up_n (by omega)]; exact h3 j a b) ⟨Nat.le_refl _, by omega⟩ h4 (hI h5) h6 kk
theorem m_putI {i : Nat} {z : Int} (q k : Nat) (hd : decode cc pc = .ok (.putfield i, 3)) (hq : pc + 3 = q) (hw : Cond.fieldLink y.cls i (TX12 k).1 (TX12 k).2.1 (TX12 k).2.2.1 ∈ gTB) (hk : k < 44) (hf : (TX12 k).2.2.2 = false) (hn1 : narrow (tyX12 k) (vi z) = vi z) (hfit : fits (tyX12 k) (vi z) = true) (hv : (fM m0 I D).set k (vi z) = fM m0 (up I k z) D) (kk : V G (AM G m0 F n u) y cc nL rt d (up I k z, A, D) q L st post) (hz : -2147483648 ≤ z ∧ z ≤ 2147483647 := by omega) : V G (AM G m0 F n u) y cc nL rt d (I, A, D) pc L (vi z :: .ref m0 :: st) post := m_putV q hd hq hw hk hf hn1 hfit hv (fun h => up_rg h hz) kk
theorem ml_lt (j : Nat) : ml j < 2147483648 := by
  unfold ml
  split <;> decide
theorem m_ald {z : Int} (q j N : Nat) (hd : decode cc pc = .ok (.iaload, 1)) (hq : pc + 1 = q) (hj : 1 ≤ j ∧ j ≤ 14) (hN : ml j = N) (kk : rg (A j z) → V G (AM G m0 F n u) y cc nL rt d (I, A, D) q L (vi (A j z) :: st) post) (hz : 0 ≤ z ∧ z < N := by omega) : V G (AM G m0 F n u) y cc nL rt d (I, A, D) pc L (vi z :: .ref (m0 + j) :: st) post := by
  subst hN
  refine V_lift (Abs := A1 G) fun H hA => ?_
  have hA2 := hA
  obtain ⟨σ, h1, h2, h3, h4, h5, h6⟩ := hA2
  refine ⟨(σ, n, u), h1, ?_⟩
  refine h_iald q hd hq (h3 j hj.1 hj.2) hz (ml_lt j) ?_
  rw [show ((z.toNat : Nat) : Int) = z by omega]
  intro n1 u1 p e s m args below meth c H1 locs ls C hB hn hg hA1 hl hL
  have k1 := kk (h6 j z) n1 u1 p e s m args below meth c H1 locs ls C hB hn hg ⟨σ, hA1, h2, h3, h4, h5, h6⟩ hl hL
  refine k1.mono ?_
  rintro t ⟨o, r1, r2, ⟨v, a', e1, q2, q3, σ2, w1, w2⟩, r3⟩
  exact ⟨o, r1, r2, ⟨v, (σ2, n, u), e1, ⟨a', fun H2 hH2 => ⟨σ2, hH2, w2⟩, q2⟩, q3, w1⟩, r3⟩
theorem up_rgI {f : Int → Int} {k : Int} {z : Int} (h : ∀ k, rg (f k)) (hz : rg z) : ∀ j, rg (up f k z j) := fun j => by
  unfold up
  split
  · exact hz
  · exact h j
theorem m_ast {z w : Int} (q j N : Nat) (hd : decode cc pc = .ok (.iastore, 1)) (hq : pc + 1 = q) (hj : 1 ≤ j ∧ j ≤ 14) (hN : ml j = N) (kk : V G (AM G m0 F n u) y cc nL rt d (I, up A j (up (A j) z w), D) q L st post) (hz : 0 ≤ z ∧ z < N := by omega) (hw : -2147483648 ≤ w ∧ w ≤ 2147483647 := by omega) : V G (AM G m0 F n u) y cc nL rt d (I, A, D) pc L (vi w :: vi z :: .ref (m0 + j) :: st) post := by
  subst hN
  refine V_lift (Abs := A1 G) fun H hA => ?_
  obtain ⟨σ, h1, h2, h3, h4, h5, h6⟩ := hA
  refine ⟨(σ, n, u), h1, ?_⟩
  refine h_iast q hd hq (h3 j hj.1 hj.2) hz (ml_lt j) ?_
  refine m_after (I2 := I) (A2 := up A j (up (A j) z w)) (D2 := D) (by rw [up_n (by omega)]; exact h2) (fun i a b => ?_) ⟨by omega, by omega⟩ h4 h5 (fun i k => ?_) kk
  · by_cases e : i = j
    · subst e
      rw [up_s, up_s]
      congr 5
      funext k
      by_cases hk : k = z.toNat
      · subst hk
        rw [up_s, show ((z.toNat : Nat) : Int) = z by omega, up_s]
      · rw [up_n hk, up_n (by omega)]
    · rw [up_n (by omega), up_n e]
      exact h3 i a b
  · by_cases e : i = j
    · subst e
      rw [up_s]
      exact up_rgI (h6 i) hw k
    · rw [up_n e]
      exact h6 i k
end MODEL
