/-! ===== draws, noise ===== -/
def dn (D : Int64) : Int64 := D * 6364136223846793005 + 1442695040888963407
def dw (D : Int64) : Int64 := (D.toUInt64 >>> ((Int32.ofInt 33).toInt64.toUInt64 &&& Int64.toUInt64 63)).toInt64
def dvx (D : Int64) (m : Int) : Int64 := dw D - dw D / Int64.ofInt m * Int64.ofInt m
def dv (D : Int64) (m : Int) : Int := (dvx D m).toInt32.toInt
theorem dw_lN (D : Int64) : dw D = lN (D.toUInt64.toNat / 8589934592) := by
  unfold dw
  rw [show ((Int32.ofInt 33).toInt64.toUInt64 &&& Int64.toUInt64 63) = (33 : UInt64) by decide]
  apply Int64.toBitVec_inj.mp
  show (D.toUInt64 >>> (33 : UInt64)).toBitVec = BitVec.ofNat 64 _
  apply BitVec.eq_of_toNat_eq
  rw [BitVec.toNat_ofNat]
  show (D.toUInt64 >>> (33 : UInt64)).toNat = _
  rw [UInt64.toNat_shiftRight]
  have h := D.toUInt64.toNat_lt
  rw [show (33 : UInt64).toNat % 64 = 33 by decide, Nat.shiftRight_eq_div_pow, Nat.mod_eq_of_lt (a := D.toUInt64.toNat / 8589934592) (by omega)]
theorem dv_rg {D : Int64} {m : Int} (hm : 1 ≤ m ∧ m ≤ 1000) : 0 ≤ dv D m ∧ dv D m < m := by
  obtain ⟨k, rfl⟩ := Int.eq_ofNat_of_zero_le (show 0 ≤ m by omega)
  unfold dv dvx
  have h := D.toUInt64.toNat_lt
  rw [dw_lN, show Int64.ofInt (k : Int) = lN k from Int64.ofInt_eq_ofNat, pk_lRem (by omega) (by omega) (by omega), lN_i, ← oI_nI]
  have h2 : D.toUInt64.toNat / 8589934592 % k < k := Nat.mod_lt _ (by omega)
  rw [rI (by omega)]
  omega
/-- bytes lost, put in, flipped -/
def losL (l : List Int) (i : Nat) : List Int := l.take i ++ l.drop (i + 1)
def insL (l : List Int) (i : Nat) (v : Int) : List Int := l.take i ++ v :: l.drop i
def flpL (l : List Int) (i : Nat) (v : Int) : List Int := l.set i (xr (l.getD i 0) v)
theorem losL_ok {l : List Int} {i : Nat} (hb : byt l) (hi : i < l.length) : byt (losL l i) ∧ (losL l i).length = l.length - 1 := by
  unfold losL
  refine ⟨byt_append.mpr ⟨byt_take hb _, byt_drop hb _⟩, ?_⟩
  rw [List.length_append, List.length_take_of_le (by omega), List.length_drop]
  omega
theorem insL_ok {l : List Int} {i : Nat} {v : Int} (hb : byt l) (hi : i ≤ l.length) (hv : 0 ≤ v ∧ v ≤ 255) : byt (insL l i v) ∧ (insL l i v).length = l.length + 1 := by
  unfold insL
  refine ⟨byt_append.mpr ⟨byt_take hb _, byt_cons.mpr ⟨hv, byt_drop hb _⟩⟩, ?_⟩
  rw [List.length_append, List.length_take_of_le (by omega), List.length_cons, List.length_drop]
  omega
theorem flpL_ok {l : List Int} {i : Nat} {v : Int} (hb : byt l) (hv : 0 ≤ v ∧ v ≤ 255) : byt (flpL l i v) ∧ (flpL l i v).length = l.length := by
  unfold flpL
  refine ⟨fun x hx => ?_, List.length_set⟩
  rcases List.mem_or_eq_of_mem_set hx with h | h
  · exact hb x h
  · rw [h]; exact xr_rg (byt_at hb i) hv
/-- one more noise: was something done, the seed, the line -/
def noiF (D : Int64) (w : List Int) : Bool × Int64 × List Int :=
  if dv (dn D) 3 = 2 then
    if w.length = 600 then (false, dn D, w) else (true, dn (dn (dn D)), insL w (dv (dn (dn D)) (w.length + 1)).toNat (dv (dn (dn (dn D))) 255 + 1))
  else if w.length = 0 then (false, dn D, w)
  else if dv (dn D) 3 = 1 then (true, dn (dn D), losL w (dv (dn (dn D)) w.length).toNat)
  else (true, dn (dn (dn D)), flpL w (dv (dn (dn D)) w.length).toNat (dv (dn (dn (dn D))) 255 + 1))
theorem noiF_ok {D : Int64} {w : List Int} (hb : byt w) (hl : w.length ≤ 600) : byt (noiF D w).2.2 ∧ (noiF D w).2.2.length ≤ 600 := by
  have h3 := dv_rg (D := dn D) (m := 3) (by omega)
  unfold noiF
  split
  · split
    · exact ⟨hb, hl⟩
    · have h1 := dv_rg (D := dn (dn D)) (m := (w.length : Int) + 1) (by omega)
      have h2 := dv_rg (D := dn (dn (dn D))) (m := 255) (by omega)
      have h := insL_ok (i := (dv (dn (dn D)) ((w.length : Int) + 1)).toNat) (v := dv (dn (dn (dn D))) 255 + 1) hb (by omega) (by omega)
      exact ⟨h.1, by show (insL _ _ _).length ≤ 600; rw [h.2]; omega⟩
  · split
    · exact ⟨hb, hl⟩
    · have h1 := dv_rg (D := dn (dn D)) (m := (w.length : Int)) (by omega)
      have h2 := dv_rg (D := dn (dn (dn D))) (m := 255) (by omega)
      split
      · have h := losL_ok (i := (dv (dn (dn D)) (w.length : Int)).toNat) hb (by omega)
        exact ⟨h.1, by show (losL _ _).length ≤ 600; rw [h.2]; omega⟩
      · have h := flpL_ok (i := (dv (dn (dn D)) (w.length : Int)).toNat) (v := dv (dn (dn (dn D))) 255 + 1) hb (by omega)
        exact ⟨h.1, by show (flpL _ _ _).length ≤ 600; rw [h.2]; omega⟩
/-- a state with another line -/
theorem WfSt.wire {b : Int} {ch : Nat} {s : ST} {w : List Int} (h : WfSt b ch s) (hb : byt w) (hl : w.length ≤ 600) : WfSt b ch (w, s.2) := by
  obtain ⟨w0, w1, w2, w3, w4, w5, w6, w7, w8, w9, w10⟩ := h
  exact ⟨hl, hb, w2, w3, w4, w5, w6, w7, w8, w9, w10⟩
theorem RepSt.wire {ch : Nat} {f f' : Int → Int} {b : Int} {s : ST} {w : List Int} (h : RepSt ch f s) (hw : WfSt b ch s) (h0 : f' 0 = w.length) (h1 : sg f' 1 w) (he : ∀ i, 600 < i → f' i = f i) : RepSt ch f' (w, s.2) := by
  obtain ⟨a0, a1, a2, a3, a4, a5, a6, a7, a8⟩ := h
  obtain ⟨w0, w1, w2, w3, w4, w5, w6, w7, w8, w9, w10⟩ := hw
  exact ⟨h0, h1, by rw [he _ (by omega)]; exact a2, by rw [he _ (by omega)]; exact a3, sg_congr a4 fun i y1 y2 => he i (by omega), by rw [he _ (by omega)]; exact a5, by rw [he _ (by omega)]; exact a6, fun i hi => sg_congr (a7 i hi) fun i y1 y2 => he i (by omega), fun c2 hc2 => (a8 c2 hc2).congr (w10 c2 hc2) fun i y1 y2 => he _ (by omega)⟩
