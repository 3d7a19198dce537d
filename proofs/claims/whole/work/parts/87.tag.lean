/-! ===== cells that stand get their kinds ===== -/
theorem cP_congr2 {G : GT} {T T' : Nat → Nat} {N N' : Nat → Nat → Int} {R R' : Nat → List Int} {P P' : Nat → Nat → Option Nat} {S S' : Nat → Int64} {cp cp' : Nat → Nat} {x : Nat} (h0 : T' x = T x) (h1 : N' x = N x) (h2 : R' x = R x) (h3 : P' x = P x) (h4 : S' x = S x) (h5 : cp' x = cp x) : cP G T' N' R' P' S' cp' x = cP G T N R P S cp x := by
  unfold cP
  rw [h0, h1, h2, h3, h4, h5]
def FreeR (T : Nat → Nat) (F : HS) (cp : Nat → Nat) (a b : Nat) : Prop := ∀ w, a ≤ w → w < b → T w = 0 ∧ F w = none ∧ ∀ r, 100 ≤ T r → cp r ≠ w
def RQ (G : GT) (F σ : HS) (nn uu a b : Nat) (T : Nat → Nat) (N : Nat → Nat → Int) (R : Nat → List Int) (P : Nat → Nat → Option Nat) (S : Nat → Int64) (cn un : Nat) : Prop := ∃ cp cq, RelQ G F σ nn uu cp cq T N R P S cn un ∧ FreeR T F cp a b
section TAG
variable {G : GT} {F σ : HS} {nn uu a b : Nat} {T : Nat → Nat} {N : Nat → Nat → Int} {R : Nat → List Int} {P : Nat → Nat → Option Nat} {S : Nat → Int64} {cn un : Nat}
theorem RQ.obj {y t : Nat} {g : Nat → Int} {p : Nat → Option Nat} {s : Int64} {e : va_E} (h : RQ G F σ nn uu y b T N R P S cn un) (hy : y < b) (ht : 0 < t ∧ t < 100) (hg : ∀ k, rg (g k)) (he : ∀ cp, cP G (up T y t) (up N y g) R (up P y p) (up S y s) cp y = some e) (hσ : σ y = some e) : RQ G F σ nn uu (y + 1) b (up T y t) (up N y g) R (up P y p) (up S y s) cn un := by
  obtain ⟨cp, cq, ⟨k1, k2, k3, k4, k5, k6, k7, k8, k9⟩, hf⟩ := h
  obtain ⟨f1, f2, f3⟩ := hf y (Nat.le_refl _) hy
  have hr : ∀ z, 100 ≤ up T y t z → 100 ≤ T z ∧ z ≠ y := fun z hz => by
    by_cases ez : z = y
    · subst ez; rw [up_s] at hz; omega
    · rw [up_n ez] at hz; exact ⟨hz, ez⟩
  have pC : ∀ z, potC (up T y t) cq z = potC T cq z := fun z => by
    unfold potC
    by_cases ez : z = y
    · subst ez; rw [up_s, if_neg (by omega), if_neg (by omega)]
    · rw [up_n ez]
  have pU : ∀ z, potU (up T y t) cq z = potU T cq z := fun z => by
    unfold potU
    by_cases ez : z = y
    · subst ez; rw [up_s, if_neg (by omega), if_neg (by omega)]
    · rw [up_n ez]
  refine ⟨cp, cq, ⟨fun z e2 hz => ?_, fun z e2 hz => ?_, fun z hz => ?_, fun z w hz hw he2 => k4 z w (hr z hz).1 (hr w hw).1 he2, fun z k => ?_, ?_, ?_, k8, k9⟩, fun w hw1 hw2 => ?_⟩
  · by_cases ez : z = y
    · subst ez
      rw [he cp] at hz
      rw [← hz]
      exact hσ
    · rw [cP_congr2 (T := T) (N := N) (R := R) (P := P) (S := S) (cp := cp) (up_n ez) (up_n ez) rfl (up_n ez) (up_n ez) rfl] at hz
      exact k1 z e2 hz
  · obtain ⟨q1, q2⟩ := k2 z e2 hz
    refine ⟨q1, ?_⟩
    rw [up_n (fun ez => by rw [ez, f2] at hz; cases hz)]
    exact q2
  · obtain ⟨hz1, hz2⟩ := hr z hz
    obtain ⟨f, q1, q2, q3, q4⟩ := k3 z hz1
    refine ⟨f, q1, by rw [up_n hz2]; exact q2, ?_, q4⟩
    rw [up_n (f3 z hz1)]
    exact q3
  · by_cases ez : z = y
    · rw [ez, up_s]; exact hg k
    · rw [up_n ez]; exact k5 z k
  · rw [psum_congr nn (fun i _ => pC i)]; exact k6
  · rw [psum_congr nn (fun i _ => pU i)]; exact k7
  · obtain ⟨g1, g2, g3⟩ := hf w (by omega) hw2
    exact ⟨by rw [up_n (by omega)]; exact g1, g2, fun r hr2 => g3 r (hr r hr2).1⟩
theorem RQ.cast {a' cn' un' : Nat} (h : RQ G F σ nn uu a b T N R P S cn un) (h1 : a = a') (h2 : cn = cn') (h3 : un = un') : RQ G F σ nn uu a' b T N R P S cn' un' := by
  subst h1 h2 h3
  exact h
theorem potF_4 (lim : Nat) : potF lim 0 ≤ 4 := by
  unfold potF
  split
  · omega
  · split
    · omega
    · split
      · omega
      · split <;> omega
theorem RQ.row {y lim : Nat} (h : RQ G F σ nn uu y b T N R P S cn un) (hy : y + 2 ≤ b) (hbn : b ≤ nn) (hl : lim ≤ 960) (hC : RowC G σ y lim) (hN : cn + 4 ≤ gN G) (hU : un + 4 * lim ≤ gU G) : RQ G F σ nn uu (y + 2) b (up T y (100 + lim)) N (up R y []) P S (cn + 4) (un + 4 * lim) := by
  obtain ⟨cp, cq, ⟨k1, k2, k3, k4, k5, k6, k7, k8, k9⟩, hf⟩ := h
  obtain ⟨f1, f2, f3⟩ := hf y (Nat.le_refl _) (by omega)
  obtain ⟨e1, e2, e3⟩ := hf (y + 1) (by omega) (by omega)
  have hr : ∀ z, z ≠ y → 100 ≤ up T y (100 + lim) z → 100 ≤ T z := fun z ez hz => by rw [up_n ez] at hz; exact hz
  have h100 : 100 ≤ up T y (100 + lim) y := by rw [up_s]; omega
  have hp4 := potF_4 lim
  have hpm : potF lim 0 * lim ≤ 4 * lim := Nat.mul_le_mul_right _ hp4
  have pC := psum_at (f := potC T cq) (g := potC (up T y (100 + lim)) (up cq y 0)) (x := y) (fun j hj => by unfold potC; rw [up_n hj, up_n hj]) nn (by omega)
  have pU := psum_at (f := potU T cq) (g := potU (up T y (100 + lim)) (up cq y 0)) (x := y) (fun j hj => by unfold potU; rw [up_n hj, up_n hj]) nn (by omega)
  have c0 : potC T cq y = 0 := by unfold potC; rw [if_neg (by omega)]
  have u0 : potU T cq y = 0 := by unfold potU; rw [if_neg (by omega)]
  have c1 : potC (up T y (100 + lim)) (up cq y 0) y = potF lim 0 := by unfold potC; rw [if_pos h100, up_s, up_s, Nat.add_sub_cancel_left]
  have u1 : potU (up T y (100 + lim)) (up cq y 0) y = potF lim 0 * lim := by unfold potU; rw [if_pos h100, up_s, up_s, Nat.add_sub_cancel_left]
  refine ⟨up cp y (y + 1), up cq y 0, ⟨fun z e hz => ?_, fun z e hz => ?_, fun z hz => ?_, fun z w hz hw he => ?_, k5, by omega, by omega, hN, hU⟩, fun w hw1 hw2 => ?_⟩
  · by_cases ez : z = y
    · subst ez
      rw [cP_R h100, up_s, up_s, up_s, Nat.add_sub_cancel_left] at hz
      rw [← hz]
      exact hC.1
    · rw [cP_congr2 (T := T) (N := N) (R := R) (P := P) (S := S) (cp := cp) (up_n ez) rfl (up_n ez) rfl rfl (up_n ez)] at hz
      exact k1 z e hz
  · obtain ⟨q1, q2⟩ := k2 z e hz
    refine ⟨q1, ?_⟩
    rw [up_n (fun ez => by rw [ez, f2] at hz; cases hz)]
    exact q2
  · by_cases ez : z = y
    · subst ez
      refine ⟨fun _ => 0, by rw [up_s, up_s]; exact hC.2, ?_, ?_, by rw [up_s]; exact ⟨e2, by omega⟩⟩
      · rw [up_s, up_s, up_s, Nat.add_sub_cancel_left]
        exact ⟨Nat.le_refl _, Nat.zero_le _, hl, fun k hk => absurd hk (by simp), fun v hv => absurd hv List.not_mem_nil⟩
      · rw [up_s, up_n (by omega)]; exact e1
    · have hz1 := hr z ez hz
      obtain ⟨f, q1, q2, q3, q4⟩ := k3 z hz1
      refine ⟨f, by rw [up_n ez, up_n ez]; exact q1, by rw [up_n ez, up_n ez, up_n ez]; exact q2, ?_, by rw [up_n ez]; exact q4⟩
      rw [up_n ez, up_n (f3 z hz1)]
      exact q3
  · by_cases ez : z = y
    · by_cases ew : w = y
      · rw [ez, ew]
      · rw [ez, up_s, up_n ew] at he
        exact absurd he.symm (e3 w (hr w ew hw))
    · by_cases ew : w = y
      · rw [ew, up_s, up_n ez] at he
        exact absurd he (e3 z (hr z ez hz))
      · rw [up_n ez, up_n ew] at he
        exact k4 z w (hr z ez hz) (hr w ew hw) he
  · obtain ⟨g1, g2, g3⟩ := hf w (by omega) hw2
    refine ⟨by rw [up_n (by omega)]; exact g1, g2, fun r hr2 => ?_⟩
    by_cases er : r = y
    · rw [er, up_s]; omega
    · rw [up_n er]
      exact g3 r (hr r er hr2)
theorem RQ.mail {y : Nat} (h : RQ G F σ nn uu y b T N R P S cn un) (hy : y + 7 ≤ b) (hbn : b ≤ nn) (hC : MailC G σ y) (hN : cn + 12 ≤ gN G) (hU : un + 3904 ≤ gU G) : ∃ T' N' R' P' S', RQ G F σ nn uu (y + 7) b T' N' R' P' S' (cn + 12) (un + 3904) ∧ MaS T' y ∧ MaR R' y [] ∧ frO y (y + 7) T T' ∧ frO y (y + 7) N N' ∧ frO y (y + 7) R R' ∧ frO y (y + 7) P P' ∧ frO y (y + 7) S S' := by
  obtain ⟨c0, c1, c2, c3⟩ := hC
  have h1 := h.obj (t := 3) (g := fun _ => 0) (p := fun _ => none) (s := 0) (by omega) (by decide) (fun k => ⟨by decide, by decide⟩) (fun cp => by rw [cP_ob (t := 3) (up_s _ _ _) (by decide)]; rfl) c0
  have h2 := h1.row (lim := 960) (by omega) hbn (by decide) c1 (by omega) (by omega)
  have h3 := h2.row (lim := 8) (by omega) hbn (by decide) c2 (by omega) (by omega)
  have h4 := h3.row (lim := 8) (by omega) hbn (by decide) c3 (by omega) (by omega)
  refine ⟨_, _, _, _, _, h4.cast (by omega) (by omega) (by omega), ⟨?_, ?_, ?_, ?_⟩, ⟨?_, ?_, ?_⟩, (((frO.rf.up (by omega)).up (by omega)).up (by omega)).up (by omega), frO.rf.up (by omega), ((frO.rf.up (by omega)).up (by omega)).up (by omega), frO.rf.up (by omega), frO.rf.up (by omega)⟩
  · rw [up_n (by omega), up_n (by omega), up_n (by omega), up_s]
  · rw [up_n (by omega), up_n (by omega), up_s]
  · rw [up_n (by omega), up_s]
  · rw [up_s]
  · rw [up_n (by omega), up_n (by omega), up_s]; rfl
  · rw [up_n (by omega), up_s]; rfl
  · rw [up_s]; rfl
theorem MaS.fr {T T' : Nat → Nat} {x lo hi : Nat} (h : MaS T x) (hf : frO lo hi T T') (hx : x + 7 ≤ lo ∨ hi ≤ x) : MaS T' x := ⟨by rw [hf _ (by omega)]; exact h.1, by rw [hf _ (by omega)]; exact h.2.1, by rw [hf _ (by omega)]; exact h.2.2.1, by rw [hf _ (by omega)]; exact h.2.2.2⟩
theorem PoS.fr {T T' : Nat → Nat} {x lo hi : Nat} (h : PoS T x) (hf : frO lo hi T T') (hx : x + 17 ≤ lo ∨ hi ≤ x) : PoS T' x := ⟨by rw [hf _ (by omega)]; exact h.1, h.2.1.fr hf (by omega), h.2.2.1.fr hf (by omega), by rw [hf _ (by omega)]; exact h.2.2.2⟩
theorem StS.fr {T T' : Nat → Nat} {x lo hi : Nat} (h : StS T x) (hf : frO lo hi T T') (hx : x + 76 ≤ lo ∨ hi ≤ x) : StS T' x := ⟨by rw [hf _ (by omega)]; exact h.1, by rw [hf _ (by omega)]; exact h.2.1, by rw [hf _ (by omega)]; exact h.2.2.1, by rw [hf _ (by omega)]; exact h.2.2.2.1, by rw [hf _ (by omega)]; exact h.2.2.2.2.1, fun c hc => (h.2.2.2.2.2 c hc).fr hf (by omega)⟩
theorem RQ.port {y : Nat} (h : RQ G F σ nn uu y b T N R P S cn un) (hy : y + 17 ≤ b) (hbn : b ≤ nn) (hC : PortC G σ y) (hN : cn + 28 ≤ gN G) (hU : un + 8288 ≤ gU G) : ∃ T' N' R' P' S', RQ G F σ nn uu (y + 17) b T' N' R' P' S' (cn + 28) (un + 8288) ∧ PoS T' y ∧ frO y (y + 17) T T' ∧ frO y (y + 17) N N' ∧ frO y (y + 17) R R' ∧ frO y (y + 17) P P' ∧ frO y (y + 17) S S' := by
  obtain ⟨c0, c1, c2, c3⟩ := hC
  have h1 := h.obj (t := 5) (g := fun _ => 0) (p := fun _ => none) (s := 0) (by omega) (by decide) (fun k => ⟨by decide, by decide⟩) (fun cp => by rw [cP_ob (t := 5) (up_s _ _ _) (by decide), up_s, up_s, up_s]; rfl) c0
  obtain ⟨T2, N2, R2, P2, S2, h2, a1, a2, a3, a4, a5, a6, a7⟩ := h1.mail (by omega) hbn c1 (by omega) (by omega)
  obtain ⟨T3, N3, R3, P3, S3, h3, b1, b2, b3, b4, b5, b6, b7⟩ := h2.mail (by omega) hbn c2 (by omega) (by omega)
  have h4 := h3.row (lim := 120) (by omega) hbn (by decide) c3 (by omega) (by omega)
  refine ⟨_, _, _, _, _, h4.cast (by omega) (by omega) (by omega), ⟨?_, ?_, ?_, up_s _ _ _⟩, ((((frO.rf.up (by omega)).trans a3 (by omega)).trans b3 (by omega)).up (by omega)), (((frO.rf.up (by omega)).trans a4 (by omega)).trans b4 (by omega)), (((a5.wk (by omega)).trans b5 (by omega)).up (by omega)), (((frO.rf.up (by omega)).trans a6 (by omega)).trans b6 (by omega)), (((frO.rf.up (by omega)).trans a7 (by omega)).trans b7 (by omega))⟩
  · rw [up_n (by omega), b3 _ (by omega), a3 _ (by omega), up_s]
  · exact (a1.fr b3 (by omega)).fr (lo := y + 15) (hi := y + 16) (frO.rf.up (by omega)) (by omega)
  · exact b1.fr (lo := y + 15) (hi := y + 16) (frO.rf.up (by omega)) (by omega)
set_option maxRecDepth 20000 in
theorem RQ.state {y : Nat} (h : RQ G F σ nn uu y b T N R P S cn un) (hy : y + 76 ≤ b) (hbn : b ≤ nn) (hC : StateC G σ y) (hN : cn + 124 ≤ gN G) (hU : un + 37152 ≤ gU G) : ∃ T' N' R' P' S', RQ G F σ nn uu (y + 76) b T' N' R' P' S' (cn + 124) (un + 37152) ∧ StS T' y ∧ (∀ tl, StR N' R' y 0 tl (st0 (fun _ => 0))) ∧ frO y (y + 76) T T' ∧ frO y (y + 76) N N' ∧ frO y (y + 76) R R' ∧ frO y (y + 76) P P' ∧ frO y (y + 76) S S' := by
  obtain ⟨c0, c1, c2, c3, c4, c5⟩ := hC
  have h1 := h.obj (t := 8) (g := fun k => if k = 4 then -1 else 0) (p := fun _ => none) (s := 0) (by omega) (by decide) (fun k => by show rg (if k = 4 then -1 else 0); split <;> exact ⟨by decide, by decide⟩) (fun cp => by rw [cP_ob (t := 8) (up_s _ _ _) (by decide), up_s, up_s, up_s]; rfl) c0
  have h2 := h1.row (lim := 600) (by omega) hbn (by decide) c1 (by omega) (by omega)
  have h3 := h2.row (lim := 200) (by omega) hbn (by decide) c2 (by omega) (by omega)
  have h4 := h3.row (lim := 200) (by omega) hbn (by decide) c3 (by omega) (by omega)
  have h5 := h4.obj (t := 21) (g := fun _ => 0) (p := fun _ => none) (s := 0) (by omega) (by decide) (fun k => ⟨by decide, by decide⟩) (fun cp => by rw [cP_21 (up_s _ _ _)]) c4
  obtain ⟨T6, N6, R6, P6, S6, h6, a1, a2, a3, a4, a5, a6⟩ := h5.port (by omega) hbn (c5 0 (by decide)) (by omega) (by omega)
  have h6 := h6.cast (a' := y + 7 + 1 + 17) (cn' := cn + 40) (un' := un + 12288) (by omega) (by omega) (by omega)
  obtain ⟨T7, N7, R7, P7, S7, h7, b1, b2, b3, b4, b5, b6⟩ := h6.port (y := y + 7 + 1 + 17) (by omega) hbn (c5 1 (by decide)) (by omega) (by omega)
  have h7 := h7.cast (a' := y + 7 + 1 + 34) (cn' := cn + 68) (un' := un + 20576) (by omega) (by omega) (by omega)
  obtain ⟨T8, N8, R8, P8, S8, h8, d1, d2, d3, d4, d5, d6⟩ := h7.port (y := y + 7 + 1 + 34) (by omega) hbn (c5 2 (by decide)) (by omega) (by omega)
  have h8 := h8.cast (a' := y + 7 + 1 + 51) (cn' := cn + 96) (un' := un + 28864) (by omega) (by omega) (by omega)
  obtain ⟨T9, N9, R9, P9, S9, h9, e1, e2, e3, e4, e5, e6⟩ := h8.port (y := y + 7 + 1 + 51) (by omega) hbn (c5 3 (by decide)) (by omega) (by omega)
  have fT : ∀ w, w < y + 8 → T9 w = up (up (up (up (up T y 8) (y + 1) (100 + 600)) (y + 1 + 2) (100 + 200)) (y + 1 + 2 + 2) (100 + 200)) (y + 1 + 2 + 2 + 2) 21 w := fun w hw => by rw [e2 w (by omega), d2 w (by omega), b2 w (by omega), a2 w (by omega)]
  have fN : ∀ w, w < y + 8 → N9 w = up (up N y (fun k => if k = 4 then -1 else 0)) (y + 1 + 2 + 2 + 2) (fun _ => 0) w := fun w hw => by rw [e3 w (by omega), d3 w (by omega), b3 w (by omega), a3 w (by omega)]
  have fR : ∀ w, w < y + 8 → R9 w = up (up (up R (y + 1) []) (y + 1 + 2) []) (y + 1 + 2 + 2) [] w := fun w hw => by rw [e4 w (by omega), d4 w (by omega), b4 w (by omega), a4 w (by omega)]
  refine ⟨T9, N9, R9, P9, S9, h9.cast (by omega) (by omega) (by omega), ⟨?_, ?_, ?_, ?_, ?_, ?_⟩, fun tl => ⟨?_, ?_, ?_, ?_, fun c hc => by omega⟩, ?_, ?_, ?_, ?_, ?_⟩
  · rw [fT _ (by omega), up_n (by omega), up_n (by omega), up_n (by omega), up_n (by omega), up_s]
  · rw [fT _ (by omega), up_n (by omega), up_n (by omega), up_n (by omega), up_s]
  · rw [fT _ (by omega), up_n (by omega), up_n (by omega), up_s]
  · rw [fT _ (by omega), up_n (by omega), up_s]
  · rw [fT _ (by omega), up_s]
  · intro c hc
    have : c = 0 ∨ c = 1 ∨ c = 2 ∨ c = 3 := by omega
    rcases this with rfl | rfl | rfl | rfl
    · exact ((a1.fr b2 (by omega)).fr d2 (by omega)).fr e2 (by omega)
    · exact (b1.fr d2 (by omega)).fr e2 (by omega)
    · exact d1.fr e2 (by omega)
    · exact e1
  · rw [fR _ (by omega), up_n (by omega), up_n (by omega), up_s]; rfl
  · rw [fR _ (by omega), up_n (by omega), up_s]; rfl
  · rw [fR _ (by omega), up_s]; rfl
  · rw [fN y (by omega), up_n (by omega), up_s]
    exact ⟨rfl, rfl, rfl, rfl⟩
  · exact ((((((((frO.rf.up (by omega)).up (by omega)).up (by omega)).up (by omega)).up (by omega)).trans a2 (by omega)).trans b2 (by omega)).trans d2 (by omega)).trans e2 (by omega)
  · exact (((((frO.rf.up (by omega)).up (by omega)).trans a3 (by omega)).trans b3 (by omega)).trans d3 (by omega)).trans e3 (by omega)
  · exact ((((((frO.rf.up (by omega)).up (by omega)).up (by omega)).trans a4 (by omega)).trans b4 (by omega)).trans d4 (by omega)).trans e4 (by omega)
  · exact (((((frO.rf.up (by omega)).up (by omega)).trans a5 (by omega)).trans b5 (by omega)).trans d5 (by omega)).trans e5 (by omega)
  · exact (((((frO.rf.up (by omega)).up (by omega)).trans a6 (by omega)).trans b6 (by omega)).trans d6 (by omega)).trans e6 (by omega)
/-- the heap has grown: what was there stays -/
theorem RQ.grow {σ' : HS} {nn' uu' : Nat} {cp cq : Nat → Nat} (h : RelQ G F σ nn uu cp cq T N R P S cn un) (lt : ∀ z e, σ z = some e → z < nn) (hs : ∀ z, z < nn → σ' z = σ z) (h1 : nn ≤ nn') (h2 : uu ≤ uu') (hN : cn + (nn' - nn) ≤ gN G) (hU : un + (uu' - uu) ≤ gU G) : RQ G F σ' nn' uu' nn nn' T N R P S (cn + (nn' - nn)) (un + (uu' - uu)) := by
  obtain ⟨k1, k2, k3, k4, k5, k6, k7, k8, k9⟩ := h
  have hT0 : ∀ z, nn ≤ z → T z = 0 := fun z hz => by
    by_cases e : T z = 0
    · exact e
    · obtain ⟨e9, he9⟩ := cP_some (G := G) N R P S cp e
      have := lt z _ (k1 z _ he9)
      omega
  have eC := psum_0 (g := potC T cq) (n := nn) (fun i hi => by unfold potC; rw [hT0 i hi]; rfl) nn' h1
  have eU := psum_0 (g := potU T cq) (n := nn) (fun i hi => by unfold potU; rw [hT0 i hi]; rfl) nn' h1
  refine ⟨cp, cq, ⟨fun z e hz => ?_, fun z e hz => ?_, fun z hz => ?_, k4, k5, by omega, by omega, hN, hU⟩, fun w hw1 hw2 => ⟨hT0 w hw1, ?_, fun r hr e => ?_⟩⟩
  · have := k1 z e hz
    rw [hs z (lt z e this)]
    exact this
  · obtain ⟨q1, q2⟩ := k2 z e hz
    rw [hs z (lt z e q1)]
    exact ⟨q1, q2⟩
  · obtain ⟨f, q1, q2, q3, q4⟩ := k3 z hz
    exact ⟨f, by rw [hs _ (lt _ _ q1)]; exact q1, q2, q3, q4.1, by have := q4.2; omega⟩
  · cases hF : F w with
    | none => rfl
    | some e9 => have := lt w e9 (k2 w e9 hF).1; omega
  · obtain ⟨f, q1, -⟩ := k3 r hr
    have := lt _ _ q1
    omega
end TAG
