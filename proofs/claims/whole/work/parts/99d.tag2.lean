/-! ===== a new QuietLine holds the first system ===== -/
def ru1 : RU := fun k => if k = 1 then 20 else if k = 2 then 10 else if k = 3 then 1 else if k = 4 then 16 else 0
def sy0 : SY := ([], [], [], (fun _ => 0), 0, ru1, (fun _ => 0), st0 (fun _ => 0), [], none)
def g7f : Nat → Int := fun k => if k = 3 then 1 else if k = 4 then 16 else 0
def g9f : Nat → Int := fun k => if k = 0 then 20 else 10
theorem g7f_rg (k : Nat) : rg (g7f k) := by
  unfold g7f
  repeat' split
  all_goals exact ⟨by decide, by decide⟩
theorem g9f_rg (k : Nat) : rg (g9f k) := by
  unfold g9f
  split <;> exact ⟨by decide, by decide⟩
section TAG2
variable {G : GT} {F σ : HS} {nn uu a b : Nat} {T : Nat → Nat} {N : Nat → Nat → Int} {R : Nat → List Int} {P : Nat → Nat → Option Nat} {S : Nat → Int64} {cn un : Nat}
theorem RQ.objE {y : Nat} (t : Nat) (g : Nat → Int) (p : Nat → Option Nat) {e : va_E} (h : RQ G F σ nn uu y b T N R P S cn un) (hy : y < b) (ht : 0 < t ∧ t < 100) (hg : ∀ k, rg (g k)) (he : ∀ (T' : Nat → Nat) (N' : Nat → Nat → Int) (P' : Nat → Nat → Option Nat) (S' : Nat → Int64) (cp : Nat → Nat), T' y = t → N' y = g → P' y = p → S' y = 0 → cP G T' N' R P' S' cp y = some e) (hσ : σ y = some e) : ∃ T' N' P' S', RQ G F σ nn uu (y + 1) b T' N' R P' S' cn un ∧ T' y = t ∧ N' y = g ∧ P' y = p ∧ frO y (y + 1) T T' ∧ frO y (y + 1) N N' ∧ frO y (y + 1) P P' ∧ frO y (y + 1) S S' :=
  ⟨_, _, _, _, h.obj (t := t) (g := g) (p := p) (s := 0) hy ht hg (fun cp => he _ _ _ _ cp (up_s _ _ _) (up_s _ _ _) (up_s _ _ _) (up_s _ _ _)) hσ, up_s _ _ _, up_s _ _ _, up_s _ _ _, frO.rf.up (by omega), frO.rf.up (by omega), frO.rf.up (by omega), frO.rf.up (by omega)⟩
theorem RQ.rowE {y : Nat} (lim : Nat) (h : RQ G F σ nn uu y b T N R P S cn un) (hy : y + 2 ≤ b) (hbn : b ≤ nn) (hl : lim ≤ 960) (hC : RowC G σ y lim) (hN : cn + 4 ≤ gN G) (hU : un + 4 * lim ≤ gU G) : ∃ T' R', RQ G F σ nn uu (y + 2) b T' N R' P S (cn + 4) (un + 4 * lim) ∧ T' y = 100 + lim ∧ R' y = [] ∧ frO y (y + 2) T T' ∧ frO y (y + 2) R R' :=
  ⟨_, _, h.row hy hbn hl hC hN hU, up_s _ _ _, up_s _ _ _, frO.rf.up (by omega), frO.rf.up (by omega)⟩
set_option maxRecDepth 20000 in
theorem RQ.quiet {q : Nat} (h : RQ G F σ nn uu q b T N R P S cn un) (hy : q + 254 ≤ b) (hbn : b ≤ nn) (hC : QuietC G σ q) (hN : cn + 396 ≤ gN G) (hU : un + 121136 ≤ gU G) : ∃ T' N' R' P' S', RQ G F σ nn uu (q + 254) b T' N' R' P' S' (cn + 396) (un + 121136) ∧ frO q (q + 254) T T' ∧ frO q (q + 254) N N' ∧ frO q (q + 254) R R' ∧ frO q (q + 254) P P' ∧ frO q (q + 254) S S' ∧ ∀ c0 u0 cn' un', cn' + 2600 ≤ c0 → un' + 485277 ≤ u0 → RepP q c0 u0 (T', N', R', P', S', cn', un') sy0 := by
  obtain ⟨c0, c1, c2, c3, c4, c5, c6, c7, c8, c9, c10, c11⟩ := hC
  obtain ⟨T1, N1, P1, S1, h1, at1, an1, ap1, ft1, fn1, fp1, fs1⟩ := h.objE 12 (fun _ => 0) (fun k => if k = 10 then some (q + 178) else none) (by omega) (by decide) (fun k => ⟨by decide, by decide⟩) (fun T' N' P' S' cp e1 e2 e3 e4 => by rw [cP_ob (t := 12) e1 (by decide), e2, e3, e4]; rfl) c0
  have h1 := h1.cast (a' := q + 1) (cn' := cn + 0) (un' := un + 0) (by omega) (by omega) (by omega)
  obtain ⟨T2, N2, P2, S2, h2, at2, an2, ap2, ft2, fn2, fp2, fs2⟩ := h1.objE 10 (fun _ => 0) (fun _ => none) (by omega) (by decide) (fun k => ⟨by decide, by decide⟩) (fun T' N' P' S' cp e1 e2 e3 e4 => by rw [cP_ob (t := 10) e1 (by decide), e2, e3, e4]; rfl) c1.1
  have h2 := h2.cast (a' := q + 2) (cn' := cn + 0) (un' := un + 0) (by omega) (by omega) (by omega)
  obtain ⟨T3, R3, h3, at3, ar3, ft3, fr3⟩ := h2.rowE 300 (by omega) hbn (by decide) c1.2.1 (by omega) (by omega)
  have h3 := h3.cast (a' := q + 4) (cn' := cn + 4) (un' := un + 1200) (by omega) (by omega) (by omega)
  obtain ⟨T4, N4, P4, S4, h4, at4, an4, ap4, ft4, fn4, fp4, fs4⟩ := h3.objE 7 g7f (fun _ => none) (by omega) (by decide) (g7f_rg) (fun T' N' P' S' cp e1 e2 e3 e4 => by rw [cP_ob (t := 7) e1 (by decide), e2, e3, e4]; rfl) c1.2.2.1
  have h4 := h4.cast (a' := q + 5) (cn' := cn + 4) (un' := un + 1200) (by omega) (by omega) (by omega)
  obtain ⟨T5, N5, P5, S5, h5, at5, an5, ap5, ft5, fn5, fp5, fs5⟩ := h4.objE 9 g9f (fun _ => none) (by omega) (by decide) (g9f_rg) (fun T' N' P' S' cp e1 e2 e3 e4 => by rw [cP_ob (t := 9) e1 (by decide), e2, e3, e4]; rfl) c1.2.2.2.1
  have h5 := h5.cast (a' := q + 6) (cn' := cn + 4) (un' := un + 1200) (by omega) (by omega) (by omega)
  obtain ⟨T6, N6, P6, S6, h6, at6, an6, ap6, ft6, fn6, fp6, fs6⟩ := h5.objE 20 (fun _ => 0) (fun _ => none) (by omega) (by decide) (fun k => ⟨by decide, by decide⟩) (fun T' N' P' S' cp e1 e2 e3 e4 => by rw [cP_20 e1, e2]; rfl) c1.2.2.2.2
  have h6 := h6.cast (a' := q + 7) (cn' := cn + 4) (un' := un + 1200) (by omega) (by omega) (by omega)
  obtain ⟨T7, R7, h7, at7, ar7, ft7, fr7⟩ := h6.rowE 600 (by omega) hbn (by decide) c2 (by omega) (by omega)
  have h7 := h7.cast (a' := q + 9) (cn' := cn + 8) (un' := un + 3600) (by omega) (by omega) (by omega)
  obtain ⟨T8, R8, h8, at8, ar8, ft8, fr8⟩ := h7.rowE 120 (by omega) hbn (by decide) c3 (by omega) (by omega)
  have h8 := h8.cast (a' := q + 11) (cn' := cn + 12) (un' := un + 4080) (by omega) (by omega) (by omega)
  obtain ⟨T9, N9, P9, S9, h9, at9, an9, ap9, ft9, fn9, fp9, fs9⟩ := h8.objE 2 (fun _ => 0) (fun _ => none) (by omega) (by decide) (fun k => ⟨by decide, by decide⟩) (fun T' N' P' S' cp e1 e2 e3 e4 => by rw [cP_ob (t := 2) e1 (by decide), e2, e3, e4]; rfl) c4.1
  have h9 := h9.cast (a' := q + 12) (cn' := cn + 12) (un' := un + 4080) (by omega) (by omega) (by omega)
  obtain ⟨T10, N10, P10, S10, h10, at10, an10, ap10, ft10, fn10, fp10, fs10⟩ := h9.objE 7 g7f (fun _ => none) (by omega) (by decide) (g7f_rg) (fun T' N' P' S' cp e1 e2 e3 e4 => by rw [cP_ob (t := 7) e1 (by decide), e2, e3, e4]; rfl) c4.2.1.1
  have h10 := h10.cast (a' := q + 13) (cn' := cn + 12) (un' := un + 4080) (by omega) (by omega) (by omega)
  obtain ⟨T11, N11, P11, S11, h11, at11, an11, ap11, ft11, fn11, fp11, fs11⟩ := h10.objE 9 g9f (fun _ => none) (by omega) (by decide) (g9f_rg) (fun T' N' P' S' cp e1 e2 e3 e4 => by rw [cP_ob (t := 9) e1 (by decide), e2, e3, e4]; rfl) c4.2.1.2.1
  have h11 := h11.cast (a' := q + 14) (cn' := cn + 12) (un' := un + 4080) (by omega) (by omega) (by omega)
  obtain ⟨T12, N12, P12, S12, h12, at12, an12, ap12, ft12, fn12, fp12, fs12⟩ := h11.objE 20 (fun _ => 0) (fun _ => none) (by omega) (by decide) (fun k => ⟨by decide, by decide⟩) (fun T' N' P' S' cp e1 e2 e3 e4 => by rw [cP_20 e1, e2]; rfl) c4.2.1.2.2
  have h12 := h12.cast (a' := q + 15) (cn' := cn + 12) (un' := un + 4080) (by omega) (by omega) (by omega)
  obtain ⟨T13, R13, h13, at13, ar13, ft13, fr13⟩ := h12.rowE 600 (by omega) hbn (by decide) c4.2.2.1 (by omega) (by omega)
  have h13 := h13.cast (a' := q + 17) (cn' := cn + 16) (un' := un + 6480) (by omega) (by omega) (by omega)
  obtain ⟨T14, R14, h14, at14, ar14, ft14, fr14⟩ := h13.rowE 600 (by omega) hbn (by decide) c4.2.2.2.1 (by omega) (by omega)
  have h14 := h14.cast (a' := q + 19) (cn' := cn + 20) (un' := un + 8880) (by omega) (by omega) (by omega)
  obtain ⟨T15, R15, h15, at15, ar15, ft15, fr15⟩ := h14.rowE 200 (by omega) hbn (by decide) c4.2.2.2.2 (by omega) (by omega)
  have h15 := h15.cast (a' := q + 21) (cn' := cn + 24) (un' := un + 9680) (by omega) (by omega) (by omega)
  obtain ⟨T16, N16, P16, S16, h16, at16, an16, ap16, ft16, fn16, fp16, fs16⟩ := h15.objE 11 (fun _ => 0) (fun _ => none) (by omega) (by decide) (fun k => ⟨by decide, by decide⟩) (fun T' N' P' S' cp e1 e2 e3 e4 => by rw [cP_ob (t := 11) e1 (by decide), e2, e3, e4]; rfl) c5
  have h16 := h16.cast (a' := q + 22) (cn' := cn + 24) (un' := un + 9680) (by omega) (by omega) (by omega)
  obtain ⟨T17, N17, P17, S17, h17, at17, an17, ap17, ft17, fn17, fp17, fs17⟩ := h16.objE 1 (fun _ => 0) (fun _ => none) (by omega) (by decide) (fun k => ⟨by decide, by decide⟩) (fun T' N' P' S' cp e1 e2 e3 e4 => by rw [cP_ob (t := 1) e1 (by decide), e2, e3, e4]; rfl) c6
  have h17 := h17.cast (a' := q + 23) (cn' := cn + 24) (un' := un + 9680) (by omega) (by omega) (by omega)
  obtain ⟨T18, N18, P18, S18, h18, at18, an18, ap18, ft18, fn18, fp18, fs18⟩ := h17.objE 4 (fun _ => 0) (fun _ => none) (by omega) (by decide) (fun k => ⟨by decide, by decide⟩) (fun T' N' P' S' cp e1 e2 e3 e4 => by rw [cP_ob (t := 4) e1 (by decide), e2, e3, e4]; rfl) c7.1
  have h18 := h18.cast (a' := q + 24) (cn' := cn + 24) (un' := un + 9680) (by omega) (by omega) (by omega)
  obtain ⟨T19, N19, P19, S19, h19, at19, an19, ap19, ft19, fn19, fp19, fs19⟩ := h18.objE 22 (fun _ => 0) (fun _ => none) (by omega) (by decide) (fun k => ⟨by decide, by decide⟩) (fun T' N' P' S' cp e1 e2 e3 e4 => by rw [cP_22 e1, e3]) c7.2
  have h19 := h19.cast (a' := q + 25) (cn' := cn + 24) (un' := un + 9680) (by omega) (by omega) (by omega)
  obtain ⟨T20, N20, R20, P20, S20, h20, at20, ast20, ft20, fn20, fr20, fp20, fs20⟩ := h19.state (by omega) hbn c8 (by omega) (by omega)
  have h20 := h20.cast (a' := q + 101) (cn' := cn + 148) (un' := un + 46832) (by omega) (by omega) (by omega)
  obtain ⟨T21, N21, R21, P21, S21, h21, at21, ast21, ft21, fn21, fr21, fp21, fs21⟩ := h20.state (by omega) hbn c9 (by omega) (by omega)
  have h21 := h21.cast (a' := q + 177) (cn' := cn + 272) (un' := un + 83984) (by omega) (by omega) (by omega)
  obtain ⟨T22, N22, P22, S22, h22, at22, an22, ap22, ft22, fn22, fp22, fs22⟩ := h21.objE 20 (fun _ => 0) (fun _ => none) (by omega) (by decide) (fun k => ⟨by decide, by decide⟩) (fun T' N' P' S' cp e1 e2 e3 e4 => by rw [cP_20 e1, e2]; rfl) c10
  have h22 := h22.cast (a' := q + 178) (cn' := cn + 272) (un' := un + 83984) (by omega) (by omega) (by omega)
  obtain ⟨T23, N23, R23, P23, S23, h23, at23, ast23, ft23, fn23, fr23, fp23, fs23⟩ := h22.state (by omega) hbn c11 (by omega) (by omega)
  have tt0 : T23 (q) = 12 := by rw [ft23 (q) (by omega), ft22 (q) (by omega), ft21 (q) (by omega), ft20 (q) (by omega), ft19 (q) (by omega), ft18 (q) (by omega), ft17 (q) (by omega), ft16 (q) (by omega), ft15 (q) (by omega), ft14 (q) (by omega), ft13 (q) (by omega), ft12 (q) (by omega), ft11 (q) (by omega), ft10 (q) (by omega), ft9 (q) (by omega), ft8 (q) (by omega), ft7 (q) (by omega), ft6 (q) (by omega), ft5 (q) (by omega), ft4 (q) (by omega), ft3 (q) (by omega), ft2 (q) (by omega)]; exact at1
  have vn0 : N23 (q) = (fun _ => 0) := by rw [fn23 (q) (by omega), fn22 (q) (by omega), fn21 (q) (by omega), fn20 (q) (by omega), fn19 (q) (by omega), fn18 (q) (by omega), fn17 (q) (by omega), fn16 (q) (by omega), fn12 (q) (by omega), fn11 (q) (by omega), fn10 (q) (by omega), fn9 (q) (by omega), fn6 (q) (by omega), fn5 (q) (by omega), fn4 (q) (by omega), fn2 (q) (by omega)]; exact an1
  have vp0 : P23 (q) = (fun k => if k = 10 then some (q + 178) else none) := by rw [fp23 (q) (by omega), fp22 (q) (by omega), fp21 (q) (by omega), fp20 (q) (by omega), fp19 (q) (by omega), fp18 (q) (by omega), fp17 (q) (by omega), fp16 (q) (by omega), fp12 (q) (by omega), fp11 (q) (by omega), fp10 (q) (by omega), fp9 (q) (by omega), fp6 (q) (by omega), fp5 (q) (by omega), fp4 (q) (by omega), fp2 (q) (by omega)]; exact ap1
  have tt1 : T23 (q + 1) = 10 := by rw [ft23 (q + 1) (by omega), ft22 (q + 1) (by omega), ft21 (q + 1) (by omega), ft20 (q + 1) (by omega), ft19 (q + 1) (by omega), ft18 (q + 1) (by omega), ft17 (q + 1) (by omega), ft16 (q + 1) (by omega), ft15 (q + 1) (by omega), ft14 (q + 1) (by omega), ft13 (q + 1) (by omega), ft12 (q + 1) (by omega), ft11 (q + 1) (by omega), ft10 (q + 1) (by omega), ft9 (q + 1) (by omega), ft8 (q + 1) (by omega), ft7 (q + 1) (by omega), ft6 (q + 1) (by omega), ft5 (q + 1) (by omega), ft4 (q + 1) (by omega), ft3 (q + 1) (by omega)]; exact at2
  have tt2 : T23 (q + 2) = 100 + 300 := by rw [ft23 (q + 2) (by omega), ft22 (q + 2) (by omega), ft21 (q + 2) (by omega), ft20 (q + 2) (by omega), ft19 (q + 2) (by omega), ft18 (q + 2) (by omega), ft17 (q + 2) (by omega), ft16 (q + 2) (by omega), ft15 (q + 2) (by omega), ft14 (q + 2) (by omega), ft13 (q + 2) (by omega), ft12 (q + 2) (by omega), ft11 (q + 2) (by omega), ft10 (q + 2) (by omega), ft9 (q + 2) (by omega), ft8 (q + 2) (by omega), ft7 (q + 2) (by omega), ft6 (q + 2) (by omega), ft5 (q + 2) (by omega), ft4 (q + 2) (by omega)]; exact at3
  have rr2 : R23 (q + 2) = [] := by rw [fr23 (q + 2) (by omega), fr21 (q + 2) (by omega), fr20 (q + 2) (by omega), fr15 (q + 2) (by omega), fr14 (q + 2) (by omega), fr13 (q + 2) (by omega), fr8 (q + 2) (by omega), fr7 (q + 2) (by omega)]; exact ar3
  have tt4 : T23 (q + 4) = 7 := by rw [ft23 (q + 4) (by omega), ft22 (q + 4) (by omega), ft21 (q + 4) (by omega), ft20 (q + 4) (by omega), ft19 (q + 4) (by omega), ft18 (q + 4) (by omega), ft17 (q + 4) (by omega), ft16 (q + 4) (by omega), ft15 (q + 4) (by omega), ft14 (q + 4) (by omega), ft13 (q + 4) (by omega), ft12 (q + 4) (by omega), ft11 (q + 4) (by omega), ft10 (q + 4) (by omega), ft9 (q + 4) (by omega), ft8 (q + 4) (by omega), ft7 (q + 4) (by omega), ft6 (q + 4) (by omega), ft5 (q + 4) (by omega)]; exact at4
  have tt5 : T23 (q + 5) = 9 := by rw [ft23 (q + 5) (by omega), ft22 (q + 5) (by omega), ft21 (q + 5) (by omega), ft20 (q + 5) (by omega), ft19 (q + 5) (by omega), ft18 (q + 5) (by omega), ft17 (q + 5) (by omega), ft16 (q + 5) (by omega), ft15 (q + 5) (by omega), ft14 (q + 5) (by omega), ft13 (q + 5) (by omega), ft12 (q + 5) (by omega), ft11 (q + 5) (by omega), ft10 (q + 5) (by omega), ft9 (q + 5) (by omega), ft8 (q + 5) (by omega), ft7 (q + 5) (by omega), ft6 (q + 5) (by omega)]; exact at5
  have tt6 : T23 (q + 6) = 20 := by rw [ft23 (q + 6) (by omega), ft22 (q + 6) (by omega), ft21 (q + 6) (by omega), ft20 (q + 6) (by omega), ft19 (q + 6) (by omega), ft18 (q + 6) (by omega), ft17 (q + 6) (by omega), ft16 (q + 6) (by omega), ft15 (q + 6) (by omega), ft14 (q + 6) (by omega), ft13 (q + 6) (by omega), ft12 (q + 6) (by omega), ft11 (q + 6) (by omega), ft10 (q + 6) (by omega), ft9 (q + 6) (by omega), ft8 (q + 6) (by omega), ft7 (q + 6) (by omega)]; exact at6
  have tt7 : T23 (q + 7) = 100 + 600 := by rw [ft23 (q + 7) (by omega), ft22 (q + 7) (by omega), ft21 (q + 7) (by omega), ft20 (q + 7) (by omega), ft19 (q + 7) (by omega), ft18 (q + 7) (by omega), ft17 (q + 7) (by omega), ft16 (q + 7) (by omega), ft15 (q + 7) (by omega), ft14 (q + 7) (by omega), ft13 (q + 7) (by omega), ft12 (q + 7) (by omega), ft11 (q + 7) (by omega), ft10 (q + 7) (by omega), ft9 (q + 7) (by omega), ft8 (q + 7) (by omega)]; exact at7
  have rr7 : R23 (q + 7) = [] := by rw [fr23 (q + 7) (by omega), fr21 (q + 7) (by omega), fr20 (q + 7) (by omega), fr15 (q + 7) (by omega), fr14 (q + 7) (by omega), fr13 (q + 7) (by omega), fr8 (q + 7) (by omega)]; exact ar7
  have tt9 : T23 (q + 9) = 100 + 120 := by rw [ft23 (q + 9) (by omega), ft22 (q + 9) (by omega), ft21 (q + 9) (by omega), ft20 (q + 9) (by omega), ft19 (q + 9) (by omega), ft18 (q + 9) (by omega), ft17 (q + 9) (by omega), ft16 (q + 9) (by omega), ft15 (q + 9) (by omega), ft14 (q + 9) (by omega), ft13 (q + 9) (by omega), ft12 (q + 9) (by omega), ft11 (q + 9) (by omega), ft10 (q + 9) (by omega), ft9 (q + 9) (by omega)]; exact at8
  have rr9 : R23 (q + 9) = [] := by rw [fr23 (q + 9) (by omega), fr21 (q + 9) (by omega), fr20 (q + 9) (by omega), fr15 (q + 9) (by omega), fr14 (q + 9) (by omega), fr13 (q + 9) (by omega)]; exact ar8
  have tt11 : T23 (q + 11) = 2 := by rw [ft23 (q + 11) (by omega), ft22 (q + 11) (by omega), ft21 (q + 11) (by omega), ft20 (q + 11) (by omega), ft19 (q + 11) (by omega), ft18 (q + 11) (by omega), ft17 (q + 11) (by omega), ft16 (q + 11) (by omega), ft15 (q + 11) (by omega), ft14 (q + 11) (by omega), ft13 (q + 11) (by omega), ft12 (q + 11) (by omega), ft11 (q + 11) (by omega), ft10 (q + 11) (by omega)]; exact at9
  have tt12 : T23 (q + 12) = 7 := by rw [ft23 (q + 12) (by omega), ft22 (q + 12) (by omega), ft21 (q + 12) (by omega), ft20 (q + 12) (by omega), ft19 (q + 12) (by omega), ft18 (q + 12) (by omega), ft17 (q + 12) (by omega), ft16 (q + 12) (by omega), ft15 (q + 12) (by omega), ft14 (q + 12) (by omega), ft13 (q + 12) (by omega), ft12 (q + 12) (by omega), ft11 (q + 12) (by omega)]; exact at10
  have tt13 : T23 (q + 13) = 9 := by rw [ft23 (q + 13) (by omega), ft22 (q + 13) (by omega), ft21 (q + 13) (by omega), ft20 (q + 13) (by omega), ft19 (q + 13) (by omega), ft18 (q + 13) (by omega), ft17 (q + 13) (by omega), ft16 (q + 13) (by omega), ft15 (q + 13) (by omega), ft14 (q + 13) (by omega), ft13 (q + 13) (by omega), ft12 (q + 13) (by omega)]; exact at11
  have vn13 : N23 (q + 13) = g9f := by rw [fn23 (q + 13) (by omega), fn22 (q + 13) (by omega), fn21 (q + 13) (by omega), fn20 (q + 13) (by omega), fn19 (q + 13) (by omega), fn18 (q + 13) (by omega), fn17 (q + 13) (by omega), fn16 (q + 13) (by omega), fn12 (q + 13) (by omega)]; exact an11
  have tt14 : T23 (q + 14) = 20 := by rw [ft23 (q + 14) (by omega), ft22 (q + 14) (by omega), ft21 (q + 14) (by omega), ft20 (q + 14) (by omega), ft19 (q + 14) (by omega), ft18 (q + 14) (by omega), ft17 (q + 14) (by omega), ft16 (q + 14) (by omega), ft15 (q + 14) (by omega), ft14 (q + 14) (by omega), ft13 (q + 14) (by omega)]; exact at12
  have tt15 : T23 (q + 15) = 100 + 600 := by rw [ft23 (q + 15) (by omega), ft22 (q + 15) (by omega), ft21 (q + 15) (by omega), ft20 (q + 15) (by omega), ft19 (q + 15) (by omega), ft18 (q + 15) (by omega), ft17 (q + 15) (by omega), ft16 (q + 15) (by omega), ft15 (q + 15) (by omega), ft14 (q + 15) (by omega)]; exact at13
  have tt17 : T23 (q + 17) = 100 + 600 := by rw [ft23 (q + 17) (by omega), ft22 (q + 17) (by omega), ft21 (q + 17) (by omega), ft20 (q + 17) (by omega), ft19 (q + 17) (by omega), ft18 (q + 17) (by omega), ft17 (q + 17) (by omega), ft16 (q + 17) (by omega), ft15 (q + 17) (by omega)]; exact at14
  have tt19 : T23 (q + 19) = 100 + 200 := by rw [ft23 (q + 19) (by omega), ft22 (q + 19) (by omega), ft21 (q + 19) (by omega), ft20 (q + 19) (by omega), ft19 (q + 19) (by omega), ft18 (q + 19) (by omega), ft17 (q + 19) (by omega), ft16 (q + 19) (by omega)]; exact at15
  have tt21 : T23 (q + 21) = 11 := by rw [ft23 (q + 21) (by omega), ft22 (q + 21) (by omega), ft21 (q + 21) (by omega), ft20 (q + 21) (by omega), ft19 (q + 21) (by omega), ft18 (q + 21) (by omega), ft17 (q + 21) (by omega)]; exact at16
  have tt22 : T23 (q + 22) = 1 := by rw [ft23 (q + 22) (by omega), ft22 (q + 22) (by omega), ft21 (q + 22) (by omega), ft20 (q + 22) (by omega), ft19 (q + 22) (by omega), ft18 (q + 22) (by omega)]; exact at17
  have tt23 : T23 (q + 23) = 4 := by rw [ft23 (q + 23) (by omega), ft22 (q + 23) (by omega), ft21 (q + 23) (by omega), ft20 (q + 23) (by omega), ft19 (q + 23) (by omega)]; exact at18
  have vn23 : N23 (q + 23) = (fun _ => 0) := by rw [fn23 (q + 23) (by omega), fn22 (q + 23) (by omega), fn21 (q + 23) (by omega), fn20 (q + 23) (by omega), fn19 (q + 23) (by omega)]; exact an18
  have tt24 : T23 (q + 24) = 22 := by rw [ft23 (q + 24) (by omega), ft22 (q + 24) (by omega), ft21 (q + 24) (by omega), ft20 (q + 24) (by omega)]; exact at19
  have vp24 : P23 (q + 24) = (fun _ => none) := by rw [fp23 (q + 24) (by omega), fp22 (q + 24) (by omega), fp21 (q + 24) (by omega), fp20 (q + 24) (by omega)]; exact ap19
  have tt25 : StS T23 (q + 25) := (((at20.fr ft21 (by omega)).fr ft22 (by omega)).fr ft23 (by omega))
  have ss25 : ∀ tl, StR N23 R23 (q + 25) 0 tl (st0 (fun _ => 0)) := fun tl => (ast20 tl).ag (by decide) (fun y p1 p2 => by rw [fn23 (y) (by omega), fn22 (y) (by omega), fn21 (y) (by omega)]) (fun y p1 p2 => by rw [fr23 (y) (by omega), fr21 (y) (by omega)])
  have tt101 : StS T23 (q + 101) := ((at21.fr ft22 (by omega)).fr ft23 (by omega))
  have ss101 : ∀ tl, StR N23 R23 (q + 101) 0 tl (st0 (fun _ => 0)) := fun tl => (ast21 tl).ag (by decide) (fun y p1 p2 => by rw [fn23 (y) (by omega), fn22 (y) (by omega)]) (fun y p1 p2 => by rw [fr23 (y) (by omega)])
  have tt177 : T23 (q + 177) = 20 := by rw [ft23 (q + 177) (by omega)]; exact at22
  have vn177 : N23 (q + 177) = (fun _ => 0) := by rw [fn23 (q + 177) (by omega)]; exact an22
  have tt178 : StS T23 (q + 178) := at23
  have ss178 : ∀ tl, StR N23 R23 (q + 178) 0 tl (st0 (fun _ => 0)) := ast23
  refine ⟨T23, N23, R23, P23, S23, h23.cast (by omega) (by omega) (by omega), (((((((((((((((((((((((ft1.wk (by omega)).trans ft2 (by omega)).trans ft3 (by omega)).trans ft4 (by omega)).trans ft5 (by omega)).trans ft6 (by omega)).trans ft7 (by omega)).trans ft8 (by omega)).trans ft9 (by omega)).trans ft10 (by omega)).trans ft11 (by omega)).trans ft12 (by omega)).trans ft13 (by omega)).trans ft14 (by omega)).trans ft15 (by omega)).trans ft16 (by omega)).trans ft17 (by omega)).trans ft18 (by omega)).trans ft19 (by omega)).trans ft20 (by omega)).trans ft21 (by omega)).trans ft22 (by omega)).trans ft23 (by omega)), (((((((((((((((((fn1.wk (by omega)).trans fn2 (by omega)).trans fn4 (by omega)).trans fn5 (by omega)).trans fn6 (by omega)).trans fn9 (by omega)).trans fn10 (by omega)).trans fn11 (by omega)).trans fn12 (by omega)).trans fn16 (by omega)).trans fn17 (by omega)).trans fn18 (by omega)).trans fn19 (by omega)).trans fn20 (by omega)).trans fn21 (by omega)).trans fn22 (by omega)).trans fn23 (by omega)), (((((((((fr3.wk (by omega)).trans fr7 (by omega)).trans fr8 (by omega)).trans fr13 (by omega)).trans fr14 (by omega)).trans fr15 (by omega)).trans fr20 (by omega)).trans fr21 (by omega)).trans fr23 (by omega)), (((((((((((((((((fp1.wk (by omega)).trans fp2 (by omega)).trans fp4 (by omega)).trans fp5 (by omega)).trans fp6 (by omega)).trans fp9 (by omega)).trans fp10 (by omega)).trans fp11 (by omega)).trans fp12 (by omega)).trans fp16 (by omega)).trans fp17 (by omega)).trans fp18 (by omega)).trans fp19 (by omega)).trans fp20 (by omega)).trans fp21 (by omega)).trans fp22 (by omega)).trans fp23 (by omega)), (((((((((((((((((fs1.wk (by omega)).trans fs2 (by omega)).trans fs4 (by omega)).trans fs5 (by omega)).trans fs6 (by omega)).trans fs9 (by omega)).trans fs10 (by omega)).trans fs11 (by omega)).trans fs12 (by omega)).trans fs16 (by omega)).trans fs17 (by omega)).trans fs18 (by omega)).trans fs19 (by omega)).trans fs20 (by omega)).trans fs21 (by omega)).trans fs22 (by omega)).trans fs23 (by omega)), fun c0 u0 cn' un' hc hu => ?_⟩
  have hnul : nulP P23 q = 13 := by
    unfold nulP
    rw [show q + 23 + 1 = q + 24 from rfl, vp24]
    rfl
  refine ⟨q + 178, 0, ⟨tt0, ⟨tt1, tt2, tt4, tt5, tt6⟩, tt7, tt9, ⟨tt11, ⟨tt12, tt13, tt14⟩, tt15, tt17, tt19⟩, tt21, tt22, ⟨tt23, tt24⟩, tt25, tt101, tt177⟩, rr2, rr7, rr9, fun k hk => by rw [vn177], by rw [vn0], by rw [vn0]; rfl, ?_, ?_, fun e => absurd e (by decide), ⟨by decide, by rw [vp0]; rfl, by omega, tt178, ss178 _, by rw [vn23]; rfl, by decide, by decide, by rw [vn23]; rfl, fun k hk => absurd hk (Nat.not_lt_zero k), fun i w hi e => ?_, fun i j w v hi hj hij e => ?_⟩, fun x hx => (by cases hx), ?_⟩
  · show N23 (q + 13) 0 = 20
    rw [vn13]; rfl
  · show N23 (q + 13) 1 = 10
    rw [vn13]; rfl
  · rw [show q + 23 + 1 = q + 24 from rfl, vp24] at e
    cases e
  · rw [show q + 23 + 1 = q + 24 from rfl, vp24] at e
    cases e
  · rw [hnul]
    omega
end TAG2
