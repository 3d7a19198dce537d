/-! ===== a QuietLine's objects hold a system ===== -/
def nulP (P : Nat → Nat → Option Nat) (q : Nat) : Nat := psum (fun i => if P (q + 23 + 1) i = none then 1 else 0) 13
def stz : ST := st0 (fun _ => 0)
def chOf (il : Int) (ru : RU) : Nat := if il = 1 then (ru 5).toNat else 0
def frU (q nw : Nat) (N N' : Nat → Nat → Int) : Prop := ∀ y, (y = q ∨ y = q + 12 ∨ y = q + 13 ∨ y = q + 23 ∨ q + 101 ≤ y) → (y < nw ∨ nw + 76 ≤ y) → N' y = N y
def frV (q nw : Nat) (R R' : Nat → List Int) : Prop := ∀ y, (y = q + 2 ∨ y = q + 7 ∨ y = q + 9 ∨ q + 101 ≤ y) → (y < nw ∨ nw + 76 ≤ y) → R' y = R y
theorem StR.ag {N N' : Nat → Nat → Int} {R R' : Nat → List Int} {x ch : Nat} {tl : Nat → Int} {s : ST} (h : StR N R x ch tl s) (hch : ch ≤ 4) (f1 : ∀ y, x ≤ y → y < x + 76 → N' y = N y) (f2 : ∀ y, x ≤ y → y < x + 76 → R' y = R y) : StR N' R' x ch tl s := by
  obtain ⟨q1, q2, q3, q4, q5⟩ := h
  refine ⟨by rw [f2 (x + 1) (by omega) (by omega)]; exact q1, by rw [f2 (x + 3) (by omega) (by omega)]; exact q2, by rw [f2 (x + 5) (by omega) (by omega)]; exact q3, by rw [f1 x (by omega) (by omega)]; exact q4, fun k hk => ?_⟩
  obtain ⟨p1, ⟨p2, p3, p4⟩, ⟨p5, p6, p7⟩, p8⟩ := q5 k hk
  exact ⟨by rw [f1 _ (by omega) (by omega)]; exact p1, ⟨by rw [f2 _ (by omega) (by omega)]; exact p2, by rw [f2 _ (by omega) (by omega)]; exact p3, by rw [f2 _ (by omega) (by omega)]; exact p4⟩, ⟨by rw [f2 _ (by omega) (by omega)]; exact p5, by rw [f2 _ (by omega) (by omega)]; exact p6, by rw [f2 _ (by omega) (by omega)]; exact p7⟩, by rw [f2 _ (by omega) (by omega)]; exact p8⟩
def QlS (T : Nat → Nat) (q : Nat) : Prop := (T q = 12) ∧ (TaS T (q + 1)) ∧ (T (q + 7) = 100 + 600) ∧ (T (q + 9) = 100 + 120) ∧ (FrS T (q + 11)) ∧ (T (q + 21) = 11) ∧ (T (q + 22) = 1) ∧ (PaS T (q + 23)) ∧ (StS T (q + 25)) ∧ (StS T (q + 101)) ∧ (T (q + 177) = 20)
theorem QlS.t {T : Nat → Nat} {q : Nat} (h : QlS T q) : T q = 12 := h.1
theorem QlS.ta {T : Nat → Nat} {q : Nat} (h : QlS T q) : TaS T (q + 1) := h.2.1
theorem QlS.bx {T : Nat → Nat} {q : Nat} (h : QlS T q) : T (q + 7) = 100 + 600 := h.2.2.1
theorem QlS.hd {T : Nat → Nat} {q : Nat} (h : QlS T q) : T (q + 9) = 100 + 120 := h.2.2.2.1
theorem QlS.fr {T : Nat → Nat} {q : Nat} (h : QlS T q) : FrS T (q + 11) := h.2.2.2.2.1
theorem QlS.wk {T : Nat → Nat} {q : Nat} (h : QlS T q) : T (q + 21) = 11 := h.2.2.2.2.2.1
theorem QlS.dr {T : Nat → Nat} {q : Nat} (h : QlS T q) : T (q + 22) = 1 := h.2.2.2.2.2.2.1
theorem QlS.pa {T : Nat → Nat} {q : Nat} (h : QlS T q) : PaS T (q + 23) := h.2.2.2.2.2.2.2.1
theorem QlS.sp {T : Nat → Nat} {q : Nat} (h : QlS T q) : StS T (q + 25) := h.2.2.2.2.2.2.2.2.1
theorem QlS.kp {T : Nat → Nat} {q : Nat} (h : QlS T q) : StS T (q + 101) := h.2.2.2.2.2.2.2.2.2.1
theorem QlS.rf {T : Nat → Nat} {q : Nat} (h : QlS T q) : T (q + 177) = 20 := h.2.2.2.2.2.2.2.2.2.2
theorem QlS.fo {T T' : Nat → Nat} {q lo hi : Nat} (h : QlS T q) (hf : frO lo hi T T') (hx : q + 178 ≤ lo) : QlS T' q := by
  obtain ⟨h1, ⟨h2, h3, h4, h5, h6⟩, h7, h8, ⟨h9, ⟨h10, h11, h12⟩, h13, h14, h15⟩, h16, h17, ⟨h18, h19⟩, h20, h21, h22⟩ := h
  exact ⟨by rw [hf _ (by omega)]; exact h1, ⟨by rw [hf _ (by omega)]; exact h2, by rw [hf _ (by omega)]; exact h3, by rw [hf _ (by omega)]; exact h4, by rw [hf _ (by omega)]; exact h5, by rw [hf _ (by omega)]; exact h6⟩, by rw [hf _ (by omega)]; exact h7, by rw [hf _ (by omega)]; exact h8, ⟨by rw [hf _ (by omega)]; exact h9, ⟨by rw [hf _ (by omega)]; exact h10, by rw [hf _ (by omega)]; exact h11, by rw [hf _ (by omega)]; exact h12⟩, by rw [hf _ (by omega)]; exact h13, by rw [hf _ (by omega)]; exact h14, by rw [hf _ (by omega)]; exact h15⟩, by rw [hf _ (by omega)]; exact h16, by rw [hf _ (by omega)]; exact h17, ⟨by rw [hf _ (by omega)]; exact h18, by rw [hf _ (by omega)]; exact h19⟩, h20.fr hf (by omega), h21.fr hf (by omega), by rw [hf _ (by omega)]; exact h22⟩
def PaP (q : Nat) (T : Nat → Nat) (N : Nat → Nat → Int) (R : Nat → List Int) (P : Nat → Nat → Option Nat) (nw ch nx : Nat) (tl : Nat → Int) (s : ST) (ps : List ST) : Prop := (ch ≤ 4) ∧ (P q 10 = some nw) ∧ (q + 178 ≤ nw) ∧ (StS T nw) ∧ (StR N R nw ch tl s) ∧ (N (q + 23) 0 = (ps.length : Int)) ∧ (ps.length ≤ 12) ∧ (nx < 13) ∧ (N (q + 23) 2 = (nx : Int)) ∧ (∀ k, k < ps.length → ∃ w, P (q + 23 + 1) ((nx + 13 - ps.length + k) % 13) = some w ∧ StR N R w ch tl (ps.getD k stz)) ∧ (∀ i w, i < 13 → P (q + 23 + 1) i = some w → StS T w ∧ q + 178 ≤ w ∧ (w + 76 ≤ nw ∨ nw + 76 ≤ w)) ∧ (∀ i j w v, i < 13 → j < 13 → i ≠ j → P (q + 23 + 1) i = some w → P (q + 23 + 1) j = some v → w + 76 ≤ v ∨ v + 76 ≤ w)
theorem PaP.c4 {q : Nat} {T : Nat → Nat} {N : Nat → Nat → Int} {R : Nat → List Int} {P : Nat → Nat → Option Nat} {nw ch nx : Nat} {tl : Nat → Int} {s : ST} {ps : List ST} (h : PaP q T N R P nw ch nx tl s ps) : ch ≤ 4 := h.1
theorem PaP.now {q : Nat} {T : Nat → Nat} {N : Nat → Nat → Int} {R : Nat → List Int} {P : Nat → Nat → Option Nat} {nw ch nx : Nat} {tl : Nat → Int} {s : ST} {ps : List ST} (h : PaP q T N R P nw ch nx tl s ps) : P q 10 = some nw := h.2.1
theorem PaP.lo {q : Nat} {T : Nat → Nat} {N : Nat → Nat → Int} {R : Nat → List Int} {P : Nat → Nat → Option Nat} {nw ch nx : Nat} {tl : Nat → Int} {s : ST} {ps : List ST} (h : PaP q T N R P nw ch nx tl s ps) : q + 178 ≤ nw := h.2.2.1
theorem PaP.ns {q : Nat} {T : Nat → Nat} {N : Nat → Nat → Int} {R : Nat → List Int} {P : Nat → Nat → Option Nat} {nw ch nx : Nat} {tl : Nat → Int} {s : ST} {ps : List ST} (h : PaP q T N R P nw ch nx tl s ps) : StS T nw := h.2.2.2.1
theorem PaP.nr {q : Nat} {T : Nat → Nat} {N : Nat → Nat → Int} {R : Nat → List Int} {P : Nat → Nat → Option Nat} {nw ch nx : Nat} {tl : Nat → Int} {s : ST} {ps : List ST} (h : PaP q T N R P nw ch nx tl s ps) : StR N R nw ch tl s := h.2.2.2.2.1
theorem PaP.len {q : Nat} {T : Nat → Nat} {N : Nat → Nat → Int} {R : Nat → List Int} {P : Nat → Nat → Option Nat} {nw ch nx : Nat} {tl : Nat → Int} {s : ST} {ps : List ST} (h : PaP q T N R P nw ch nx tl s ps) : N (q + 23) 0 = (ps.length : Int) := h.2.2.2.2.2.1
theorem PaP.l12 {q : Nat} {T : Nat → Nat} {N : Nat → Nat → Int} {R : Nat → List Int} {P : Nat → Nat → Option Nat} {nw ch nx : Nat} {tl : Nat → Int} {s : ST} {ps : List ST} (h : PaP q T N R P nw ch nx tl s ps) : ps.length ≤ 12 := h.2.2.2.2.2.2.1
theorem PaP.hnx {q : Nat} {T : Nat → Nat} {N : Nat → Nat → Int} {R : Nat → List Int} {P : Nat → Nat → Option Nat} {nw ch nx : Nat} {tl : Nat → Int} {s : ST} {ps : List ST} (h : PaP q T N R P nw ch nx tl s ps) : nx < 13 := h.2.2.2.2.2.2.2.1
theorem PaP.nxt {q : Nat} {T : Nat → Nat} {N : Nat → Nat → Int} {R : Nat → List Int} {P : Nat → Nat → Option Nat} {nw ch nx : Nat} {tl : Nat → Int} {s : ST} {ps : List ST} (h : PaP q T N R P nw ch nx tl s ps) : N (q + 23) 2 = (nx : Int) := h.2.2.2.2.2.2.2.2.1
theorem PaP.win {q : Nat} {T : Nat → Nat} {N : Nat → Nat → Int} {R : Nat → List Int} {P : Nat → Nat → Option Nat} {nw ch nx : Nat} {tl : Nat → Int} {s : ST} {ps : List ST} (h : PaP q T N R P nw ch nx tl s ps) : ∀ k, k < ps.length → ∃ w, P (q + 23 + 1) ((nx + 13 - ps.length + k) % 13) = some w ∧ StR N R w ch tl (ps.getD k stz) := h.2.2.2.2.2.2.2.2.2.1
theorem PaP.own {q : Nat} {T : Nat → Nat} {N : Nat → Nat → Int} {R : Nat → List Int} {P : Nat → Nat → Option Nat} {nw ch nx : Nat} {tl : Nat → Int} {s : ST} {ps : List ST} (h : PaP q T N R P nw ch nx tl s ps) : ∀ i w, i < 13 → P (q + 23 + 1) i = some w → StS T w ∧ q + 178 ≤ w ∧ (w + 76 ≤ nw ∨ nw + 76 ≤ w) := h.2.2.2.2.2.2.2.2.2.2.1
theorem PaP.ap {q : Nat} {T : Nat → Nat} {N : Nat → Nat → Int} {R : Nat → List Int} {P : Nat → Nat → Option Nat} {nw ch nx : Nat} {tl : Nat → Int} {s : ST} {ps : List ST} (h : PaP q T N R P nw ch nx tl s ps) : ∀ i j w v, i < 13 → j < 13 → i ≠ j → P (q + 23 + 1) i = some w → P (q + 23 + 1) j = some v → w + 76 ≤ v ∨ v + 76 ≤ w := h.2.2.2.2.2.2.2.2.2.2.2
/-- the state that the next place keeps -/
def PaG (q : Nat) (N : Nat → Nat → Int) (R : Nat → List Int) (P : Nat → Nat → Option Nat) (ch nx : Nat) (tl : Nat → Int) (s : ST) : Prop := ∃ w, P (q + 23 + 1) nx = some w ∧ StR N R w ch tl s
section QL0
variable {T : Nat → Nat} {N N' : Nat → Nat → Int} {R R' : Nat → List Int} {P : Nat → Nat → Option Nat} {q nw ch nx : Nat} {tl : Nat → Int} {s s' s0 : ST} {ps : List ST}
theorem PaP.fr (h : PaP q T N R P nw ch nx tl s ps) (f1 : frU q nw N N') (f2 : frV q nw R R') (hs : StR N' R' nw ch tl s') : PaP q T N' R' P nw ch nx tl s' ps := by
  have h2 := h.lo
  refine ⟨h.c4, h.now, h.lo, h.ns, hs, by rw [f1 (q + 23) (by omega) (by omega)]; exact h.len, h.l12, h.hnx, by rw [f1 (q + 23) (by omega) (by omega)]; exact h.nxt, fun k hk => ?_, h.own, h.ap⟩
  obtain ⟨w, a1, a2⟩ := h.win k hk
  obtain ⟨b1, b2, b3⟩ := h.own _ w (Nat.mod_lt _ (by decide)) a1
  exact ⟨w, a1, a2.ag h.c4 (fun y h3 h4 => f1 y (by omega) (by omega)) (fun y h3 h4 => f2 y (by omega) (by omega))⟩
theorem PaG.fr (hg : PaG q N R P ch nx tl s0) (h : PaP q T N R P nw ch nx tl s ps) (f1 : frU q nw N N') (f2 : frV q nw R R') : PaG q N' R' P ch nx tl s0 := by
  obtain ⟨w, a1, a2⟩ := hg
  obtain ⟨b1, b2, b3⟩ := h.own _ w h.hnx a1
  exact ⟨w, a1, a2.ag h.c4 (fun y h3 h4 => f1 y (by omega) (by omega)) (fun y h3 h4 => f2 y (by omega) (by omega))⟩
theorem PaP.commit (h : PaP q T N R P nw ch nx tl s ps) (hg : PaG q N R P ch nx tl s0) (f : frO (q + 23) (q + 24) N N') (h2 : N' (q + 23) 2 = ((nx + 1) % 13 : Nat)) (h0 : N' (q + 23) 0 = (min 12 (ps.length + 1) : Nat)) : PaP q T N' R P nw ch ((nx + 1) % 13) tl s (kpF ps s0) := by
  have hl := h.lo
  have hnx := h.hnx
  have hl12 := h.l12
  have hk : (kpF ps s0).length = min 12 (ps.length + 1) := by
    unfold kpF
    rw [List.length_append]
    split
    · rw [List.length_drop, List.length_singleton]; omega
    · rw [List.length_singleton]; omega
  have ag : ∀ w k (x : ST), k < 13 → P (q + 23 + 1) k = some w → StR N R w ch tl x → StR N' R w ch tl x := fun w k x hk a1 a2 => by
    obtain ⟨b1, b2, b3⟩ := h.own _ w hk a1
    exact a2.fr h.c4 f frO.rf (b2 := 0) (a2 := 0) (by omega) (by omega)
  refine ⟨h.c4, h.now, h.lo, h.ns, h.nr.fr h.c4 f (frO.rf (lo := 0) (hi := 0)) (by omega) (by omega), by rw [h0, hk], by rw [hk]; omega, by omega, h2, fun k hk2 => ?_, h.own, h.ap⟩
  rw [hk] at hk2 ⊢
  by_cases e : k + 1 = min 12 (ps.length + 1)
  · obtain ⟨w, a1, a2⟩ := hg
    refine ⟨w, ?_, ?_⟩
    · rw [show ((nx + 1) % 13 + 13 - min 12 (ps.length + 1) + k) % 13 = nx by omega]; exact a1
    · have e3 : (kpF ps s0).getD k stz = s0 := by
        unfold kpF
        split
        · rw [List.getD_eq_getElem?_getD, List.getElem?_append_right (by rw [List.length_drop]; omega), List.length_drop, show k - (ps.length - 1) = 0 by omega]; rfl
        · rw [List.getD_eq_getElem?_getD, List.getElem?_append_right (by omega), show k - ps.length = 0 by omega]; rfl
      rw [e3]
      exact ag w nx _ hnx a1 a2
  · by_cases e12 : ps.length = 12
    · obtain ⟨w, a1, a2⟩ := h.win (k + 1) (by omega)
      refine ⟨w, ?_, ?_⟩
      · rw [show ((nx + 1) % 13 + 13 - min 12 (ps.length + 1) + k) % 13 = (nx + 13 - ps.length + (k + 1)) % 13 by omega]; exact a1
      · have e3 : (kpF ps s0).getD k stz = ps.getD (k + 1) stz := by
          unfold kpF
          rw [if_pos e12, List.getD_eq_getElem?_getD, List.getElem?_append_left (by rw [List.length_drop]; omega), List.getElem?_drop, List.getD_eq_getElem?_getD, Nat.add_comm]
        rw [e3]
        exact ag w _ _ (Nat.mod_lt _ (by decide)) a1 a2
    · obtain ⟨w, a1, a2⟩ := h.win k (by omega)
      refine ⟨w, ?_, ?_⟩
      · rw [show ((nx + 1) % 13 + 13 - min 12 (ps.length + 1) + k) % 13 = (nx + 13 - ps.length + k) % 13 by omega]; exact a1
      · have e3 : (kpF ps s0).getD k stz = ps.getD k stz := by
          unfold kpF
          rw [if_neg e12, List.getD_eq_getElem?_getD, List.getElem?_append_left (by omega), List.getD_eq_getElem?_getD]
        rw [e3]
        exact ag w _ _ (Nat.mod_lt _ (by decide)) a1 a2
end QL0
