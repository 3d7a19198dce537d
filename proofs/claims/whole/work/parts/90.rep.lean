def RepQ (q c0 u0 : Nat) (T : Nat → Nat) (N : Nat → Nat → Int) (R : Nat → List Int) (P : Nat → Nat → Option Nat) (cn un nw nx : Nat) (tp bx hd : List Int) (rf : Nat → Int) (il : Int) (ru : RU) (tl : Nat → Int) (s : ST) (ps : List ST) (im : Option ST) : Prop := (QlS T q) ∧ (R (q + 1 + 1) = tp) ∧ (R (q + 7) = bx) ∧ (R (q + 9) = hd) ∧ (∀ k, k < 4 → N (q + 177) k = rf k) ∧ (N q 11 = il) ∧ (N q 12 = (if im.isSome then 1 else 0)) ∧ (N (q + 11 + 1 + 1) 0 = ru 1) ∧ (N (q + 11 + 1 + 1) 1 = ru 2) ∧ (il = 1 → RuP N (q + 11 + 1) ru) ∧ (PaP q T N R P nw (chOf il ru) nx tl s ps) ∧ (∀ x, im = some x → StR N R (q + 101) (chOf il ru) tl x) ∧ (cn + 200 * nulP P q ≤ c0 ∧ un + 37329 * nulP P q ≤ u0)
theorem RepQ.sh {q c0 u0 : Nat} {T : Nat → Nat} {N : Nat → Nat → Int} {R : Nat → List Int} {P : Nat → Nat → Option Nat} {cn un nw nx : Nat} {tp bx hd : List Int} {rf : Nat → Int} {il : Int} {ru : RU} {tl : Nat → Int} {s : ST} {ps : List ST} {im : Option ST} (h : RepQ q c0 u0 T N R P cn un nw nx tp bx hd rf il ru tl s ps im) : QlS T q := h.1
theorem RepQ.tp' {q c0 u0 : Nat} {T : Nat → Nat} {N : Nat → Nat → Int} {R : Nat → List Int} {P : Nat → Nat → Option Nat} {cn un nw nx : Nat} {tp bx hd : List Int} {rf : Nat → Int} {il : Int} {ru : RU} {tl : Nat → Int} {s : ST} {ps : List ST} {im : Option ST} (h : RepQ q c0 u0 T N R P cn un nw nx tp bx hd rf il ru tl s ps im) : R (q + 1 + 1) = tp := h.2.1
theorem RepQ.bx' {q c0 u0 : Nat} {T : Nat → Nat} {N : Nat → Nat → Int} {R : Nat → List Int} {P : Nat → Nat → Option Nat} {cn un nw nx : Nat} {tp bx hd : List Int} {rf : Nat → Int} {il : Int} {ru : RU} {tl : Nat → Int} {s : ST} {ps : List ST} {im : Option ST} (h : RepQ q c0 u0 T N R P cn un nw nx tp bx hd rf il ru tl s ps im) : R (q + 7) = bx := h.2.2.1
theorem RepQ.hd' {q c0 u0 : Nat} {T : Nat → Nat} {N : Nat → Nat → Int} {R : Nat → List Int} {P : Nat → Nat → Option Nat} {cn un nw nx : Nat} {tp bx hd : List Int} {rf : Nat → Int} {il : Int} {ru : RU} {tl : Nat → Int} {s : ST} {ps : List ST} {im : Option ST} (h : RepQ q c0 u0 T N R P cn un nw nx tp bx hd rf il ru tl s ps im) : R (q + 9) = hd := h.2.2.2.1
theorem RepQ.rf' {q c0 u0 : Nat} {T : Nat → Nat} {N : Nat → Nat → Int} {R : Nat → List Int} {P : Nat → Nat → Option Nat} {cn un nw nx : Nat} {tp bx hd : List Int} {rf : Nat → Int} {il : Int} {ru : RU} {tl : Nat → Int} {s : ST} {ps : List ST} {im : Option ST} (h : RepQ q c0 u0 T N R P cn un nw nx tp bx hd rf il ru tl s ps im) : ∀ k, k < 4 → N (q + 177) k = rf k := h.2.2.2.2.1
theorem RepQ.il' {q c0 u0 : Nat} {T : Nat → Nat} {N : Nat → Nat → Int} {R : Nat → List Int} {P : Nat → Nat → Option Nat} {cn un nw nx : Nat} {tp bx hd : List Int} {rf : Nat → Int} {il : Int} {ru : RU} {tl : Nat → Int} {s : ST} {ps : List ST} {im : Option ST} (h : RepQ q c0 u0 T N R P cn un nw nx tp bx hd rf il ru tl s ps im) : N q 11 = il := h.2.2.2.2.2.1
theorem RepQ.im' {q c0 u0 : Nat} {T : Nat → Nat} {N : Nat → Nat → Int} {R : Nat → List Int} {P : Nat → Nat → Option Nat} {cn un nw nx : Nat} {tp bx hd : List Int} {rf : Nat → Int} {il : Int} {ru : RU} {tl : Nat → Int} {s : ST} {ps : List ST} {im : Option ST} (h : RepQ q c0 u0 T N R P cn un nw nx tp bx hd rf il ru tl s ps im) : N q 12 = (if im.isSome then 1 else 0) := h.2.2.2.2.2.2.1
theorem RepQ.r1 {q c0 u0 : Nat} {T : Nat → Nat} {N : Nat → Nat → Int} {R : Nat → List Int} {P : Nat → Nat → Option Nat} {cn un nw nx : Nat} {tp bx hd : List Int} {rf : Nat → Int} {il : Int} {ru : RU} {tl : Nat → Int} {s : ST} {ps : List ST} {im : Option ST} (h : RepQ q c0 u0 T N R P cn un nw nx tp bx hd rf il ru tl s ps im) : N (q + 11 + 1 + 1) 0 = ru 1 := h.2.2.2.2.2.2.2.1
theorem RepQ.r2 {q c0 u0 : Nat} {T : Nat → Nat} {N : Nat → Nat → Int} {R : Nat → List Int} {P : Nat → Nat → Option Nat} {cn un nw nx : Nat} {tp bx hd : List Int} {rf : Nat → Int} {il : Int} {ru : RU} {tl : Nat → Int} {s : ST} {ps : List ST} {im : Option ST} (h : RepQ q c0 u0 T N R P cn un nw nx tp bx hd rf il ru tl s ps im) : N (q + 11 + 1 + 1) 1 = ru 2 := h.2.2.2.2.2.2.2.2.1
theorem RepQ.ru' {q c0 u0 : Nat} {T : Nat → Nat} {N : Nat → Nat → Int} {R : Nat → List Int} {P : Nat → Nat → Option Nat} {cn un nw nx : Nat} {tp bx hd : List Int} {rf : Nat → Int} {il : Int} {ru : RU} {tl : Nat → Int} {s : ST} {ps : List ST} {im : Option ST} (h : RepQ q c0 u0 T N R P cn un nw nx tp bx hd rf il ru tl s ps im) : il = 1 → RuP N (q + 11 + 1) ru := h.2.2.2.2.2.2.2.2.2.1
theorem RepQ.pa {q c0 u0 : Nat} {T : Nat → Nat} {N : Nat → Nat → Int} {R : Nat → List Int} {P : Nat → Nat → Option Nat} {cn un nw nx : Nat} {tp bx hd : List Int} {rf : Nat → Int} {il : Int} {ru : RU} {tl : Nat → Int} {s : ST} {ps : List ST} {im : Option ST} (h : RepQ q c0 u0 T N R P cn un nw nx tp bx hd rf il ru tl s ps im) : PaP q T N R P nw (chOf il ru) nx tl s ps := h.2.2.2.2.2.2.2.2.2.2.1
theorem RepQ.ke {q c0 u0 : Nat} {T : Nat → Nat} {N : Nat → Nat → Int} {R : Nat → List Int} {P : Nat → Nat → Option Nat} {cn un nw nx : Nat} {tp bx hd : List Int} {rf : Nat → Int} {il : Int} {ru : RU} {tl : Nat → Int} {s : ST} {ps : List ST} {im : Option ST} (h : RepQ q c0 u0 T N R P cn un nw nx tp bx hd rf il ru tl s ps im) : ∀ x, im = some x → StR N R (q + 101) (chOf il ru) tl x := h.2.2.2.2.2.2.2.2.2.2.2.1
theorem RepQ.ro {q c0 u0 : Nat} {T : Nat → Nat} {N : Nat → Nat → Int} {R : Nat → List Int} {P : Nat → Nat → Option Nat} {cn un nw nx : Nat} {tp bx hd : List Int} {rf : Nat → Int} {il : Int} {ru : RU} {tl : Nat → Int} {s : ST} {ps : List ST} {im : Option ST} (h : RepQ q c0 u0 T N R P cn un nw nx tp bx hd rf il ru tl s ps im) : cn + 200 * nulP P q ≤ c0 ∧ un + 37329 * nulP P q ≤ u0 := h.2.2.2.2.2.2.2.2.2.2.2.2
def RepP (q c0 u0 : Nat) : PT → SY → Prop
  | (T, N, R, P, _, cn, un), (tp, bx, hd, rf, il, ru, tl, s, ps, im) => ∃ nw nx, RepQ q c0 u0 T N R P cn un nw nx tp bx hd rf il ru tl s ps im
section REP
variable {G : GT} {F : HS} {d : Nat} {T : Nat → Nat} {N N' : Nat → Nat → Int} {R R' : Nat → List Int} {P : Nat → Nat → Option Nat} {S : Nat → Int64} {cn un : Nat} {post : Option Value → PT → Prop} {q c0 u0 nw nx : Nat} {tp bx hd : List Int} {rf : Nat → Int} {il : Int} {ru : RU} {tl : Nat → Int} {s s' s0 : ST} {ps : List ST} {im : Option ST} {b : Int}
theorem RepQ.cx (h : RepQ q c0 u0 T N R P cn un nw nx tp bx hd rf il ru tl s ps im) : (T q = 12 ∧ T (q + 1) = 10 ∧ T (q + 1 + 1) = 100 + 300 ∧ T (q + 7) = 100 + 600 ∧ T (q + 9) = 100 + 120) ∧ (T (q + 11) = 2 ∧ T (q + 11 + 1) = 7 ∧ T (q + 11 + 1 + 1) = 9 ∧ T (q + 21) = 11 ∧ T (q + 22) = 1 ∧ T (q + 23) = 4) ∧ (T (q + 25) = 8 ∧ T (q + 25 + 1) = 100 + 600 ∧ T (q + 101) = 8 ∧ T (q + 177) = 20) ∧ T nw = 8 ∧ T (nw + 1) = 100 + 600 ∧ T (nw + 3) = 100 + 200 ∧ T (nw + 5) = 100 + 200 ∧ P q 10 = some nw ∧ q + 178 ≤ nw :=
  ⟨⟨h.sh.t, h.sh.ta.1, h.sh.ta.2.1, h.sh.bx, h.sh.hd⟩, ⟨h.sh.fr.1, h.sh.fr.2.1.1, h.sh.fr.2.1.2.1, h.sh.wk, h.sh.dr, h.sh.pa.1⟩, ⟨h.sh.sp.1, h.sh.sp.2.1, h.sh.kp.1, h.sh.rf⟩, h.pa.ns.1, h.pa.ns.2.1, h.pa.ns.2.2.1, h.pa.ns.2.2.2.1, h.pa.now, h.pa.lo⟩
theorem RepQ.fr (h : RepQ q c0 u0 T N R P cn un nw nx tp bx hd rf il ru tl s ps im) (f1 : frU q nw N N') (f2 : frV q nw R R') (hs : StR N' R' nw (chOf il ru) tl s') : RepQ q c0 u0 T N' R' P cn un nw nx tp bx hd rf il ru tl s' ps im := by
  have hl := h.pa.lo
  refine ⟨h.sh, by rw [f2 (q + 1 + 1) (by omega) (by omega)]; exact h.tp', by rw [f2 (q + 7) (by omega) (by omega)]; exact h.bx', by rw [f2 (q + 9) (by omega) (by omega)]; exact h.hd', fun k hk => by rw [f1 (q + 177) (by omega) (by omega)]; exact h.rf' k hk, by rw [f1 q (by omega) (by omega)]; exact h.il', by rw [f1 q (by omega) (by omega)]; exact h.im', by rw [f1 (q + 11 + 1 + 1) (by omega) (by omega)]; exact h.r1, by rw [f1 (q + 11 + 1 + 1) (by omega) (by omega)]; exact h.r2, fun e => ?_, h.pa.fr f1 f2 hs, fun x hx => ?_, h.ro⟩
  · obtain ⟨a1, a2, a3, a4, a5, a6⟩ := h.ru' e
    have e1 := f1 (q + 11 + 1) (by omega) (by omega)
    have e2 := f1 (q + 11 + 1 + 1) (by omega) (by omega)
    exact ⟨by rw [e1]; exact a1, by rw [e2]; exact a2, by rw [e2]; exact a3, by rw [e1]; exact a4, by rw [e1]; exact a5, by rw [e1]; exact a6⟩
  · exact (h.ke x hx).ag h.pa.c4 (fun y h3 h4 => f1 y (by omega) (by omega)) (fun y h3 h4 => f2 y (by omega) (by omega))
/-- only what is used by the way has changed -/
theorem RepQ.scr (h : RepQ q c0 u0 T N R P cn un nw nx tp bx hd rf il ru tl s ps im) (f1 : ∀ y, (y = q ∨ y = q + 12 ∨ y = q + 13 ∨ y = q + 23 ∨ q + 101 ≤ y) → N' y = N y) (f2 : ∀ y, (y = q + 2 ∨ y = q + 7 ∨ y = q + 9 ∨ q + 101 ≤ y) → R' y = R y) : RepQ q c0 u0 T N' R' P cn un nw nx tp bx hd rf il ru tl s ps im :=
  h.fr (fun y h1 _ => f1 y h1) (fun y h1 _ => f2 y h1) (h.pa.nr.ag h.pa.c4 (fun y h3 h4 => f1 y (by have := h.pa.lo; omega)) (fun y h3 h4 => f2 y (by have := h.pa.lo; omega)))
/-- TAPE, BOX, HAND changed -/
theorem RepQ.rows {tp' bx' hd' : List Int} (h : RepQ q c0 u0 T N R P cn un nw nx tp bx hd rf il ru tl s ps im) (f2 : ∀ y, q + 101 ≤ y → R' y = R y) (h1 : R' (q + 1 + 1) = tp') (h2 : R' (q + 7) = bx') (h3 : R' (q + 9) = hd') : RepQ q c0 u0 T N R' P cn un nw nx tp' bx' hd' rf il ru tl s ps im := by
  have hl := h.pa.lo
  refine ⟨h.sh, h1, h2, h3, h.rf', h.il', h.im', h.r1, h.r2, h.ru', ⟨h.pa.c4, h.pa.now, h.pa.lo, h.pa.ns, h.pa.nr.ag h.pa.c4 (fun _ _ _ => rfl) (fun y _ _ => f2 y (by omega)), h.pa.len, h.pa.l12, h.pa.hnx, h.pa.nxt, fun k hk => ?_, h.pa.own, h.pa.ap⟩, fun x hx => (h.ke x hx).ag h.pa.c4 (fun _ _ _ => rfl) (fun y _ _ => f2 y (by omega)), h.ro⟩
  obtain ⟨w, a1, a2⟩ := h.pa.win k hk
  obtain ⟨b1, b2, b3⟩ := h.pa.own _ w (Nat.mod_lt _ (by decide)) a1
  exact ⟨w, a1, a2.ag h.pa.c4 (fun _ _ _ => rfl) (fun y _ _ => f2 y (by omega))⟩
theorem RepQ.out (h : RepQ q c0 u0 T N R P cn un nw nx tp bx hd rf il ru tl s ps im) : RepP q c0 u0 (T, N, R, P, S, cn, un) (tp, bx, hd, rf, il, ru, tl, s, ps, im) := ⟨nw, nx, h⟩
theorem u_now {y : MethodName} {cc : ByteArray} {nL : Nat} {rt : Option FieldType} {pc : Nat} {L : List (Option Value)} {st : List Value} {x i z : Nat} (q : Nat) (hd : decode cc pc = .ok (.getfield i, 3)) (hq : pc + 3 = q) (hw : Cond.fieldLink y.cls i (TX11 10).1 (TX11 10).2.1 (TX11 10).2.2.1 ∈ gTB) (kk : V G (AP G F) y cc nL rt d (T, N, R, P, S, cn, un) q L (.ref z :: st) post) (hT : T x = 12 := by assumption) (hP : P x 10 = some z := by assumption) : V G (AP G F) y cc nL rt d (T, N, R, P, S, cn, un) pc L (.ref x :: st) post := g_X11_now q hd hq hw (by rw [hP]; exact kk) hT
theorem u_stage (h : RepQ q c0 u0 T N R P cn un nw nx tp bx hd rf il ru tl s ps im) (hw : WfSt b (chOf il ru) s) (hb : b ≤ 99000000) (hc : c0 ≤ gN G) (hu : u0 ≤ gU G) (hp : ∀ T' N' R' P' S' cn' un', RepQ q c0 u0 T' N' R' P' cn' un' nw nx tp bx hd rf il ru tl s ps im → PaG q N' R' P' (chOf il ru) nx tl s → post none (T', N', R', P', S', cn', un')) : Cm G (AP G F) yX3_stage cX3_stage 2 none (d + 6) [.ref (q + 23), .ref nw] (T, N, R, P, S, cn, un) post := by
  have hl := h.pa.lo
  have hnx := h.pa.hnx
  refine q_stage h.sh.pa h.pa.nxt hnx h.pa.ns h.pa.nr hw hb h.pa.c4 (fun w hw => ?_) (fun e => ?_) (fun T' N' R' P' S' cn' un' w a1 a2 a3 a4 a5 a6 a7 a8 a9 => ?_)
  · obtain ⟨b1, b2, b3⟩ := h.pa.own _ w hnx hw
    exact ⟨b1, by omega, by omega⟩
  · have hr := h.ro
    have : 1 ≤ nulP P q := by
      have e2 := psum_at (f := fun i => if P (q + 23 + 1) i = none then 1 else 0) (g := fun i => if i = nx then 0 else if P (q + 23 + 1) i = none then 1 else 0) (x := nx) (fun j hj => if_neg hj) 13 hnx
      simp only [e, if_true] at e2
      unfold nulP
      omega
    omega
  · have hw1 : q + 178 ≤ w := by
      rcases a9 with ⟨e, -, -⟩ | ⟨-, -, -, e, -⟩
      · exact (h.pa.own _ w hnx e).2.1
      · have := h.sh.rf
        by_cases e2 : w ≤ q + 177
        · rw [e _ e2] at this; omega
        · omega
    have hap : ∀ v, StS T v → (∀ j, j ≠ nx → j < 13 → P (q + 23 + 1) j = some v → v + 76 ≤ w ∨ w + 76 ≤ v) ∧ (v = nw → v + 76 ≤ w ∨ w + 76 ≤ v) := fun v hv => by
      rcases a9 with ⟨e, -, -⟩ | ⟨-, -, -, -, e⟩
      · exact ⟨fun j hj hj2 e2 => h.pa.ap j nx v w hj2 hnx hj e2 e, fun e2 => by
          obtain ⟨b1, b2, b3⟩ := h.pa.own _ w hnx e
          omega⟩
      · have h9 := hv.2.2.2.2.2 3 (by decide)
        have h8 := e _ (show 100 ≤ T (v + 7 + 1 + 17 * 3 + 15) by rw [h9.2.2.2]; decide)
        exact ⟨fun _ _ _ _ => by omega, fun _ => by omega⟩
    have hnw := (hap nw h.pa.ns).2 rfl
    have pP : ∀ j, j ≠ nx → P' (q + 23 + 1) j = P (q + 23 + 1) j := fun j hj => by rw [a1, up_n hj]
    have own' : ∀ i v, i < 13 → P' (q + 23 + 1) i = some v → StS T' v ∧ q + 178 ≤ v ∧ (v + 76 ≤ nw ∨ nw + 76 ≤ v) := fun i v hi e => by
      by_cases e2 : i = nx
      · rw [e2, a1, up_s] at e
        cases e
        exact ⟨a2, hw1, by omega⟩
      · rw [pP i e2] at e
        obtain ⟨b1, b2, b3⟩ := h.pa.own i v hi e
        exact ⟨b1.fr a4 ((hap v b1).1 i e2 hi e), b2, b3⟩
    have hsp : 24 < 101 := by decide
    refine hp T' N' R' P' S' cn' un' ⟨h.sh.fo a4 (by omega), by rw [a6 _ (by omega)]; exact h.tp', by rw [a6 _ (by omega)]; exact h.bx', by rw [a6 _ (by omega)]; exact h.hd', fun k hk => by rw [a5 _ (by omega)]; exact h.rf' k hk, by rw [a5 _ (by omega)]; exact h.il', by rw [a5 _ (by omega)]; exact h.im', by rw [a5 _ (by omega)]; exact h.r1, by rw [a5 _ (by omega)]; exact h.r2, fun e => (h.ru' e).fr a5 (by omega), ⟨h.pa.c4, by rw [a7 q (by omega) (by omega)]; exact h.pa.now, hl, h.pa.ns.fr a4 (by omega), h.pa.nr.fr h.pa.c4 a5 a6 (by omega) (by omega), by rw [a5 _ (by omega)]; exact h.pa.len, h.pa.l12, hnx, by rw [a5 _ (by omega)]; exact h.pa.nxt, fun k hk => ?_, own', fun i j u v hi hj hij e1 e2 => ?_⟩, fun x hx => (h.ke x hx).fr h.pa.c4 a5 a6 (by omega) (by omega), ?_⟩ ⟨w, by rw [a1, up_s], a3⟩
    · obtain ⟨v, b1, b2⟩ := h.pa.win k hk
      have hl12 := h.pa.l12
      have e1 : (nx + 13 - ps.length + k) % 13 ≠ nx := by omega
      have b3 := h.pa.own _ v (Nat.mod_lt _ (by decide)) b1
      have b4 := (hap v b3.1).1 _ e1 (Nat.mod_lt _ (by decide)) b1
      exact ⟨v, by rw [pP _ e1]; exact b1, b2.fr h.pa.c4 a5 a6 b4 b4⟩
    · by_cases g1 : i = nx
      · rw [g1, a1, up_s] at e1
        cases e1
        rw [pP j (by omega)] at e2
        have b3 := h.pa.own j v hj e2
        have := (hap v b3.1).1 j (by omega) hj e2
        omega
      · rw [pP i g1] at e1
        have b3 := h.pa.own i u hi e1
        by_cases g2 : j = nx
        · rw [g2, a1, up_s] at e2
          cases e2
          exact (hap u b3.1).1 i g1 hi e1
        · rw [pP j g2] at e2
          exact h.pa.ap i j u v hi hj hij e1 e2
    · have hr := h.ro
      have e9 := psum_at (f := fun i => if P (q + 23 + 1) i = none then 1 else 0) (g := fun i => if P' (q + 23 + 1) i = none then 1 else 0) (x := nx) (fun j hj => by simp only [pP j hj]) 13 hnx
      have e8 : P' (q + 23 + 1) nx = some w := by rw [a1, up_s]
      simp only [e8] at e9
      unfold nulP at hr ⊢
      rcases a9 with ⟨e, e3, e4⟩ | ⟨e, e3, e4, -, -⟩
      · simp only [e] at e9
        rw [e3, e4]
        simp only [reduceCtorEq, if_false] at e9
        omega
      · simp only [e, if_true, reduceCtorEq, if_false] at e9
        rw [e3, e4]
        omega
theorem u_commit (h : RepQ q c0 u0 T N R P cn un nw nx tp bx hd rf il ru tl s ps im) (hg : PaG q N R P (chOf il ru) nx tl s0) (hp : ∀ N', frO (q + 23) (q + 24) N N' → RepQ q c0 u0 T N' R P cn un nw ((nx + 1) % 13) tp bx hd rf il ru tl s (kpF ps s0) im → post none (T, N', R, P, S, cn, un)) : Cm G (AP G F) yX3_commit cX3_commit 1 none (d + 1) [.ref (q + 23)] (T, N, R, P, S, cn, un) post := by
  have hl := h.pa.lo
  refine q_commit h.sh.pa h.pa.nxt h.pa.hnx h.pa.len h.pa.l12 (fun N' f1 f2 f3 => hp N' f1 ⟨h.sh, h.tp', h.bx', h.hd', fun k hk => by rw [f1 _ (by omega)]; exact h.rf' k hk, by rw [f1 _ (by omega)]; exact h.il', by rw [f1 _ (by omega)]; exact h.im', by rw [f1 _ (by omega)]; exact h.r1, by rw [f1 _ (by omega)]; exact h.r2, fun e => (h.ru' e).fr f1 (by omega), h.pa.commit hg f1 f2 f3, fun x hx => (h.ke x hx).fr h.pa.c4 f1 (frO.rf (lo := 0) (hi := 0)) (by omega) (by omega), h.ro⟩)
theorem u_refuse {k : Nat} (hk : k < 4) (h : RepQ q c0 u0 T N R P cn un nw nx tp bx hd rf il ru tl s ps im) (hw : WfSy b (tp, bx, hd, rf, il, ru, tl, s, ps, im)) (hb : b ≤ 99000000) (hp : ∀ N', RepQ q c0 u0 T N' R P cn un nw nx tp bx hd (rfF rf k) il ru tl s ps im → post (some (vi (-1))) (T, N', R, P, S, cn, un)) : Cm G (AP G F) yX11_refuse cX11_refuse 2 (some .int) d [.ref q, vi k] (T, N, R, P, S, cn, un) post := by
  have hl := h.pa.lo
  have t0 := h.sh.t
  have t1 := h.sh.rf
  obtain ⟨g1, g2⟩ := hw.2.2.2.1 k hk
  have hk3 : (k : Int) ≤ 3 := by omega
  refine Cm_intro (L := [some (.ref q), some (vi k)]) (by decide +kernel) (Nat.le_of_ble_eq_true rfl) rfl ?_
  refine s_iload_n 1 dX11_refuse_0 rfl rfl ?_
  refine s_if_lt 4 23 dX11_refuse_1 rfl rfl (fun g3 => ?_) (fun g3 => ?_)
  · omega
  refine s_iload_n 5 dX11_refuse_4 rfl rfl ?_
  refine s_aload_n 6 dX11_refuse_5 rfl rfl ?_
  refine g_X11_refused 9 dX11_refuse_6 rfl fl_X11_66 ?_
  refine q_alen 10 dX11_refuse_9 rfl ?_
  refine s_icmp_ge 13 23 dX11_refuse_10 rfl rfl (fun g4 => ?_) (fun g4 => ?_)
  · omega
  refine s_aload_n 14 dX11_refuse_13 rfl rfl ?_
  refine g_X11_refused 17 dX11_refuse_14 rfl fl_X11_66 ?_
  refine s_iload_n 18 dX11_refuse_17 rfl rfl ?_
  refine s_dup2 (q := 19) (hd := dX11_refuse_18) (hq := rfl) (k := ?_)
  refine q_ald 20 dX11_refuse_19 rfl (fun hr19 => ?_)
  rw [show ((k : Int)).toNat = k from rfl, h.rf' k hk]
  refine s_iconst 21 dX11_refuse_20 rfl ?_
  refine s_iadd 22 dX11_refuse_21 rfl ?_
  refine q_ast 23 dX11_refuse_22 rfl ?_
  refine s_iconst 24 dX11_refuse_23 rfl ?_
  refine s_ireturn rfl dX11_refuse_24 ?_
  rw [show ((k : Int)).toNat = k from rfl]
  have fN : frO (q + 177) (q + 178) N (up N (q + 177) (up (N (q + 177)) k (rf k + 1))) := frO.rf.up (by omega)
  refine hp _ ⟨h.sh, h.tp', h.bx', h.hd', fun j hj => ?_, by rw [fN _ (by omega)]; exact h.il', by rw [fN _ (by omega)]; exact h.im', by rw [fN _ (by omega)]; exact h.r1, by rw [fN _ (by omega)]; exact h.r2, fun e => (h.ru' e).fr fN (by omega), ⟨h.pa.c4, h.pa.now, h.pa.lo, h.pa.ns, h.pa.nr.fr h.pa.c4 fN (frO.rf (lo := 0) (hi := 0)) (by omega) (by omega), by rw [fN _ (by omega)]; exact h.pa.len, h.pa.l12, h.pa.hnx, by rw [fN _ (by omega)]; exact h.pa.nxt, fun k hk => ?_, h.pa.own, h.pa.ap⟩, fun x hx => (h.ke x hx).fr h.pa.c4 fN (frO.rf (lo := 0) (hi := 0)) (by omega) (by omega), h.ro⟩
  · rw [up_s]
    unfold rfF
    by_cases e : j = k
    · rw [e, up_s, up_s]
    · rw [up_n e, up_n e]
      exact h.rf' j hj
  · obtain ⟨w, a1, a2⟩ := h.pa.win k hk
    obtain ⟨b1, b2, b3⟩ := h.pa.own _ w (Nat.mod_lt _ (by decide)) a1
    exact ⟨w, a1, a2.fr h.pa.c4 fN (frO.rf (lo := 0) (hi := 0)) (by omega) (by omega)⟩
end REP
