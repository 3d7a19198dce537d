/-! ===== the law's own instructions: its row of numbers, comparisons of one answer with itself, longs, a static call of a method that catches ===== -/
/-- the law's row of numbers: where it stands, how long it is, what it holds -/
def ScrG (G : GT) (b Ln : Nat) (xs : Nat → Int32) : Prop := gAV G 99 = b ∧ b < gB G ∧ ∃ scr : Cell, (gH G)[b]? = some scr ∧ scr.slots.size = Ln ∧ ∀ j : Nat, j < Ln → scr.slots[j]? = some (.int (xs j))
def scI (xs : Nat → Int32) (j : Nat) : Int := (xs j).toInt
theorem scI_rg (xs : Nat → Int32) (j : Nat) : rg (scI xs j) := ⟨Int32.le_toInt (xs j), by have := Int32.toInt_lt (xs j); show (xs j).toInt ≤ 2147483647; omega⟩
def CmW {α : Type} (G : GT) (Abs : α → Heap → Prop) (y : MethodName) (cc : ByteArray) (nL : Nat) (rt : Option FieldType) (hh : List (Nat × Nat × Nat × Nat)) (d : Nat) (av : List Value) (a : α) (post : Option Value → α → Prop) : Prop :=
  ∀ n u : Nat, Met (gL G) y (Cond.codeWith y cc nL rt hh :: gTB) (gR G d n u) (gPc G Abs av n u a) (gQ G Abs post) (gN G - n) (gU G - u) (fun q => gB G ≤ q)
section LAWV
variable {α : Type} {G : GT} {Abs : α → Heap → Prop} {y : MethodName} {cc : ByteArray} {nL : Nat} {rt : Option FieldType} {d : Nat} {a : α} {pc : Nat} {L : List (Option Value)} {st : List Value} {post : Option Value → α → Prop} {y2 : MethodName} {cc2 : ByteArray} {nL2 : Nat} {rt2 : Option FieldType}
theorem s_icmp_same {v : Int32} {off : Int} (r : Nat) (hd : decode cc pc = .ok (.if_icmp .eq off, 3)) (hr : (pc : Int) + off = (r : Int)) (k : V G Abs y cc nL rt d a r L st post) : V G Abs y cc nL rt d a pc L (.int v :: .int v :: st) post := by
  intro n u p e s m args below meth c H locs ls C hB hn hg hA hl hL
  exact lv_icmp_eq C.1.1 C.1.2.1 hd hr (fun _ => k n u p e s m args below meth c H locs ls C hB hn hg hA hl hL) (fun h => absurd rfl h)
theorem s_lcmp_same {v : Int64} {off : Int} (r : Nat) (hd : decode cc pc = .ok (.lcmp, 1)) (hd2 : decode cc (pc + 1) = .ok (.ifCond .eq off, 3)) (hr : ((pc + 1 : Nat) : Int) + off = (r : Int)) (k : V G Abs y cc nL rt d a r L st post) : V G Abs y cc nL rt d a pc L (.long v :: .long v :: st) post := by
  intro n u p e s m args below meth c H locs ls C hB hn hg hA hl hL
  exact W.lcmp C.1.1 C.1.2.1 hd (lv_if_eq C.1.1 C.1.2.1 hd2 hr (fun _ => k n u p e s m args below meth c H locs ls C hB hn hg hA hl hL) (fun h => absurd ((lg_cmp_eq v v).mpr rfl) h))
theorem s_lshl {x : Int64} {z : Int} (q : Nat) (hd : decode cc pc = .ok (.lshl, 1)) (hq : pc + 1 = q) (k : V G Abs y cc nL rt d a q L (.long (x <<< ((Int32.ofInt z).toInt64 &&& 63)) :: st) post) : V G Abs y cc nL rt d a pc L (vi z :: .long x :: st) post := by
  subst hq
  intro n u p e s m args below meth c H locs ls C hB hn hg hA hl hL
  exact lv_lshl C.1.1 C.1.2.1 hd rfl (k n u p e s m args below meth c H locs ls C hB hn hg hA hl hL)
theorem s_sld {b Ln : Nat} {xs : Nat → Int32} {z : Int} (q : Nat) (hd : decode cc pc = .ok (.iaload, 1)) (hq : pc + 1 = q) (hS : ScrG G b Ln xs) (hz : 0 ≤ z ∧ z < Ln) (hN : Ln < 2147483648) (k : V G Abs y cc nL rt d a q L (vi (scI xs z.toNat) :: st) post) : V G Abs y cc nL rt d a pc L (vi z :: .ref b :: st) post := by
  subst hq
  intro n u p e s m args below meth c H locs ls C hB hn hg hA hl hL
  obtain ⟨h1, h2, scr, h3, h4, h5⟩ := hS
  have hE : gE G s := C.2.2.2.2.1.2.2.2.1
  obtain ⟨i1, i2⟩ := hE.2.2.2.2 scr (by rw [h1]; exact h3)
  obtain ⟨e1, e2⟩ := ix_nat hz hN
  have e3 : vi (scI xs z.toNat) = .int (xs z.toNat) := by
    show Value.int (Int32.ofInt (xs z.toNat).toInt) = _
    rw [Int32.ofInt_toInt]
  rw [e3] at k
  exact W.iald (v := .int (xs z.toNat)) C.1.1 C.1.2.1 (by rw [hB.2.2.2 b h2]; exact h3) i1 i2 (by rw [h4]; exact e1) (by rw [e2]; exact h5 _ (by omega)) rfl rfl hd (k n u p e s m args below meth c H locs ls C hB hn hg hA hl hL)
theorem s_slenX {b Ln : Nat} {xs : Nat → Int32} (q : Nat) (hd : decode cc pc = .ok (.arraylength, 1)) (hq : pc + 1 = q) (hS : ScrG G b Ln xs) (k : V G Abs y cc nL rt d a q L (vi (Ln : Int) :: st) post) : V G Abs y cc nL rt d a pc L (.ref b :: st) post := by
  subst hq
  intro n u p e s m args below meth c H locs ls C hB hn hg hA hl hL
  obtain ⟨h1, h2, scr, h3, h4, h5⟩ := hS
  have hE : gE G s := C.2.2.2.2.1.2.2.2.1
  obtain ⟨i1, i2⟩ := hE.2.2.2.2 scr (by rw [h1]; exact h3)
  exact W.alen (n := Int32.ofInt (Ln : Int)) C.1.1 C.1.2.1 (by rw [hB.2.2.2 b h2]; exact h3) i1 (by rw [h4]; exact Int32.ofInt_eq_ofNat.symm) rfl rfl hd (k n u p e s m args below meth c H locs ls C hB hn hg hA hl hL)
theorem s_callSW {K : Option Value → α → Prop} {i : Nat} {hh : List (Nat × Nat × Nat × Nat)} (As : List Value) {rest : List Value} (q : Nat) (hd : decode cc pc = .ok (.invokestatic i, 3)) (hq : pc + 3 = q) (hm : Cond.codeWith y2 cc2 nL2 rt2 hh ∈ gTB) (hst : Cond.static y2 ∈ gTB) (hin : Cond.initialized y2.cls ∈ gTB) (hy : y2.cls ≠ "java/lang/invoke/MethodHandle" ∧ y2.cls ≠ "java/lang/invoke/VarHandle") (hn17 : nL2 ≤ 17) (hw : Cond.methodLink y.cls i y2 ∈ gTB) (hds : (parseMethodDescriptor y2.desc).map (fun d => d.parameters.length) = some As.length) (hrest : (rest.map fun v => v.category).sum ≤ 8)
    (h : CmW G Abs y2 cc2 nL2 rt2 hh d As a K) (k : ∀ v a', K v a' → V G Abs y cc nL rt (d + 1) a' q L (v.toList ++ rest) post) : V G Abs y cc nL rt (d + 1) a pc L (As.reverse ++ rest) post := by
  subst hq
  intro n u p e s m args below meth c H locs ls C hB hn hg hA hl hL
  have hM := h H.size (gs H (gB G))
  have cw := vx_cwSW (R := gR G (d + 1) n u) (rm := gR G d H.size (gs H (gB G))) (own := y.cls) (index := i) (y := y2) (bytes := cc2) (maxL := nL2) (ret := rt2) (hh := hh) (ws := Cond.codeWith y2 cc2 nL2 rt2 hh :: gTB) As.length C.1.2.2.2.2 (goodTB (by
    intro w hw1
    simp only [va_wsS, List.cons_append, List.nil_append, List.mem_cons] at hw1
    rcases hw1 with rfl | rfl | rfl | rfl | hw1
    · exact hw
    · exact hst
    · exact hin
    · exact hm
    · exact hw1)) rfl rfl rfl ⟨hy.1, hy.2, hds⟩ (gR_fit hn17 _ _)
  exact call_back C hl hL (vx_runSW (g := F0 m pc ls (As.reverse ++ rest)) C.1 hM cw ⟨gPc_blind G Abs _ _ _ a, gPre C hB hA As⟩ rfl rfl hL.1 rfl (lv_room hrest) hd (gR_pay (d := d) hB hn hg)) k
end LAWV
section LAWH
variable {G : GT} {y : MethodName} {cc : ByteArray} {nL : Nat} {rt : Option FieldType} {d : Nat} {σ : HS} {nn uu : Nat} {pc : Nat} {L : List (Option Value)} {st : List Value} {post : Option Value → HS × Nat × Nat → Prop}
theorem h_newl {N : Nat} {z : Int} (q : Nat) (hd : decode cc pc = .ok (.newarray .long, 2)) (hq : pc + 2 = q) (hz : z = N) (hz2 : N ≤ 1000000) (hN : nn + 1 ≤ gN G) (hU : uu + N ≤ gU G)
    (kk : V G (A1 G) y cc nL rt d (up σ nn (some (.inl (gK G 1, N, .inr (.inl (fun _ => 0))))), nn + 1, uu + N) q L (.ref nn :: st) post) : V G (A1 G) y cc nL rt d (σ, nn, uu) pc L (vi z :: st) post := by
  subst hq
  subst hz
  intro n u p e s m args below meth c H locs ls C hB hn hg hA hl hL
  have hts := C.1.2.2.2.2
  have a1 : H.size = nn := hA.1
  have a2 : gs H (gB G) ≤ uu := hA.2.1
  have hz3 : (Int32.ofInt (N : Int)).toNatClampNeg = N := by rw [Int32.ofInt_eq_ofNat]; exact nI_clamp (by omega)
  have hz0 : ¬ Int32.ofInt (N : Int) < 0 := by rw [Int32.ofInt_eq_ofNat]; exact nI_pos (by omega)
  refine W.newa (atype := .long) C.1.1 C.1.2.1 (hts _ ac_long) rfl hd rfl hz0 (by rw [hz3]; show N * 8 ≤ _; omega) (by show _ ≤ gN G - n; omega) (by rw [hz3]; show _ ≤ gU G - u; omega) fun cA kA comp h1 h2 h3 => ?_
  have hcA : cA = gK G 1 := Option.some.inj (h1.symm.trans (C.2.2.2.2.1.1.2 1 _ rfl).2)
  subst hcA
  rw [hz3]
  generalize hxe : ({ cls := gK G 1, slots := Array.replicate N (defaultValue (newarray.typeOf .long)), vm := .none } : Cell) = x
  have hsz : x.slots.size = N := by rw [← hxe]; simp
  have hat : va_at (gD G) vwCl (H.size, .inl (gK G 1, N, .inr (.inl (fun _ => 0)))) (H.push x) := by
    show (H.push x)[H.size]? = some (vp_cell _ _)
    rw [vp_cell_l, show (H.push x)[H.size]? = some x by simp, ← hxe]
    exact congrArg some (arrV_new _ _ _)
  obtain ⟨hB', hgs⟩ := grow_facts (x := x) hB (by omega) (by omega)
  have hA' := A1_push hA hB hat
  rw [hsz] at hA' hgs
  refine W.cs (cells' := (H.push x).size - n) (slots' := gs (H.push x) n) (by rw [Array.size_push]; omega) (by rw [hgs n hn]) ?_
  have k1 := kk n u p e s m args below meth c (H.push x) locs ls C hB' (by rw [Array.size_push]; omega) (by rw [hgs _ hB.1, hgs n hn, hg]; omega) hA' hl hL
  rw [← a1] at k1
  exact k1
theorem h_lald {x N : Nat} {f : Nat → Int64} {z : Int} (q : Nat) (hd : decode cc pc = .ok (.laload, 1)) (hq : pc + 1 = q) (hσ : σ x = some (.inl (gK G 1, N, .inr (.inl f)))) (hz : 0 ≤ z ∧ z < N) (hN : N < 2147483648) (kk : V G (A1 G) y cc nL rt d (σ, nn, uu) q L (.long (f z.toNat) :: st) post) : V G (A1 G) y cc nL rt d (σ, nn, uu) pc L (vi z :: .ref x :: st) post := by
  subst hq
  intro n u p e s m args below meth c H locs ls C hB hn hg hA hl hL
  obtain ⟨h1, h2⟩ := ix_nat hz hN
  exact va_lald C.1.1 C.1.2.1 C.2.2.2.2.1.1 (P1 (hA.2.2 x _ hσ).2) 0 1 rfl rfl h1 hd (by rw [h2]; exact kk n u p e s m args below meth c H locs ls C hB hn hg hA hl hL)
theorem h_last {x N : Nat} {f : Nat → Int64} {z : Int} {w : Int64} (q : Nat) (hd : decode cc pc = .ok (.lastore, 1)) (hq : pc + 1 = q) (hσ : σ x = some (.inl (gK G 1, N, .inr (.inl f)))) (hz : 0 ≤ z ∧ z < N) (hN : N < 2147483648) (kk : V G (A1 G) y cc nL rt d (up σ x (some (.inl (gK G 1, N, .inr (.inl (up f z.toNat w))))), nn, uu) q L st post) : V G (A1 G) y cc nL rt d (σ, nn, uu) pc L (.long w :: vi z :: .ref x :: st) post := by
  subst hq
  intro n u p e s m args below meth c H locs ls C hB hn hg hA hl hL
  obtain ⟨i0, hi0⟩ := tl_at hσ (hA.lt (a := (σ, nn, uu)) hσ)
  obtain ⟨w1, w2, w3, go⟩ := A1_rule (e := e) (below := below) C hB hn hg hA hl hL
  obtain ⟨h1, h2⟩ := ix_nat hz hN
  rw [← h2] at kk
  exact va_last C.1.1 C.1.2.1 C.2.2.2.2.1.1 w1 w2 w3 i0 1 hi0 rfl h1 hd (go i0 x _ _ hi0 kk)
end LAWH
/-! ===== both systems in one heap: the program's picture, the reference's numbers, the law's one long ===== -/
abbrev LT : Type := PT × MT × Int64
def FL (G : GT) (m0 : Nat) (mt : MT) (o : Int64) : HS := fun x => if x = m0 then some (.inr (12, fM m0 mt.1 mt.2.2)) else if m0 < x ∧ x ≤ m0 + 14 then some (.inl (gK G 0, ml (x - m0), .inl (fun k => Int32.ofInt (mt.2.1 (x - m0) (k : Int))))) else if x = m0 + 15 then some (.inl (gK G 1, 1, .inr (.inl (up (fun _ => 0) 0 o)))) else none
def AL (G : GT) (m0 : Nat) (a : LT) (H : Heap) : Prop := AP G (FL G m0 a.2.1 a.2.2) a.1 H ∧ (∀ k, rg (a.2.1.1 k)) ∧ ∀ j k, rg (a.2.1.2.1 j k)
def RelL (G : GT) (m0 : Nat) (s : HS × Nat × Nat) (a : LT) : Prop := RelP G (FL G m0 a.2.1 a.2.2) s a.1 ∧ (∀ k, rg (a.2.1.1 k)) ∧ ∀ j k, rg (a.2.1.2.1 j k)
theorem AL_iff {G : GT} {m0 : Nat} : ∀ a H, AL G m0 a H ↔ ∃ s, A1 G s H ∧ RelL G m0 s a := fun a H => ⟨fun h => by
  obtain ⟨⟨s, h1, h2⟩, h3⟩ := h
  exact ⟨s, h1, h2, h3⟩, fun h => by
  obtain ⟨s, h1, h2, h3⟩ := h
  exact ⟨⟨s, h1, h2⟩, h3⟩⟩
section FLL
variable {G : GT} {m0 : Nat} {mt mt' : MT} {o o' : Int64} {x : Nat}
theorem FL_0 : FL G m0 mt o m0 = some (.inr (12, fM m0 mt.1 mt.2.2)) := if_pos rfl
theorem FL_r {j : Nat} (h : 1 ≤ j ∧ j ≤ 14) : FL G m0 mt o (m0 + j) = some (.inl (gK G 0, ml j, .inl (fun k => Int32.ofInt (mt.2.1 j (k : Int))))) := by
  unfold FL
  rw [if_neg (by omega), if_pos (by omega), Nat.add_sub_cancel_left]
theorem FL_o : FL G m0 mt o (m0 + 15) = some (.inl (gK G 1, 1, .inr (.inl (up (fun _ => 0) 0 o)))) := by
  unfold FL
  rw [if_neg (by omega), if_neg (by omega), if_pos rfl]
theorem FL_n (h : x < m0 ∨ m0 + 15 < x) : FL G m0 mt o x = none := by
  unfold FL
  rw [if_neg (by omega), if_neg (by omega), if_neg (by omega)]
theorem FL_in (h : m0 ≤ x ∧ x ≤ m0 + 15) : ∃ e, FL G m0 mt o x = some e := by
  by_cases h1 : x = m0
  · subst h1; exact ⟨_, FL_0⟩
  · by_cases h2 : x = m0 + 15
    · subst h2; exact ⟨_, FL_o⟩
    · obtain ⟨j, rfl⟩ := Nat.exists_eq_add_of_le h.1
      exact ⟨_, FL_r (j := j) (by omega)⟩
theorem FL_out (h : FL G m0 mt o x = none) : x < m0 ∨ m0 + 15 < x := by
  by_cases h1 : m0 ≤ x ∧ x ≤ m0 + 15
  · obtain ⟨e, he⟩ := FL_in (G := G) (mt := mt) (o := o) h1
    rw [he] at h
    cases h
  · omega
theorem FL_dom {e : va_E} (h : FL G m0 mt o x = some e) : m0 ≤ x ∧ x ≤ m0 + 15 := by
  by_cases h1 : m0 ≤ x ∧ x ≤ m0 + 15
  · exact h1
  · rw [FL_n (by omega)] at h
    cases h
/-- the cells of the reference or the law's long change: the program's picture stays -/
theorem RelQ.side {σ σ' : HS} {nn uu : Nat} {cp cq : Nat → Nat} {T : Nat → Nat} {N : Nat → Nat → Int} {R : Nat → List Int} {P : Nat → Nat → Option Nat} {S : Nat → Int64} {cn un : Nat} (h : RelQ G (FL G m0 mt o) σ nn uu cp cq T N R P S cn un) (h1 : ∀ x e, FL G m0 mt' o' x = some e → σ' x = some e) (h2 : ∀ x e, x < m0 ∨ m0 + 15 < x → σ x = some e → σ' x = some e) : RelQ G (FL G m0 mt' o') σ' nn uu cp cq T N R P S cn un := by
  obtain ⟨k1, k2, k3, k4, k5, k6⟩ := h
  have hT : ∀ x, m0 ≤ x ∧ x ≤ m0 + 15 → T x = 0 := fun x hx => by
    obtain ⟨e, he⟩ := FL_in (G := G) (mt := mt) (o := o) hx
    exact (k2 x e he).2
  refine ⟨fun x e he => h2 x e ?_ (k1 x e he), fun x e he => ⟨h1 x e he, hT x (FL_dom he)⟩, fun x hx => ?_, k4, k5, k6⟩
  · have hne := cP_T he
    by_cases hx : m0 ≤ x ∧ x ≤ m0 + 15
    · exact absurd (hT x hx) hne
    · omega
  · obtain ⟨f, q1, q2, q3, q4, q5⟩ := k3 x hx
    exact ⟨f, h2 _ _ (FL_out q4) q1, q2, q3, FL_n (FL_out q4), q5⟩
end FLL
section ALR
variable {G : GT} {m0 : Nat} {y : MethodName} {cc : ByteArray} {nL : Nat} {rt : Option FieldType} {d : Nat} {a : PT} {mt : MT} {o : Int64} {pc : Nat} {L : List (Option Value)} {st : List Value} {post : Option Value → LT → Prop}
theorem l_prog {av : List Value} (h : Cm G (AP G (FL G m0 mt o)) y cc nL rt d av a (fun v a' => post v (a', mt, o))) : Cm G (AL G m0) y cc nL rt d av (a, mt, o) post := Cm_lift (fun H hA => ⟨a, hA.1, Cm_post h (fun v a' hp => ⟨(a', mt, o), fun H2 hH2 => ⟨hH2, hA.2⟩, hp⟩)⟩)
theorem l_progX {av : List Value} {postX : LT → Prop} (h : CmX G (AP G (FL G m0 mt o)) y cc nL rt d av a (fun v a' => post v (a', mt, o)) (fun a' => postX (a', mt, o))) : CmX G (AL G m0) y cc nL rt d av (a, mt, o) post postX := by
  intro n u p e ha hf hc s m args below hfr happ hP hK
  obtain ⟨rfl, h1, h2, h3, h4, h5⟩ := hP
  obtain ⟨k, o9, r1, r2, r3, hq⟩ := h n u p e ha hf hc s m _ below hfr happ ⟨rfl, h1, h2, h3, h4, h5.1⟩ hK
  refine ⟨k, o9, r1, r2, r3, ?_⟩
  rcases hq with ⟨⟨v, a', e1, q2, q3, q4⟩, L, r5⟩ | ⟨x, e1, E, ce, L, ⟨e2, a', q2, q3, q4⟩, r5⟩
  · exact Or.inl ⟨⟨v, _, e1, q2, q3, ⟨q4, h5.2⟩⟩, L, r5⟩
  · exact Or.inr ⟨x, e1, E, ce, L, ⟨e2, _, q2, q3, ⟨q4, h5.2⟩⟩, r5⟩
theorem l_ref {av : List Value} (h : ∀ F n u, Cm G (AM G m0 F n u) y cc nL rt d av mt (fun v mt' => post v (a, mt', o))) : Cm G (AL G m0) y cc nL rt d av (a, mt, o) post := by
  intro n u p e ha hf hc s m args below hfr happ hP hK
  obtain ⟨rfl, z1, z2, z3, z4, z5⟩ := hP
  suffices hs : ∃ F nn uu, AM G m0 F nn uu mt s.heap ∧ ∀ mt' H2, AM G m0 F nn uu mt' H2 → AL G m0 (a, mt', o) H2 by
    obtain ⟨F, nn, uu, w1, w2⟩ := hs
    obtain ⟨k, o9, r1, r2, r3, ⟨⟨v, mt', e1, q2, q3, q4⟩, L, r5⟩⟩ := h F nn uu n u p e ha hf hc s m _ below hfr happ ⟨rfl, z1, z2, z3, z4, w1⟩ hK
    exact ⟨k, o9, r1, r2, r3, ⟨v, _, e1, q2, q3, w2 mt' _ q4⟩, L, r5⟩
  obtain ⟨⟨⟨σ, nn, uu⟩, hA1, cp, cq, hR⟩, h5, h6⟩ := z5
  have hR : RelQ G (FL G m0 mt o) σ nn uu cp cq a.1 a.2.1 a.2.2.1 a.2.2.2.1 a.2.2.2.2.1 a.2.2.2.2.2.1 a.2.2.2.2.2.2 := hR
  have hsm : ∀ x e, FL G m0 mt o x = some e → σ x = some e := fun x e he => (hR.2.1 x e he).1
  refine ⟨fun x => if m0 ≤ x ∧ x ≤ m0 + 14 then none else σ x, nn, uu, ⟨σ, hA1, hsm _ _ FL_0, fun j a1 b1 => hsm _ _ (FL_r ⟨a1, b1⟩), fun x c hx => ?_, h5, h6⟩, fun mt' H2 hH2 => ?_⟩
  · have hx : (if m0 ≤ x ∧ x ≤ m0 + 14 then none else σ x) = some c := hx
    by_cases hc : m0 ≤ x ∧ x ≤ m0 + 14
    · rw [if_pos hc] at hx; cases hx
    · rw [if_neg hc] at hx; exact ⟨hx, by omega⟩
  · obtain ⟨σ2, g1, g2, g3, g4, g5, g6⟩ := hH2
    suffices hk9 : RelQ G (FL G m0 mt' o) σ2 nn uu cp cq a.1 a.2.1 a.2.2.1 a.2.2.2.1 a.2.2.2.2.1 a.2.2.2.2.2.1 a.2.2.2.2.2.2 from ⟨⟨(σ2, nn, uu), g1, cp, cq, hk9⟩, g5, g6⟩
    refine RelQ.side hR (fun x e he => ?_) (fun x e hx he => (g4 x e (by show (if m0 ≤ x ∧ x ≤ m0 + 14 then none else σ x) = some e; rw [if_neg (by omega)]; exact he)).1)
    have hd9 := FL_dom he
    by_cases h1 : x = m0
    · subst h1; rw [FL_0] at he; rw [g2]; exact he
    · by_cases h2 : x = m0 + 15
      · subst h2
        rw [FL_o] at he
        refine (g4 _ _ ?_).1
        show (if m0 ≤ m0 + 15 ∧ m0 + 15 ≤ m0 + 14 then none else σ (m0 + 15)) = some e
        rw [if_neg (by omega), hsm _ _ FL_o]
        exact he
      · obtain ⟨j, rfl⟩ := Nat.exists_eq_add_of_le hd9.1
        rw [FL_r (j := j) (by omega)] at he
        rw [g3 j (by omega) (by omega)]
        exact he
theorem al_recP {q : Nat} (hT : a.1 q = 12) : ∀ H, AL G m0 (a, mt, o) H → ∃ fs, va_at (gD G) vwCl (q, .inr (11, fs)) H := by
  rintro H ⟨h, -⟩
  obtain ⟨T, N, R, P, S, cn, un⟩ := a
  exact q_rec hT (by decide) H h
theorem al_recM : ∀ H, AL G m0 (a, mt, o) H → ∃ fs, va_at (gD G) vwCl (m0, .inr (12, fs)) H := by
  rintro H ⟨⟨s, h1, cp, cq, h2, h3, h4⟩, -⟩
  exact ⟨_, (h1.2.2 m0 _ (h3 m0 _ FL_0).1).2⟩
theorem al_last {w : Int64} (q : Nat) (hd : decode cc pc = .ok (.lastore, 1)) (hq : pc + 1 = q) (kk : V G (AL G m0) y cc nL rt d (a, mt, w) q L st post) : V G (AL G m0) y cc nL rt d (a, mt, o) pc L (.long w :: vi 0 :: .ref (m0 + 15) :: st) post := by
  refine V_lift (Abs := A1 G) fun H hA => ?_
  obtain ⟨⟨σ, n1, u1⟩, h1, ⟨cp, cq, h2⟩, h3⟩ := (AL_iff _ _).mp hA
  refine ⟨(σ, n1, u1), h1, ?_⟩
  refine h_last q hd hq ((h2.2.1 _ _ FL_o).1) ⟨by decide, by decide⟩ (by decide) ?_
  refine V_drop AL_iff (a := (up σ (m0 + 15) _, n1, u1)) (b := (a, mt, w)) ⟨⟨cp, cq, RelQ.side h2 (fun x e he => ?_) (fun x e hx he => ?_)⟩, h3⟩ kk
  · by_cases e9 : x = m0 + 15
    · subst e9
      rw [FL_o] at he
      show up σ (m0 + 15) _ (m0 + 15) = some e
      rw [up_s, ← he, show (0 : Int).toNat = 0 from rfl, up_up]
    · show up σ (m0 + 15) _ x = some e
      rw [up_n e9]
      have he2 : FL G m0 mt o x = some e := by
        rw [← he]
        unfold FL
        by_cases c1 : x = m0
        · rw [if_pos c1, if_pos c1]
        · rw [if_neg c1, if_neg c1]
          by_cases c2 : m0 < x ∧ x ≤ m0 + 14
          · rw [if_pos c2, if_pos c2]
          · rw [if_neg c2, if_neg c2, if_neg e9, if_neg e9]
      exact (h2.2.1 x e he2).1
  · show up σ (m0 + 15) _ x = some e
    rw [up_n (by omega)]
    exact he
theorem al_lald (q : Nat) (hd : decode cc pc = .ok (.laload, 1)) (hq : pc + 1 = q) (kk : V G (AL G m0) y cc nL rt d (a, mt, o) q L (.long o :: st) post) : V G (AL G m0) y cc nL rt d (a, mt, o) pc L (vi 0 :: .ref (m0 + 15) :: st) post := by
  refine V_lift (Abs := A1 G) fun H hA => ?_
  obtain ⟨⟨σ, n1, u1⟩, h1, h2⟩ := (AL_iff _ _).mp hA
  refine ⟨(σ, n1, u1), h1, ?_⟩
  exact h_lald q hd hq (h2.1.choose_spec.choose_spec.2.1 _ _ FL_o).1 ⟨by decide, by decide⟩ (by decide) (V_drop AL_iff h2 kk)
end ALR
