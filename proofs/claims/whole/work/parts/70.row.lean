/-! ===== pictures over pictures; one Row seen by itself: where its cells lie, how many, what they hold, its size; room taken ===== -/
section LIFT
variable {α β : Type} {G : GT} {Abs : α → Heap → Prop} {Abs2 : β → Heap → Prop} {y : MethodName} {cc : ByteArray} {nL : Nat} {rt : Option FieldType} {d : Nat} {pc : Nat} {L : List (Option Value)} {st : List Value}
theorem Cm_lift {av : List Value} {b : β} {post2 : Option Value → β → Prop} (h : ∀ H, Abs2 b H → ∃ a : α, Abs a H ∧ Cm G Abs y cc nL rt d av a (fun v a' => ∃ b', (∀ H, Abs a' H → Abs2 b' H) ∧ post2 v b')) : Cm G Abs2 y cc nL rt d av b post2 := by
  intro n u p e ha hf hc s m args below hfr happ hP hK
  obtain ⟨rfl, h1, h2, h3, h4, h5⟩ := hP
  obtain ⟨a, hA, hC⟩ := h _ h5
  obtain ⟨k, o, r1, r2, r3, ⟨⟨v, a', e1, ⟨b', q1, q2⟩, q3, q4⟩, L, r5⟩⟩ := hC n u p e ha hf hc s m _ below hfr happ ⟨rfl, h1, h2, h3, h4, hA⟩ hK
  exact ⟨k, o, r1, r2, r3, ⟨v, b', e1, q2, q3, q1 _ q4⟩, L, r5⟩
theorem Cm_post {av : List Value} {a : α} {post post2 : Option Value → α → Prop} (h : Cm G Abs y cc nL rt d av a post) (hp : ∀ v b, post v b → post2 v b) : Cm G Abs y cc nL rt d av a post2 := by
  intro n u p e ha hf hc s m args below hfr happ hP hK
  obtain ⟨k, o, r1, r2, r3, ⟨⟨v, a', e1, q2, q3, q4⟩, L, r5⟩⟩ := h n u p e ha hf hc s m _ below hfr happ hP hK
  exact ⟨k, o, r1, r2, r3, ⟨v, a', e1, hp _ _ q2, q3, q4⟩, L, r5⟩
theorem V_drop {Rel : α → β → Prop} (hAbs : ∀ b H, Abs2 b H ↔ ∃ a, Abs a H ∧ Rel a b) {a : α} {b : β} {post2 : Option Value → β → Prop} (hr : Rel a b) (k : V G Abs2 y cc nL rt d b pc L st post2) : V G Abs y cc nL rt d a pc L st (fun v a' => ∃ b', (∀ H, Abs a' H → Abs2 b' H) ∧ post2 v b') := by
  intro n u p e s m args below meth c H locs ls C hB hn hg hA hl hL
  refine (k n u p e s m args below meth c H locs ls C hB hn hg ((hAbs b H).mpr ⟨a, hA, hr⟩) hl hL).mono ?_
  rintro t ⟨o, r1, r2, ⟨v, b', e1, q2, q3, q4⟩, r3⟩
  obtain ⟨a', w1, w2⟩ := (hAbs b' _).mp q4
  exact ⟨o, r1, r2, ⟨v, a', e1, ⟨b', fun H2 h2 => (hAbs b' H2).mpr ⟨a', h2, w2⟩, q2⟩, q3, w1⟩, r3⟩
end LIFT
/-- where its cells lie, how many there are, what they hold, its size, all cells and slots -/
abbrev WT : Type := Nat × Nat × (Nat → Int32) × Int × Nat × Nat
def RelW (G : GT) (x lim : Nat) (σ0 : HS) (s : HS × Nat × Nat) (a : WT) : Prop := s.2 = a.2.2.2.2 ∧ s.1 x = some (.inr (5, [vi lim, .ref a.1, vi a.2.2.2.1])) ∧ s.1 a.1 = some (.inl (gK G 0, a.2.1, .inl a.2.2.1)) ∧ x ≠ a.1 ∧ ∀ z e, σ0 z = some e → s.1 z = some e ∧ z ≠ x ∧ z ≠ a.1
def AW (G : GT) (x lim : Nat) (σ0 : HS) (a : WT) (H : Heap) : Prop := ∃ s : HS × Nat × Nat, A1 G s H ∧ RelW G x lim σ0 s a
theorem AW_iff {G : GT} {x lim : Nat} {σ0 : HS} : ∀ a H, AW G x lim σ0 a H ↔ ∃ s, A1 G s H ∧ RelW G x lim σ0 s a := fun _ _ => Iff.rfl
section ROWV
variable {G : GT} {x lim : Nat} {σ0 : HS} {y : MethodName} {cc : ByteArray} {nL : Nat} {rt : Option FieldType} {d : Nat} {c cap : Nat} {f : Nat → Int32} {len : Int} {nn uu : Nat} {pc : Nat} {L : List (Option Value)} {st : List Value} {post : Option Value → WT → Prop}
theorem w_rec : ∀ H, AW G x lim σ0 (c, cap, f, len, nn, uu) H → ∃ fs, va_at (gD G) vwCl (x, .inr (5, fs)) H := by
  rintro H ⟨s, h1, -, h2, -⟩
  exact ⟨_, (h1.2.2 x _ h2).2⟩
theorem w_get {i k : Nat} {v : Value} (q : Nat) (hd : decode cc pc = .ok (.getfield i, 3)) (hq : pc + 3 = q) (hw : Cond.fieldLink y.cls i (TX5 k).1 (TX5 k).2.1 (TX5 k).2.2.1 ∈ gTB) (hk : k < 3) (hv : [vi lim, .ref c, vi len][k]? = some v) (kk : V G (AW G x lim σ0) y cc nL rt d (c, cap, f, len, nn, uu) q L (v :: st) post) : V G (AW G x lim σ0) y cc nL rt d (c, cap, f, len, nn, uu) pc L (.ref x :: st) post := by
  refine V_lift (Abs := A1 G) fun H hA => ?_
  obtain ⟨⟨σ, n1, u1⟩, h1, h2⟩ := hA
  refine ⟨(σ, n1, u1), h1, ?_⟩
  exact h_get (Cn := RX5) (T := TX5) (N := 3) q k hd hq h2.2.1 rfl lay_X5 hw hk hv (V_drop AW_iff h2 kk)
theorem w_oget {i k z : Nat} {fs : List Value} {v : Value} (q : Nat) (hd : decode cc pc = .ok (.getfield i, 3)) (hq : pc + 3 = q) (hz : σ0 z = some (.inr (5, fs))) (hw : Cond.fieldLink y.cls i (TX5 k).1 (TX5 k).2.1 (TX5 k).2.2.1 ∈ gTB) (hk : k < 3) (hv : fs[k]? = some v) (kk : V G (AW G x lim σ0) y cc nL rt d (c, cap, f, len, nn, uu) q L (v :: st) post) : V G (AW G x lim σ0) y cc nL rt d (c, cap, f, len, nn, uu) pc L (.ref z :: st) post := by
  refine V_lift (Abs := A1 G) fun H hA => ?_
  obtain ⟨⟨σ, n1, u1⟩, h1, h2⟩ := hA
  refine ⟨(σ, n1, u1), h1, ?_⟩
  exact h_get (Cn := RX5) (T := TX5) (N := 3) q k hd hq (h2.2.2.2.2 z _ hz).1 rfl lay_X5 hw hk hv (V_drop AW_iff h2 kk)
theorem w_rowc {σ : HS} {n1 u1 : Nat} {z : Int} {v : Option va_E} (h2 : RelW G x lim σ0 (σ, n1, u1) (c, cap, f, len, nn, uu)) (hv : v = some (.inr (5, [vi lim, .ref c, vi z]))) : RelW G x lim σ0 (up σ x v, n1, u1) (c, cap, f, z, nn, uu) := by
  have hne : c ≠ x := Ne.symm h2.2.2.2.1
  refine ⟨h2.1, by show up σ x v x = _; rw [up_s, hv], by show up σ x v c = _; rw [up_n hne]; exact h2.2.2.1, h2.2.2.2.1, fun z e hz => ?_⟩
  obtain ⟨g1, g2, g3⟩ := h2.2.2.2.2 z e hz
  exact ⟨by show up σ x v z = _; rw [up_n g2]; exact g1, g2, g3⟩
theorem w_psize {i : Nat} {z : Int} (q : Nat) (hd : decode cc pc = .ok (.putfield i, 3)) (hq : pc + 3 = q) (hw : Cond.fieldLink y.cls i (TX5 2).1 (TX5 2).2.1 (TX5 2).2.2.1 ∈ gTB) (kk : V G (AW G x lim σ0) y cc nL rt d (c, cap, f, z, nn, uu) q L st post) : V G (AW G x lim σ0) y cc nL rt d (c, cap, f, len, nn, uu) pc L (vi z :: .ref x :: st) post := by
  refine V_lift (Abs := A1 G) fun H hA => ?_
  obtain ⟨⟨σ, n1, u1⟩, h1, h2⟩ := hA
  refine ⟨(σ, n1, u1), h1, ?_⟩
  exact h_put (Cn := RX5) (T := TX5) (N := 3) tyX5 q 2 hd hq h2.2.1 rfl lay_X5 tyX5_ok nmX5 hw (by decide) (Or.inl rfl) rfl rfl (by show 2 < 3; decide) (V_drop AW_iff (w_rowc h2 rfl) kk)
theorem w_alen (q : Nat) (hd : decode cc pc = .ok (.arraylength, 1)) (hq : pc + 1 = q) (kk : V G (AW G x lim σ0) y cc nL rt d (c, cap, f, len, nn, uu) q L (vi cap :: st) post) : V G (AW G x lim σ0) y cc nL rt d (c, cap, f, len, nn, uu) pc L (.ref c :: st) post := by
  refine V_lift (Abs := A1 G) fun H hA => ?_
  obtain ⟨⟨σ, n1, u1⟩, h1, h2⟩ := hA
  refine ⟨(σ, n1, u1), h1, ?_⟩
  exact h_alen 0 q hd hq h2.2.2.1 rfl (V_drop AW_iff h2 kk)
theorem w_ald {z : Int} (q : Nat) (hd : decode cc pc = .ok (.iaload, 1)) (hq : pc + 1 = q) (kk : V G (AW G x lim σ0) y cc nL rt d (c, cap, f, len, nn, uu) q L (.int (f z.toNat) :: st) post) (hz : 0 ≤ z ∧ z < cap := by omega) (hN : cap ≤ 1000000 := by omega) : V G (AW G x lim σ0) y cc nL rt d (c, cap, f, len, nn, uu) pc L (vi z :: .ref c :: st) post := by
  refine V_lift (Abs := A1 G) fun H hA => ?_
  obtain ⟨⟨σ, n1, u1⟩, h1, h2⟩ := hA
  refine ⟨(σ, n1, u1), h1, ?_⟩
  exact h_iald q hd hq h2.2.2.1 hz (by show cap < _; omega) (V_drop AW_iff h2 kk)
theorem w_arr {σ : HS} {n1 u1 : Nat} {f2 : Nat → Int32} (h2 : RelW G x lim σ0 (σ, n1, u1) (c, cap, f, len, nn, uu)) : RelW G x lim σ0 (up σ c (some (.inl (gK G 0, cap, .inl f2))), n1, u1) (c, cap, f2, len, nn, uu) := by
  refine ⟨h2.1, by show up σ c _ x = _; rw [up_n h2.2.2.2.1]; exact h2.2.1, up_s _ _ _, h2.2.2.2.1, fun z e hz => ?_⟩
  obtain ⟨g1, g2, g3⟩ := h2.2.2.2.2 z e hz
  exact ⟨by show up σ c _ z = _; rw [up_n g3]; exact g1, g2, g3⟩
theorem w_ast {z w : Int} (q : Nat) (hd : decode cc pc = .ok (.iastore, 1)) (hq : pc + 1 = q) (kk : V G (AW G x lim σ0) y cc nL rt d (c, cap, up f z.toNat (Int32.ofInt w), len, nn, uu) q L st post) (hz : 0 ≤ z ∧ z < cap := by omega) (hN : cap ≤ 1000000 := by omega) : V G (AW G x lim σ0) y cc nL rt d (c, cap, f, len, nn, uu) pc L (vi w :: vi z :: .ref c :: st) post := by
  refine V_lift (Abs := A1 G) fun H hA => ?_
  obtain ⟨⟨σ, n1, u1⟩, h1, h2⟩ := hA
  refine ⟨(σ, n1, u1), h1, ?_⟩
  exact h_iast q hd hq h2.2.2.1 hz (by show cap < _; omega) (V_drop AW_iff (w_arr h2) kk)
theorem w_copyS {i : Nat} {sp dp k : Int} (q : Nat) (hd : decode cc pc = .ok (.invokestatic i, 3)) (hq : pc + 3 = q) (hw : Cond.methodLink y.cls i arraycopyName ∈ gTB) (h1 : 0 ≤ sp) (h2 : 0 ≤ dp) (h3 : 0 ≤ k) (h4 : sp + k ≤ cap) (h5 : dp + k ≤ cap) (hN : cap ≤ 1000000) (hrest : (st.map fun v => v.category).sum ≤ 8)
    (kk : V G (AW G x lim σ0) y cc nL rt (d + 1) (c, cap, va_cpy f f sp.toNat dp.toNat k.toNat, len, nn, uu) q L st post) : V G (AW G x lim σ0) y cc nL rt (d + 1) (c, cap, f, len, nn, uu) pc L (vi k :: vi dp :: .ref c :: vi sp :: .ref c :: st) post := by
  refine V_lift (Abs := A1 G) fun H hA => ?_
  obtain ⟨⟨σ, n1, u1⟩, g1, g2⟩ := hA
  refine ⟨(σ, n1, u1), g1, ?_⟩
  exact h_copy q hd hq hw g2.2.2.1 g2.2.2.1 h1 h2 h3 h4 h5 (by show cap < _; omega) (by show cap < _; omega) hrest (V_drop AW_iff (w_arr g2) kk)
theorem w_copyO {i z Ns : Nat} {g : Nat → Int32} {sp dp k : Int} (q : Nat) (hd : decode cc pc = .ok (.invokestatic i, 3)) (hq : pc + 3 = q) (hw : Cond.methodLink y.cls i arraycopyName ∈ gTB) (hz : σ0 z = some (.inl (gK G 0, Ns, .inl g))) (h1 : 0 ≤ sp) (h2 : 0 ≤ dp) (h3 : 0 ≤ k) (h4 : sp + k ≤ Ns) (h5 : dp + k ≤ cap) (hN : cap ≤ 1000000) (hN2 : Ns ≤ 1000000) (hrest : (st.map fun v => v.category).sum ≤ 8)
    (kk : V G (AW G x lim σ0) y cc nL rt (d + 1) (c, cap, va_cpy g f sp.toNat dp.toNat k.toNat, len, nn, uu) q L st post) : V G (AW G x lim σ0) y cc nL rt (d + 1) (c, cap, f, len, nn, uu) pc L (vi k :: vi dp :: .ref c :: vi sp :: .ref z :: st) post := by
  refine V_lift (Abs := A1 G) fun H hA => ?_
  obtain ⟨⟨σ, n1, u1⟩, g1, g2⟩ := hA
  refine ⟨(σ, n1, u1), g1, ?_⟩
  exact h_copy q hd hq hw (g2.2.2.2.2 z _ hz).1 g2.2.2.1 h1 h2 h3 h4 h5 (by show Ns < _; omega) (by show cap < _; omega) hrest (V_drop AW_iff (w_arr g2) kk)
end ROWV
