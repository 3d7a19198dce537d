/-! ===== the heap as cells by their addresses: A1; rows on fields, arrays, makings ===== -/
abbrev HS : Type := Nat → Option va_E
/-- the cells that are told (others are free), how many cells there are, how many slots ours have -/
def A1 (G : GT) (a : HS × Nat × Nat) (H : Heap) : Prop := H.size = a.2.1 ∧ gs H (gB G) = a.2.2 ∧ ∀ (x : Nat) (c : va_E), a.1 x = some c → gB G ≤ x ∧ va_at (gD G) vwCl (x, c) H
def up {ι β : Type} [DecidableEq ι] (f : ι → β) (k : ι) (v : β) : ι → β := fun j => if j = k then v else f j
theorem up_s {ι β : Type} [DecidableEq ι] (f : ι → β) (k : ι) (v : β) : up f k v k = v := if_pos rfl
theorem up_n {ι β : Type} [DecidableEq ι] {f : ι → β} {k j : ι} {v : β} (h : j ≠ k) : up f k v j = f j := if_neg h
theorem up_up {ι β : Type} [DecidableEq ι] (f : ι → β) (k : ι) (v w : β) : up (up f k v) k w = up f k w := by
  funext j
  unfold up
  split <;> rfl
theorem up_self {ι β : Type} [DecidableEq ι] {f : ι → β} {k : ι} {v : β} (h : f k = v) : up f k v = f := by
  funext j
  unfold up
  split
  · rename_i e; rw [e, h]
  · rfl
theorem up_swap {ι β : Type} [DecidableEq ι] (f : ι → β) {i j : ι} (v w : β) (h : i ≠ j) : up (up f i v) j w = up (up f j w) i v := by
  funext k
  unfold up
  by_cases h1 : k = i
  · by_cases h2 : k = j
    · exact absurd (h1.symm.trans h2) h
    · rw [if_neg h2, if_pos h1, if_pos h1]
  · by_cases h2 : k = j
    · rw [if_pos h2, if_neg h1, if_pos h2]
    · rw [if_neg h2, if_neg h1, if_neg h1, if_neg h2]
theorem P1 {D : va_G} {cl : List vw_C} {x : Nat} {c : va_E} {H : Heap} (h : va_at D cl (x, c) H) : va_P D cl [(x, c)] H := by
  intro k q hk
  cases k with
  | zero => cases hk; exact h
  | succ k => simp at hk
theorem gBase_write {G : GT} {H H' : Heap} {x : Nat} (hB : gBase G H) (hx : gB G ≤ x) (hz : H'.size = H.size) (ho : ∀ q, q ≠ x → H'[q]? = H[q]?) (hs : (H'[x]?).map (·.slots.size) = (H[x]?).map (·.slots.size)) : gBase G H' ∧ ∀ b, gs H' b = gs H b := by
  have hg : ∀ b, gs H' b = gs H b := fun b => gs_same hz fun q _ => by
    by_cases e : q = x
    · subst e; exact hs
    · rw [ho q e]
  exact ⟨⟨by rw [hz]; exact hB.1, by rw [hz]; exact hB.2.1, by rw [hg]; exact hB.2.2.1, fun q hq => by rw [ho q (by omega)]; exact hB.2.2.2 q hq⟩, hg⟩
theorem A1_write {G : GT} {a : HS × Nat × Nat} {H H' : Heap} {x : Nat} {c : va_E} (hA : A1 G a H) (hx : gB G ≤ x) (hz : H'.size = H.size) (ho : ∀ q, q ≠ x → H'[q]? = H[q]?) (hg : ∀ b, gs H' b = gs H b) (hc : va_at (gD G) vwCl (x, c) H') : A1 G (up a.1 x (some c), a.2) H' := by
  refine ⟨hz.trans hA.1, (hg _).trans hA.2.1, fun z c' h => ?_⟩
  by_cases e : z = x
  · subst e
    have h : up a.1 z (some c) z = some c' := h
    rw [up_s] at h
    cases h
    exact ⟨hx, hc⟩
  · have h : up a.1 x (some c) z = some c' := h
    rw [up_n e] at h
    obtain ⟨h1, h2⟩ := hA.2.2 z c' h
    exact ⟨h1, h2.kept (ho z e)⟩
/-- one more cell -/
theorem grow_facts {G : GT} {H : Heap} {x : Cell} (hB : gBase G H) (hN : H.size + 1 ≤ gN G) (hU : gs H (gB G) + x.slots.size ≤ gU G) : gBase G (H.push x) ∧ ∀ b, b ≤ H.size → gs (H.push x) b = gs H b + x.slots.size :=
  ⟨⟨by rw [Array.size_push]; have := hB.1; omega, by rw [Array.size_push]; exact hN, by rw [gs_push H x hB.1]; exact hU, fun q hq => by
    have := hB.1
    rw [Array.getElem?_push, if_neg (by omega)]
    exact hB.2.2.2 q hq⟩, fun b hb => gs_push H x hb⟩
theorem A1_push {G : GT} {a : HS × Nat × Nat} {H : Heap} {x : Cell} {c : va_E} (hA : A1 G a H) (hB : gBase G H) (hc : va_at (gD G) vwCl (H.size, c) (H.push x)) : A1 G (up a.1 a.2.1 (some c), a.2.1 + 1, a.2.2 + x.slots.size) (H.push x) := by
  refine ⟨by rw [Array.size_push, hA.1], by rw [gs_push H x hB.1, hA.2.1], fun z c' h => ?_⟩
  by_cases e : z = a.2.1
  · subst e
    have h : up a.1 a.2.1 (some c) a.2.1 = some c' := h
    rw [up_s] at h
    cases h
    rw [← hA.1]
    exact ⟨hB.1, hc⟩
  · have h : up a.1 a.2.1 (some c) z = some c' := h
    rw [up_n e] at h
    obtain ⟨h1, h2⟩ := hA.2.2 z c' h
    have hlt : z < H.size := h2.lt
    exact ⟨h1, h2.kept (by rw [Array.getElem?_push, if_neg (Nat.ne_of_lt hlt)])⟩
section HEAP
variable {G : GT} {y : MethodName} {cc : ByteArray} {nL : Nat} {rt : Option FieldType} {d : Nat} {σ : HS} {nn uu : Nat} {pc : Nat} {L : List (Option Value)} {st : List Value} {post : Option Value → HS × Nat × Nat → Prop}
theorem h_get {x ci N i : Nat} {Cn : String} {T : u_T} {fs : List Value} {v : Value} (q k : Nat) (hd : decode cc pc = .ok (.getfield i, 3)) (hq : pc + 3 = q) (hσ : σ x = some (.inr (ci, fs))) (hc : vwCl[ci]? = some (Cn, T, N)) (hin : ∀ w ∈ u_ws Cn T N, w ∈ gTB) (hw : Cond.fieldLink y.cls i (T k).1 (T k).2.1 (T k).2.2.1 ∈ gTB) (hk : k < N) (hv : fs[k]? = some v) (kk : V G (A1 G) y cc nL rt d (σ, nn, uu) q L (v :: st) post) : V G (A1 G) y cc nL rt d (σ, nn, uu) pc L (.ref x :: st) post := by
  subst hq
  intro n u p e s m args below meth c H locs ls C hB hn hg hA hl hL
  exact va_get C.1.1 C.1.2.1 C.1.2.2.2.2 hin C.1.2.2.2.1 C.2.2.2.2.1.1 (P1 (hA.2.2 x _ hσ).2) 0 rfl hc k hk (C.1.2.2.2.2 _ hw) (fun _ h => h) hv hd (kk n u p e s m args below meth c H locs ls C hB hn hg hA hl hL)
theorem set_size (c : Cell) (i : Nat) (v : Value) : (c.setSlot i v).slots.size = c.slots.size := by simp [Cell.setSlot]
theorem h_put {x ci N i : Nat} {Cn : String} {T : u_T} {fs : List Value} {v : Value} (ty0 : Nat → FieldType) (q k : Nat) (hd : decode cc pc = .ok (.putfield i, 3)) (hq : pc + 3 = q) (hσ : σ x = some (.inr (ci, fs))) (hc : vwCl[ci]? = some (Cn, T, N)) (hin : ∀ w ∈ u_ws Cn T N, w ∈ gTB) (hty : ∀ k, k < N → parseFieldDescriptor (T k).2.2.1 = some (ty0 k)) (hnm : ∀ a, a < N → ∀ b, b < N → a ≠ b → (T a).2.1 ≠ (T b).2.1) (hw : Cond.fieldLink y.cls i (T k).1 (T k).2.1 (T k).2.2.1 ∈ gTB) (hk : k < N) (hfin : (T k).2.2.2 = false ∨ (T k).2.2.2 = true ∧ y.name = "<init>" ∧ (T k).1 = y.cls) (hn1 : narrow (ty0 k) v = v) (hfit : fits (ty0 k) v = true) (hlen : k < fs.length)
    (kk : V G (A1 G) y cc nL rt d (up σ x (some (.inr (ci, fs.set k v))), nn, uu) q L st post) : V G (A1 G) y cc nL rt d (σ, nn, uu) pc L (v :: .ref x :: st) post := by
  subst hq
  intro n u p e s m args below meth c H locs ls C hB hn hg hA hl hL
  have hts := C.1.2.2.2.2
  have hK := C.2.2.2.2.1.1
  have hown := C.1.2.2.2.1
  have hap := va_apart (own := y.cls) hts hin ty0 hty hnm hK hc
  obtain ⟨hx, r, h1, cell, q1, q2, q3, q4⟩ := hA.2.2 x _ hσ
  have hr : r = (Cn, T, N) := Option.some.inj (h1.symm.trans hc)
  subst hr
  obtain ⟨hS, hfc, kC, hkC, hkind⟩ := hK.1 ci _ hc
  obtain ⟨cf, kf, fi, f, hi, hsl⟩ := hS k hk
  have hlay := hts _ (hin _ (u_in_lay hk))
  have hst := (u_facts hfc hkC (u_lays hts hin hk) hi).1
  have hlink := hts _ hw
  have hfin2 : ∀ H' : Heap, H'[x]? = some (cell.setSlot f.slot v) → H'.size = H.size → (∀ q, q ≠ x → H'[q]? = H[q]?) → W p (gL G) e (gR G d n u) s m args below meth c H' (locs ++ [⟨x, f.slot⟩]) (H.size - n) (gs H n) (MQ below (gQ G (A1 G) post) args s (gN G - n) (gU G - u) (fun q => gB G ≤ q)) (F0 m (pc + 3) ls st) := by
    intro H' e1 e2 e3
    have hsz : (H'[x]?).map (·.slots.size) = (H[x]?).map (·.slots.size) := by rw [e1, q1]; simp [set_size]
    obtain ⟨hB', hgs⟩ := gBase_write hB hx e2 e3 hsz
    rw [hsl] at e1
    have hat : va_at (gD G) vwCl (x, .inr (ci, fs.set k v)) H' := ⟨_, hc, t_OB.to (V := updV (vp_V fs) k v) ⟨_, e1, q2, q3, t_set q4 hap hk v⟩ (fun j _ => vp_updV_set hlen v j)⟩
    refine W.cs (cells' := H'.size - n) (slots' := gs H' n) (by rw [e2]) (by rw [hgs]) ?_
    exact kk n u p e s m args below meth c H' _ ls C hB' (by rw [e2]; exact hn) (by rw [hgs, hgs]; exact hg) (A1_write hA hx e2 e3 hgs hat) (fun z hz => (List.mem_append.mp hz).elim (hl z) (fun h => by rw [List.mem_singleton.mp h]; exact hx)) hL
  rcases hfin with hfin | ⟨hfin, hin2, hdecl⟩
  · unfold u_lay at hlay
    rw [if_neg (by rw [hfin]; decide)] at hlay
    have h6 := u_store hfc hkC hkind hlay hi (hty k hk) hn1 hfit
    exact W.putK C.1.1 C.1.2.1 (f := f) ⟨hown, hlink, ⟨_, _, _, hi⟩, hst⟩ (by rw [q2]; exact h6) q1 q3 (by rw [hsl]; exact k2_hasslot (q4 k hk)) rfl rfl hd hfin2
  · unfold u_lay at hlay
    rw [if_pos hfin] at hlay
    have hcf : m.cls = cf := by
      obtain ⟨_, _, c', _, _, _, -, -, hf', -, -, -, hown2, -⟩ := Cond.laysFinal_spec hlay
      have e1 : c' = cf := by have := hi.symm.trans hf'; simp at this; exact this.1.symm
      rw [hdecl] at hown2
      rw [← e1]; exact Option.some.inj (hown.symm.trans hown2)
    have h6 := u_fits hfc hkC hkind (Or.inr hlay) hi (hty k hk) hn1 hfit
    exact W.putFinK C.1.1 C.1.2.1 hown hlink hi hst hcf (by rw [C.2.2.2.1]; exact hin2) (by rw [q2]; exact h6) q1 q3 (by rw [hsl]; exact k2_hasslot (q4 k hk)) rfl rfl hd hfin2
/-- an index as a number -/
theorem ix_nat {z : Int} {N : Nat} (hz : 0 ≤ z ∧ z < N) (hN : N < 2147483648) : vp_in (Int32.ofInt z) N ∧ (Int32.ofInt z).toNatClampNeg = z.toNat := by
  obtain ⟨k, rfl⟩ := Int.eq_ofNat_of_zero_le hz.1
  rw [Int32.ofInt_eq_ofNat]
  exact ⟨vp_in_nI (by omega) (by omega), nI_clamp (by omega)⟩
theorem h_iald {x N : Nat} {f : Nat → Int32} {z : Int} (q : Nat) (hd : decode cc pc = .ok (.iaload, 1)) (hq : pc + 1 = q) (hσ : σ x = some (.inl (gK G 0, N, .inl f))) (hz : 0 ≤ z ∧ z < N) (hN : N < 2147483648) (kk : V G (A1 G) y cc nL rt d (σ, nn, uu) q L (.int (f z.toNat) :: st) post) : V G (A1 G) y cc nL rt d (σ, nn, uu) pc L (vi z :: .ref x :: st) post := by
  subst hq
  intro n u p e s m args below meth c H locs ls C hB hn hg hA hl hL
  obtain ⟨h1, h2⟩ := ix_nat hz hN
  exact va_iald C.1.1 C.1.2.1 C.2.2.2.2.1.1 (P1 (hA.2.2 x _ hσ).2) 0 0 rfl rfl h1 hd (by rw [h2]; exact kk n u p e s m args below meth c H locs ls C hB hn hg hA hl hL)
theorem h_alen {x N : Nat} {v : (Nat → Int32) ⊕ (Nat → Int64) ⊕ (Nat → UInt32) ⊕ (Nat → UInt64) ⊕ (Nat → Option Nat)} {ci : ClassId} {ty : FieldType} (t0 q : Nat) (hd : decode cc pc = .ok (.arraylength, 1)) (hq : pc + 1 = q) (hσ : σ x = some (.inl (ci, N, v))) (ht : (gT G)[t0]? = some (ci, ty)) (kk : V G (A1 G) y cc nL rt d (σ, nn, uu) q L (vi N :: st) post) : V G (A1 G) y cc nL rt d (σ, nn, uu) pc L (.ref x :: st) post := by
  subst hq
  intro n u p e s m args below meth c H locs ls C hB hn hg hA hl hL
  exact va_alen C.1.1 C.1.2.1 C.2.2.2.2.1.1 (P1 (hA.2.2 x _ hσ).2) 0 t0 rfl ht (v := Int32.ofInt N) Int32.ofInt_eq_ofNat.symm hd (kk n u p e s m args below meth c H locs ls C hB hn hg hA hl hL)
theorem h_aald {x N : Nat} {f : Nat → Option Nat} {z : Int} {ci : ClassId} {Cn : String} (t0 q : Nat) (hd : decode cc pc = .ok (.aaload, 1)) (hq : pc + 1 = q) (hσ : σ x = some (.inl (ci, N, .inr (.inr (.inr (.inr f)))))) (ht : (gT G)[t0]? = some (ci, .object Cn)) (hz : 0 ≤ z ∧ z < N) (hN : N < 2147483648) (kk : V G (A1 G) y cc nL rt d (σ, nn, uu) q L (va_rf (f z.toNat) :: st) post) : V G (A1 G) y cc nL rt d (σ, nn, uu) pc L (vi z :: .ref x :: st) post := by
  subst hq
  intro n u p e s m args below meth c H locs ls C hB hn hg hA hl hL
  obtain ⟨h1, h2⟩ := ix_nat hz hN
  exact va_aldq C.1.1 C.1.2.1 C.2.2.2.2.1.1 (P1 (hA.2.2 x _ hσ).2) 0 t0 rfl ht h1 hd (by rw [h2]; exact kk n u p e s m args below meth c H locs ls C hB hn hg hA hl hL)
theorem h_iast {x N : Nat} {f : Nat → Int32} {z w : Int} (q : Nat) (hd : decode cc pc = .ok (.iastore, 1)) (hq : pc + 1 = q) (hσ : σ x = some (.inl (gK G 0, N, .inl f))) (hz : 0 ≤ z ∧ z < N) (hN : N < 2147483648) (kk : V G (A1 G) y cc nL rt d (up σ x (some (.inl (gK G 0, N, .inl (up f z.toNat (Int32.ofInt w))))), nn, uu) q L st post) : V G (A1 G) y cc nL rt d (σ, nn, uu) pc L (vi w :: vi z :: .ref x :: st) post := by
  subst hq
  intro n u p e s m args below meth c H locs ls C hB hn hg hA hl hL
  obtain ⟨h1, h2⟩ := ix_nat hz hN
  obtain ⟨hx, hc⟩ := hA.2.2 x _ hσ
  have hc : H[x]? = some (vp_cell (gK G 0) (N, .inl f)) := hc
  refine W.iast C.1.1 C.1.2.1 hc ((C.2.2.2.2.1.1.2 0 _ rfl).1 N (fun j => .int (f j))) (fun q => by cases q) (by show ¬ (_ < 0 ∨ (arrV _ _ _).slots.size ≤ _); rw [arrV_size]; exact h1) rfl rfl hd fun H' e1 e2 e3 => ?_
  have hsz : (H'[x]?).map (·.slots.size) = (H[x]?).map (·.slots.size) := by rw [e1, hc]; simp [set_size]
  obtain ⟨hB', hgs⟩ := gBase_write hB hx e2 e3 hsz
  have hat : va_at (gD G) vwCl (x, .inl (gK G 0, N, .inl (up f z.toNat (Int32.ofInt w)))) H' := by
    show H'[x]? = some (vp_cell _ _)
    rw [e1, h2, vp_cell_i, vp_cell_i, arrV_store]
    congr 2
    funext j
    by_cases hj : j = z.toNat
    · subst hj; simp [updV, up]
    · simp [updV, up, hj]
  refine W.cs (cells' := H'.size - n) (slots' := gs H' n) (by rw [e2]) (by rw [hgs]) ?_
  exact kk n u p e s m args below meth c H' _ ls C hB' (by rw [e2]; exact hn) (by rw [hgs, hgs]; exact hg) (A1_write hA hx e2 e3 hgs hat) (fun z hz => (List.mem_append.mp hz).elim (hl z) (fun h => by rw [List.mem_singleton.mp h]; exact hx)) hL
theorem h_new {ci N i : Nat} {Cn : String} {T : u_T} {fs : List Value} (ty0 : Nat → FieldType) (q : Nat) (hd : decode cc pc = .ok (.new i, 3)) (hq : pc + 3 = q) (hc : vwCl[ci]? = some (Cn, T, N)) (hin : ∀ w ∈ u_ws Cn T N, w ∈ gTB) (hty : ∀ k, k < N → parseFieldDescriptor (T k).2.2.1 = some (ty0 k)) (hw : Cond.classLink y.cls i Cn ∈ gTB) (hi : Cond.instantiable Cn N ∈ gTB) (hini : Cond.initialized Cn ∈ gTB) (hfs : ∀ j, j < N → defaultValue (ty0 j) = vp_V fs j) (hN : nn + 1 ≤ gN G) (hU : uu + N ≤ gU G)
    (kk : V G (A1 G) y cc nL rt d (up σ nn (some (.inr (ci, fs))), nn + 1, uu + N) q L (.ref nn :: st) post) : V G (A1 G) y cc nL rt d (σ, nn, uu) pc L st post := by
  subst hq
  intro n u p e s m args below meth c H locs ls C hB hn hg hA hl hL
  have hts := C.1.2.2.2.2
  have hKn := C.2.2.2.2.1.1.1 ci _ hc
  have a1 : H.size = nn := hA.1
  have a2 : gs H (gB G) = uu := hA.2.1
  refine W.newc C.1.1 C.1.2.1 C.1.2.2.2.1 (hts _ hw) (hts _ hi) (hts _ hini) rfl hd (by show _ ≤ gN G - n; omega) (by show _ ≤ gU G - u; omega) fun cC kC h1 h2 h3 h4 => ?_
  have hcC : cC = (gD G).1 ci := Option.some.inj (h1.symm.trans hKn.2.1)
  subst hcC
  have hsz : (blank ((gD G).1 ci) kC).slots.size = N := by show (kC.instanceTypes.map defaultValue).size = N; rw [Array.size_map]; exact h4
  have e1 : (H.push (blank ((gD G).1 ci) kC))[H.size]? = some (blank ((gD G).1 ci) kC) := by simp
  have hat : va_at (gD G) vwCl (H.size, .inr (ci, fs)) (H.push (blank ((gD G).1 ci) kC)) := ⟨_, hc, (u_born ty0 hts hin hKn h2 e1 hty).to hfs⟩
  obtain ⟨hB', hgs⟩ := grow_facts (x := blank ((gD G).1 ci) kC) hB (by omega) (by omega)
  have hA' := A1_push hA hB hat
  rw [hsz] at hA' hgs
  refine W.cs (cells' := (H.push (blank ((gD G).1 ci) kC)).size - n) (slots' := gs (H.push (blank ((gD G).1 ci) kC)) n) (by rw [Array.size_push]; omega) (by rw [hgs n hn]) ?_
  have k1 := kk n u p e s m args below meth c (H.push (blank ((gD G).1 ci) kC)) locs ls C hB' (by rw [Array.size_push]; omega) (by rw [hgs _ hB.1, hgs n hn, hg]; omega) hA' hl hL
  rw [← a1] at k1
  exact k1
theorem h_newa {N : Nat} {z : Int} (q : Nat) (hd : decode cc pc = .ok (.newarray .int, 2)) (hq : pc + 2 = q) (hz : z = N) (hz2 : N ≤ 134217728) (hN : nn + 1 ≤ gN G) (hU : uu + N ≤ gU G)
    (kk : V G (A1 G) y cc nL rt d (up σ nn (some (.inl (gK G 0, N, .inl (fun _ => 0)))), nn + 1, uu + N) q L (.ref nn :: st) post) : V G (A1 G) y cc nL rt d (σ, nn, uu) pc L (vi z :: st) post := by
  subst hq
  subst hz
  intro n u p e s m args below meth c H locs ls C hB hn hg hA hl hL
  have hts := C.1.2.2.2.2
  have a1 : H.size = nn := hA.1
  have a2 : gs H (gB G) = uu := hA.2.1
  have hz3 : (Int32.ofInt (N : Int)).toNatClampNeg = N := by rw [Int32.ofInt_eq_ofNat]; exact nI_clamp (by omega)
  have hz0 : ¬ Int32.ofInt (N : Int) < 0 := by rw [Int32.ofInt_eq_ofNat]; exact nI_pos (by omega)
  refine W.newa (atype := .int) C.1.1 C.1.2.1 (hts _ ac_int) rfl hd rfl hz0 (by rw [hz3]; show N * 4 ≤ _; omega) (by show _ ≤ gN G - n; omega) (by rw [hz3]; show _ ≤ gU G - u; omega) fun cA kA comp h1 h2 h3 => ?_
  have hcA : cA = gK G 0 := Option.some.inj (h1.symm.trans (C.2.2.2.2.1.1.2 0 _ rfl).2)
  subst hcA
  rw [hz3]
  generalize hxe : ({ cls := gK G 0, slots := Array.replicate N (defaultValue (newarray.typeOf .int)), vm := .none } : Cell) = x
  have hsz : x.slots.size = N := by rw [← hxe]; simp
  have hat : va_at (gD G) vwCl (H.size, .inl (gK G 0, N, .inl (fun _ => 0))) (H.push x) := by
    show (H.push x)[H.size]? = some (vp_cell _ _)
    rw [vp_cell_i, show (H.push x)[H.size]? = some x by simp, ← hxe]
    exact congrArg some (arrV_new _ _ _)
  obtain ⟨hB', hgs⟩ := grow_facts (x := x) hB (by omega) (by omega)
  have hA' := A1_push hA hB hat
  rw [hsz] at hA' hgs
  refine W.cs (cells' := (H.push x).size - n) (slots' := gs (H.push x) n) (by rw [Array.size_push]; omega) (by rw [hgs n hn]) ?_
  have k1 := kk n u p e s m args below meth c (H.push x) locs ls C hB' (by rw [Array.size_push]; omega) (by rw [hgs _ hB.1, hgs n hn, hg]; omega) hA' hl hL
  rw [← a1] at k1
  exact k1
end HEAP
