/-! ===== the heap as cells by their addresses: A1; rows on fields, arrays, makings ===== -/
abbrev HS : Type := Nat → Option va_E
/-- the cells that are told (others are free), how many cells there are, how many slots ours have at the most -/
def A1 (G : GT) (a : HS × Nat × Nat) (H : Heap) : Prop := H.size = a.2.1 ∧ gs H (gB G) ≤ a.2.2 ∧ ∀ (x : Nat) (c : va_E), a.1 x = some c → gB G ≤ x ∧ va_at (gD G) vwCl (x, c) H
def up {ι β : Type} [DecidableEq ι] (f : ι → β) (k : ι) (v : β) : ι → β := fun j => if j = k then v else f j
theorem up_s {ι β : Type} [DecidableEq ι] (f : ι → β) (k : ι) (v : β) : up f k v k = v := if_pos rfl
theorem up_n {ι β : Type} [DecidableEq ι] {f : ι → β} {k j : ι} {v : β} (h : j ≠ k) : up f k v j = f j := if_neg h
theorem up_up {ι β : Type} [DecidableEq ι] (f : ι → β) (k : ι) (v w : β) : up (up f k v) k w = up f k w := by
  funext j
  unfold up
  split <;> rfl
theorem up_self {ι β : Type} [DecidableEq ι] {f : ι → β} {k : ι} {v : β} (h : f k = v) : up f k v = f := by
  funext j
  unfold up
  split
  · rename_i e; rw [e, h]
  · rfl
theorem up_swap {ι β : Type} [DecidableEq ι] (f : ι → β) {i j : ι} (v w : β) (h : i ≠ j) : up (up f i v) j w = up (up f j w) i v := by
  funext k
  unfold up
  by_cases h1 : k = i
  · by_cases h2 : k = j
    · exact absurd (h1.symm.trans h2) h
    · rw [if_neg h2, if_pos h1, if_pos h1]
  · by_cases h2 : k = j
    · rw [if_pos h2, if_neg h1, if_pos h2]
    · rw [if_neg h2, if_neg h1, if_neg h1, if_neg h2]
theorem P1 {D : va_G} {cl : List vw_C} {x : Nat} {c : va_E} {H : Heap} (h : va_at D cl (x, c) H) : va_P D cl [(x, c)] H := by
  intro k q hk
  cases k with
  | zero => cases hk; exact h
  | succ k => simp at hk
/-- the told cells below k, as a list -/
def tl (σ : HS) (k : Nat) : va_W := (List.range k).filterMap fun z => (σ z).map fun c => (z, c)
theorem tl_of {σ : HS} {k i z : Nat} {c : va_E} (h : (tl σ k)[i]? = some (z, c)) : σ z = some c := by
  obtain ⟨w, -, hw⟩ := List.mem_filterMap.mp (List.mem_of_getElem? h)
  obtain ⟨c', h1, h2⟩ := Option.map_eq_some_iff.mp hw
  cases h2
  exact h1
theorem tl_at {σ : HS} {k z : Nat} {c : va_E} (h : σ z = some c) (hz : z < k) : ∃ i : Nat, (tl σ k)[i]? = some (z, c) :=
  List.mem_iff_getElem?.mp (List.mem_filterMap.mpr ⟨z, List.mem_range.mpr hz, Option.map_eq_some_iff.mpr ⟨c, h, rfl⟩⟩)
theorem tl_rise (σ : HS) (k : Nat) : (tl σ k).Pairwise fun p q => p.1 < q.1 :=
  List.pairwise_filterMap.mpr (List.pairwise_lt_range.imp fun {a b} hab p hp q hq => by
    obtain ⟨_, -, rfl⟩ := Option.map_eq_some_iff.mp hp
    obtain ⟨_, -, rfl⟩ := Option.map_eq_some_iff.mp hq
    exact hab)
theorem tl_less {σ : HS} {k i j : Nat} {p q : Nat × va_E} (hi : (tl σ k)[i]? = some p) (hj : (tl σ k)[j]? = some q) (h : i < j) : p.1 < q.1 := by
  obtain ⟨a, rfl⟩ := List.getElem?_eq_some_iff.mp hi
  obtain ⟨b, rfl⟩ := List.getElem?_eq_some_iff.mp hj
  exact List.pairwise_iff_getElem.mp (tl_rise σ k) i j a b h
theorem tl_once {σ : HS} {k i j : Nat} {p q : Nat × va_E} (hi : (tl σ k)[i]? = some p) (hj : (tl σ k)[j]? = some q) (h : p.1 = q.1) : i = j := by
  rcases Nat.lt_trichotomy i j with g | g | g
  · exact absurd h (Nat.ne_of_lt (tl_less hi hj g))
  · exact g
  · exact absurd h.symm (Nat.ne_of_lt (tl_less hj hi g))
theorem A1.lt {G : GT} {a : HS × Nat × Nat} {H : Heap} (hA : A1 G a H) {z : Nat} {c : va_E} (h : a.1 z = some c) : z < H.size := (hA.2.2 z c h).2.lt
/-- a rule that speaks of a list of cells, used where all that are told are in the list: what it wants, and how to go on behind it; how large the heap is then the frame's books say -/
theorem A1_rule {G : GT} {y : MethodName} {cc : ByteArray} {nL : Nat} {rt : Option FieldType} {d : Nat} {σ : HS} {nn uu : Nat} {q : Nat} {L : List (Option Value)} {st : List Value} {post : Option Value → HS × Nat × Nat → Prop} {n u : Nat} {p : Program} {e : Env} {s : State} {m : MethodId} {args : Array Value} {below : List Frame} {meth : Method} {c : Code} {H : Heap} {locs : List Loc} {ls : Array Slot}
    (C : gCtx G y cc nL rt n u p s m args meth c) (hB : gBase G H) (hn : n ≤ H.size) (hg : gs H (gB G) = u + gs H n) (hA : A1 G (σ, nn, uu) H) (hl : ∀ l ∈ locs, gB G ≤ l.base) (hL : lv_has ls nL (lvl 0 L)) :
    va_P (gD G) vwCl (tl σ H.size) H ∧ va_D (fun a => gB G ≤ a) (tl σ H.size) ∧ va_S (fun a => gB G ≤ a) H H locs ∧
    ∀ (i x : Nat) (e0 e1 : va_E), (tl σ H.size)[i]? = some (x, e0) → V G (A1 G) y cc nL rt d (up σ x (some e1), nn, uu) q L st post → ∀ (H1 : Heap) (locs1 : List Loc), va_P (gD G) vwCl ((tl σ H.size).set i (x, e1)) H1 → va_D (fun a => gB G ≤ a) ((tl σ H.size).set i (x, e1)) → va_S (fun a => gB G ≤ a) H H1 locs1 →
      W p (gL G) e (gR G d n u) s m args below meth c H1 locs1 (H.size - n) (gs H n) (MQ below (gQ G (A1 G) post) args s (gN G - n) (gU G - u) (fun a => gB G ≤ a)) (F0 m q ls st) := by
  refine ⟨fun k z hz => (hA.2.2 z.1 z.2 (tl_of hz)).2, ⟨fun i j a b ha hb hab => tl_once ha hb hab, fun k z hz => (hA.2.2 z.1 z.2 (tl_of hz)).1⟩, ⟨Nat.le_refl _, fun _ _ _ => rfl, hl⟩, ?_⟩
  intro i x e0 e1 hi kk H1 locs1 hP _ hS T hT X
  subst hT
  have c1 : s.heap.size = n := C.2.2.2.2.2.1
  have c2 : gs s.heap (gB G) = u := C.2.2.2.2.2.2.1
  have c3 : gB G ≤ s.heap.size := C.2.2.2.2.2.2.2.1
  have up1 : T.heap.size ≤ s.heap.size + (H.size - n) := X.same.2.2.1
  have up2 : gs T.heap s.heap.size ≤ gs H n := X.same.2.2.2.2.1
  have sp := gs_stand X c3
  have lo : H.size ≤ T.heap.size := hS.1
  have hz : T.heap.size = H.size := by omega
  have hli : i < (tl σ H.size).length := (List.getElem?_eq_some_iff.mp hi).1
  have a1 : H.size = nn := hA.1
  have a2 : gs H (gB G) ≤ uu := hA.2.1
  have b2 : H.size ≤ gN G := hB.2.1
  have b3 : gs H (gB G) ≤ gU G := hB.2.2.1
  subst c1
  refine kk _ u p e s m args below meth c T.heap locs1 ls C ⟨by omega, by omega, by omega, fun a ha => ?_⟩ (by omega) (by omega) ⟨?_, ?_, fun z k h => ?_⟩ hS.2.2 hL T rfl (stand_tight X)
  · rw [hS.2.1 a (by omega) (by omega)]
    exact hB.2.2.2 a ha
  · show T.heap.size = nn
    omega
  · show gs T.heap (gB G) ≤ uu
    omega
  · have h : up σ x (some e1) z = some k := h
    by_cases g : z = x
    · subst g
      rw [up_s] at h
      cases h
      exact ⟨(hA.2.2 z e0 (tl_of hi)).1, hP i (z, e1) (List.getElem?_set_self hli)⟩
    · rw [up_n g] at h
      obtain ⟨j, hj⟩ := tl_at (k := H.size) h (hA.lt (a := (σ, nn, uu)) h)
      have hne : i ≠ j := fun w => by
        subst w
        rw [hi] at hj
        cases hj
        exact g rfl
      exact ⟨(hA.2.2 z k h).1, hP j (z, k) ((List.getElem?_set_ne hne).trans hj)⟩
/-- one more cell -/
theorem grow_facts {G : GT} {H : Heap} {x : Cell} (hB : gBase G H) (hN : H.size + 1 ≤ gN G) (hU : gs H (gB G) + x.slots.size ≤ gU G) : gBase G (H.push x) ∧ ∀ b, b ≤ H.size → gs (H.push x) b = gs H b + x.slots.size :=
  ⟨⟨by rw [Array.size_push]; have := hB.1; omega, by rw [Array.size_push]; exact hN, by rw [gs_push H x hB.1]; exact hU, fun q hq => by
    have := hB.1
    rw [Array.getElem?_push, if_neg (by omega)]
    exact hB.2.2.2 q hq⟩, fun b hb => gs_push H x hb⟩
theorem A1_push {G : GT} {a : HS × Nat × Nat} {H : Heap} {x : Cell} {c : va_E} (hA : A1 G a H) (hB : gBase G H) (hc : va_at (gD G) vwCl (H.size, c) (H.push x)) : A1 G (up a.1 a.2.1 (some c), a.2.1 + 1, a.2.2 + x.slots.size) (H.push x) := by
  refine ⟨by rw [Array.size_push, hA.1], by rw [gs_push H x hB.1]; exact Nat.add_le_add_right hA.2.1 _, fun z c' h => ?_⟩
  by_cases e : z = a.2.1
  · subst e
    have h : up a.1 a.2.1 (some c) a.2.1 = some c' := h
    rw [up_s] at h
    cases h
    rw [← hA.1]
    exact ⟨hB.1, hc⟩
  · have h : up a.1 a.2.1 (some c) z = some c' := h
    rw [up_n e] at h
    obtain ⟨h1, h2⟩ := hA.2.2 z c' h
    have hlt : z < H.size := h2.lt
    exact ⟨h1, h2.kept (by rw [Array.getElem?_push, if_neg (Nat.ne_of_lt hlt)])⟩
section HEAP
variable {G : GT} {y : MethodName} {cc : ByteArray} {nL : Nat} {rt : Option FieldType} {d : Nat} {σ : HS} {nn uu : Nat} {pc : Nat} {L : List (Option Value)} {st : List Value} {post : Option Value → HS × Nat × Nat → Prop}
theorem h_get {x ci N i : Nat} {Cn : String} {T : u_T} {fs : List Value} {v : Value} (q k : Nat) (hd : decode cc pc = .ok (.getfield i, 3)) (hq : pc + 3 = q) (hσ : σ x = some (.inr (ci, fs))) (hc : vwCl[ci]? = some (Cn, T, N)) (hin : ∀ w ∈ u_ws Cn T N, w ∈ gTB) (hw : Cond.fieldLink y.cls i (T k).1 (T k).2.1 (T k).2.2.1 ∈ gTB) (hk : k < N) (hv : fs[k]? = some v) (kk : V G (A1 G) y cc nL rt d (σ, nn, uu) q L (v :: st) post) : V G (A1 G) y cc nL rt d (σ, nn, uu) pc L (.ref x :: st) post := by
  subst hq
  intro n u p e s m args below meth c H locs ls C hB hn hg hA hl hL
  exact va_get C.1.1 C.1.2.1 C.1.2.2.2.2 hin C.1.2.2.2.1 C.2.2.2.2.1.1 (P1 (hA.2.2 x _ hσ).2) 0 rfl hc k hk (C.1.2.2.2.2 _ hw) (fun _ h => h) hv hd (kk n u p e s m args below meth c H locs ls C hB hn hg hA hl hL)
theorem h_put {x ci N i : Nat} {Cn : String} {T : u_T} {fs : List Value} {v : Value} (ty0 : Nat → FieldType) (q k : Nat) (hd : decode cc pc = .ok (.putfield i, 3)) (hq : pc + 3 = q) (hσ : σ x = some (.inr (ci, fs))) (hc : vwCl[ci]? = some (Cn, T, N)) (hin : ∀ w ∈ u_ws Cn T N, w ∈ gTB) (hty : ∀ k, k < N → parseFieldDescriptor (T k).2.2.1 = some (ty0 k)) (hnm : ∀ a, a < N → ∀ b, b < N → a ≠ b → (T a).2.1 ≠ (T b).2.1) (hw : Cond.fieldLink y.cls i (T k).1 (T k).2.1 (T k).2.2.1 ∈ gTB) (hk : k < N) (hfin : (T k).2.2.2 = false ∨ (T k).2.2.2 = true ∧ y.name = "<init>" ∧ (T k).1 = y.cls) (hn1 : narrow (ty0 k) v = v) (hfit : fits (ty0 k) v = true) (hlen : k < fs.length)
    (kk : V G (A1 G) y cc nL rt d (up σ x (some (.inr (ci, fs.set k v))), nn, uu) q L st post) : V G (A1 G) y cc nL rt d (σ, nn, uu) pc L (v :: .ref x :: st) post := by
  subst hq
  intro n u p e s m args below meth c H locs ls C hB hn hg hA hl hL
  obtain ⟨i0, hi0⟩ := tl_at hσ (hA.lt (a := (σ, nn, uu)) hσ)
  obtain ⟨w1, w2, w3, go⟩ := A1_rule (e := e) (below := below) C hB hn hg hA hl hL
  rcases hfin with h | ⟨h, h', h''⟩
  · exact va_put C.1.1 C.1.2.1 C.1.2.2.2.2 hin ty0 hty hnm C.1.2.2.2.1 C.2.2.2.2.1.1 w1 w2 w3 i0 hi0 hc k hk (C.1.2.2.2.2 _ hw) (fun _ g => g) h (hty k hk) hn1 hfit hlen hd (go i0 x _ _ hi0 kk)
  · exact va_putF C.1.1 C.1.2.1 C.1.2.2.2.2 hin ty0 hty hnm C.1.2.2.2.1 C.2.2.2.2.1.1 w1 w2 w3 i0 hi0 hc k hk (C.1.2.2.2.2 _ hw) (fun _ g => g) h (C.2.2.2.1.trans h') h'' (hty k hk) hn1 hfit hlen hd (go i0 x _ _ hi0 kk)
/-- an index as a number -/
theorem ix_nat {z : Int} {N : Nat} (hz : 0 ≤ z ∧ z < N) (hN : N < 2147483648) : vp_in (Int32.ofInt z) N ∧ (Int32.ofInt z).toNatClampNeg = z.toNat := by
  obtain ⟨k, rfl⟩ := Int.eq_ofNat_of_zero_le hz.1
  rw [Int32.ofInt_eq_ofNat]
  exact ⟨vp_in_nI (by omega) (by omega), nI_clamp (by omega)⟩
theorem h_iald {x N : Nat} {f : Nat → Int32} {z : Int} (q : Nat) (hd : decode cc pc = .ok (.iaload, 1)) (hq : pc + 1 = q) (hσ : σ x = some (.inl (gK G 0, N, .inl f))) (hz : 0 ≤ z ∧ z < N) (hN : N < 2147483648) (kk : V G (A1 G) y cc nL rt d (σ, nn, uu) q L (.int (f z.toNat) :: st) post) : V G (A1 G) y cc nL rt d (σ, nn, uu) pc L (vi z :: .ref x :: st) post := by
  subst hq
  intro n u p e s m args below meth c H locs ls C hB hn hg hA hl hL
  obtain ⟨h1, h2⟩ := ix_nat hz hN
  exact va_iald C.1.1 C.1.2.1 C.2.2.2.2.1.1 (P1 (hA.2.2 x _ hσ).2) 0 0 rfl rfl h1 hd (by rw [h2]; exact kk n u p e s m args below meth c H locs ls C hB hn hg hA hl hL)
theorem h_alen {x N : Nat} {v : (Nat → Int32) ⊕ (Nat → Int64) ⊕ (Nat → UInt32) ⊕ (Nat → UInt64) ⊕ (Nat → Option Nat)} {ci : ClassId} {ty : FieldType} (t0 q : Nat) (hd : decode cc pc = .ok (.arraylength, 1)) (hq : pc + 1 = q) (hσ : σ x = some (.inl (ci, N, v))) (ht : (gT G)[t0]? = some (ci, ty)) (kk : V G (A1 G) y cc nL rt d (σ, nn, uu) q L (vi N :: st) post) : V G (A1 G) y cc nL rt d (σ, nn, uu) pc L (.ref x :: st) post := by
  subst hq
  intro n u p e s m args below meth c H locs ls C hB hn hg hA hl hL
  exact va_alen C.1.1 C.1.2.1 C.2.2.2.2.1.1 (P1 (hA.2.2 x _ hσ).2) 0 t0 rfl ht (v := Int32.ofInt N) Int32.ofInt_eq_ofNat.symm hd (kk n u p e s m args below meth c H locs ls C hB hn hg hA hl hL)
theorem h_aald {x N : Nat} {f : Nat → Option Nat} {z : Int} {ci : ClassId} {Cn : String} (t0 q : Nat) (hd : decode cc pc = .ok (.aaload, 1)) (hq : pc + 1 = q) (hσ : σ x = some (.inl (ci, N, .inr (.inr (.inr (.inr f)))))) (ht : (gT G)[t0]? = some (ci, .object Cn)) (hz : 0 ≤ z ∧ z < N) (hN : N < 2147483648) (kk : V G (A1 G) y cc nL rt d (σ, nn, uu) q L (va_rf (f z.toNat) :: st) post) : V G (A1 G) y cc nL rt d (σ, nn, uu) pc L (vi z :: .ref x :: st) post := by
  subst hq
  intro n u p e s m args below meth c H locs ls C hB hn hg hA hl hL
  obtain ⟨h1, h2⟩ := ix_nat hz hN
  exact va_aldq C.1.1 C.1.2.1 C.2.2.2.2.1.1 (P1 (hA.2.2 x _ hσ).2) 0 t0 rfl ht h1 hd (by rw [h2]; exact kk n u p e s m args below meth c H locs ls C hB hn hg hA hl hL)
theorem h_iast {x N : Nat} {f : Nat → Int32} {z w : Int} (q : Nat) (hd : decode cc pc = .ok (.iastore, 1)) (hq : pc + 1 = q) (hσ : σ x = some (.inl (gK G 0, N, .inl f))) (hz : 0 ≤ z ∧ z < N) (hN : N < 2147483648) (kk : V G (A1 G) y cc nL rt d (up σ x (some (.inl (gK G 0, N, .inl (up f z.toNat (Int32.ofInt w))))), nn, uu) q L st post) : V G (A1 G) y cc nL rt d (σ, nn, uu) pc L (vi w :: vi z :: .ref x :: st) post := by
  subst hq
  intro n u p e s m args below meth c H locs ls C hB hn hg hA hl hL
  obtain ⟨i0, hi0⟩ := tl_at hσ (hA.lt (a := (σ, nn, uu)) hσ)
  obtain ⟨w1, w2, w3, go⟩ := A1_rule (e := e) (below := below) C hB hn hg hA hl hL
  obtain ⟨h1, h2⟩ := ix_nat hz hN
  rw [← h2] at kk
  exact va_iast C.1.1 C.1.2.1 C.2.2.2.2.1.1 w1 w2 w3 i0 0 hi0 rfl h1 hd (go i0 x _ _ hi0 kk)
theorem h_new {ci N i : Nat} {Cn : String} {T : u_T} {fs : List Value} (ty0 : Nat → FieldType) (q : Nat) (hd : decode cc pc = .ok (.new i, 3)) (hq : pc + 3 = q) (hc : vwCl[ci]? = some (Cn, T, N)) (hin : ∀ w ∈ u_ws Cn T N, w ∈ gTB) (hty : ∀ k, k < N → parseFieldDescriptor (T k).2.2.1 = some (ty0 k)) (hw : Cond.classLink y.cls i Cn ∈ gTB) (hi : Cond.instantiable Cn N ∈ gTB) (hini : Cond.initialized Cn ∈ gTB) (hfs : ∀ j, j < N → defaultValue (ty0 j) = vp_V fs j) (hN : nn + 1 ≤ gN G) (hU : uu + N ≤ gU G)
    (kk : V G (A1 G) y cc nL rt d (up σ nn (some (.inr (ci, fs))), nn + 1, uu + N) q L (.ref nn :: st) post) : V G (A1 G) y cc nL rt d (σ, nn, uu) pc L st post := by
  subst hq
  intro n u p e s m args below meth c H locs ls C hB hn hg hA hl hL
  have hts := C.1.2.2.2.2
  have hKn := C.2.2.2.2.1.1.1 ci _ hc
  have a1 : H.size = nn := hA.1
  have a2 : gs H (gB G) ≤ uu := hA.2.1
  refine W.newc C.1.1 C.1.2.1 C.1.2.2.2.1 (hts _ hw) (hts _ hi) (hts _ hini) rfl hd (by show _ ≤ gN G - n; omega) (by show _ ≤ gU G - u; omega) fun cC kC h1 h2 h3 h4 => ?_
  have hcC : cC = (gD G).1 ci := Option.some.inj (h1.symm.trans hKn.2.1)
  subst hcC
  have hsz : (blank ((gD G).1 ci) kC).slots.size = N := by show (kC.instanceTypes.map defaultValue).size = N; rw [Array.size_map]; exact h4
  have e1 : (H.push (blank ((gD G).1 ci) kC))[H.size]? = some (blank ((gD G).1 ci) kC) := by simp
  have hat : va_at (gD G) vwCl (H.size, .inr (ci, fs)) (H.push (blank ((gD G).1 ci) kC)) := ⟨_, hc, (u_born ty0 hts hin hKn h2 e1 hty).to hfs⟩
  obtain ⟨hB', hgs⟩ := grow_facts (x := blank ((gD G).1 ci) kC) hB (by omega) (by omega)
  have hA' := A1_push hA hB hat
  rw [hsz] at hA' hgs
  refine W.cs (cells' := (H.push (blank ((gD G).1 ci) kC)).size - n) (slots' := gs (H.push (blank ((gD G).1 ci) kC)) n) (by rw [Array.size_push]; omega) (by rw [hgs n hn]) ?_
  have k1 := kk n u p e s m args below meth c (H.push (blank ((gD G).1 ci) kC)) locs ls C hB' (by rw [Array.size_push]; omega) (by rw [hgs _ hB.1, hgs n hn, hg]; omega) hA' hl hL
  rw [← a1] at k1
  exact k1
theorem h_newa {N : Nat} {z : Int} (q : Nat) (hd : decode cc pc = .ok (.newarray .int, 2)) (hq : pc + 2 = q) (hz : z = N) (hz2 : N ≤ 134217728) (hN : nn + 1 ≤ gN G) (hU : uu + N ≤ gU G)
    (kk : V G (A1 G) y cc nL rt d (up σ nn (some (.inl (gK G 0, N, .inl (fun _ => 0)))), nn + 1, uu + N) q L (.ref nn :: st) post) : V G (A1 G) y cc nL rt d (σ, nn, uu) pc L (vi z :: st) post := by
  subst hq
  subst hz
  intro n u p e s m args below meth c H locs ls C hB hn hg hA hl hL
  have hts := C.1.2.2.2.2
  have a1 : H.size = nn := hA.1
  have a2 : gs H (gB G) ≤ uu := hA.2.1
  have hz3 : (Int32.ofInt (N : Int)).toNatClampNeg = N := by rw [Int32.ofInt_eq_ofNat]; exact nI_clamp (by omega)
  have hz0 : ¬ Int32.ofInt (N : Int) < 0 := by rw [Int32.ofInt_eq_ofNat]; exact nI_pos (by omega)
  refine W.newa (atype := .int) C.1.1 C.1.2.1 (hts _ ac_int) rfl hd rfl hz0 (by rw [hz3]; show N * 4 ≤ _; omega) (by show _ ≤ gN G - n; omega) (by rw [hz3]; show _ ≤ gU G - u; omega) fun cA kA comp h1 h2 h3 => ?_
  have hcA : cA = gK G 0 := Option.some.inj (h1.symm.trans (C.2.2.2.2.1.1.2 0 _ rfl).2)
  subst hcA
  rw [hz3]
  generalize hxe : ({ cls := gK G 0, slots := Array.replicate N (defaultValue (newarray.typeOf .int)), vm := .none } : Cell) = x
  have hsz : x.slots.size = N := by rw [← hxe]; simp
  have hat : va_at (gD G) vwCl (H.size, .inl (gK G 0, N, .inl (fun _ => 0))) (H.push x) := by
    show (H.push x)[H.size]? = some (vp_cell _ _)
    rw [vp_cell_i, show (H.push x)[H.size]? = some x by simp, ← hxe]
    exact congrArg some (arrV_new _ _ _)
  obtain ⟨hB', hgs⟩ := grow_facts (x := x) hB (by omega) (by omega)
  have hA' := A1_push hA hB hat
  rw [hsz] at hA' hgs
  refine W.cs (cells' := (H.push x).size - n) (slots' := gs (H.push x) n) (by rw [Array.size_push]; omega) (by rw [hgs n hn]) ?_
  have k1 := kk n u p e s m args below meth c (H.push x) locs ls C hB' (by rw [Array.size_push]; omega) (by rw [hgs _ hB.1, hgs n hn, hg]; omega) hA' hl hL
  rw [← a1] at k1
  exact k1
end HEAP
