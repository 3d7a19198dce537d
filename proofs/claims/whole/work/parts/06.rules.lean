/-! ===== one-instruction rules of V: numbers as Int (vi z), truth as Bool (vb b) ===== -/
def vi (z : Int) : Value := .int (Int32.ofInt z)
def vb (b : Bool) : Value := .int (if b then 1 else 0)
theorem vb_vi (b : Bool) : vb b = vi (if b then 1 else 0) := by cases b <;> rfl
theorem vi_of (x : Int32) : Value.int x = vi x.toInt := by unfold vi; rw [Int32.ofInt_toInt]
theorem rI {z : Int} (h : -2147483648 ≤ z ∧ z ≤ 2147483647) : (Int32.ofInt z).toInt = z := Int32.toInt_ofInt_of_le (by omega) (by omega)
theorem rI_lt {x y : Int} (hx : -2147483648 ≤ x ∧ x ≤ 2147483647) (hy : -2147483648 ≤ y ∧ y ≤ 2147483647) : Int32.ofInt x < Int32.ofInt y ↔ x < y := by rw [Int32.lt_iff_toInt_lt, rI hx, rI hy]
theorem rI_le {x y : Int} (hx : -2147483648 ≤ x ∧ x ≤ 2147483647) (hy : -2147483648 ≤ y ∧ y ≤ 2147483647) : Int32.ofInt x ≤ Int32.ofInt y ↔ x ≤ y := by rw [Int32.le_iff_toInt_le, rI hx, rI hy]
theorem rI_eq {x y : Int} (hx : -2147483648 ≤ x ∧ x ≤ 2147483647) (hy : -2147483648 ≤ y ∧ y ≤ 2147483647) : Int32.ofInt x = Int32.ofInt y ↔ x = y := ⟨fun h => by rw [← rI hx, ← rI hy, h], fun h => by rw [h]⟩
theorem rI_0 : (0 : Int32) = Int32.ofInt 0 := rfl
theorem i32_rg (x : Int32) : -2147483648 ≤ x.toInt ∧ x.toInt ≤ 2147483647 := ⟨by have := Int32.le_toInt x; omega, by have := Int32.toInt_lt x; omega⟩
theorem mem_lvl {L : List (Option Value)} : ∀ {k j : Nat} {w : Value}, (j, w) ∈ lvl k L ↔ ∃ t, j = k + t ∧ L[t]? = some (some w) := by
  induction L with
  | nil => intro k j w; simp [lvl]
  | cons x t ih =>
    intro k j w
    cases x with
    | none =>
      simp only [lvl]
      rw [ih]
      constructor
      · rintro ⟨t', h1, h2⟩
        exact ⟨t' + 1, by omega, by simpa using h2⟩
      · rintro ⟨t', h1, h2⟩
        cases t' with
        | zero => simp at h2
        | succ t' => exact ⟨t', by omega, by simpa using h2⟩
    | some v =>
      simp only [lvl, List.mem_cons]
      rw [ih]
      constructor
      · rintro (h | ⟨t', h1, h2⟩)
        · cases h
          exact ⟨0, by omega, rfl⟩
        · exact ⟨t' + 1, by omega, by simpa using h2⟩
      · rintro ⟨t', h1, h2⟩
        cases t' with
        | zero =>
          left
          simp at h2
          rw [h2, h1]
          rfl
        | succ t' => right; exact ⟨t', by omega, by simpa using h2⟩
theorem lvl_at {ls : Array Slot} {nL : Nat} {L : List (Option Value)} (h : lv_has ls nL (lvl 0 L)) {i : Nat} {v : Value} (hi : L[i]? = some (some v)) : ls[i]? = some (.val v) := h.2.2 (i, v) (mem_lvl.mpr ⟨i, by omega, hi⟩)
/-- the local ahead of i is no long -/
def cat1 (L : List (Option Value)) (i : Nat) : Bool := match i with
  | 0 => true
  | j + 1 => match L[j]? with
    | some (some v) => v.category != 2
    | _ => true
theorem lvl_set {L : List (Option Value)} {i : Nat} {v : Value} (hc : cat1 L i = true) : ∀ q ∈ lvl 0 (L.set i (some v)), q ∈ (i, v) :: (lvl 0 L).filter (fun q => !(q.1 == i) && !(q.1 + 1 == i && q.2.category == 2)) := by
  rintro ⟨j, w⟩ hq
  obtain ⟨t, h1, h2⟩ := mem_lvl.mp hq
  rw [Nat.zero_add] at h1
  subst h1
  rw [List.getElem?_set] at h2
  by_cases hj : i = j
  · subst hj
    simp only [if_true] at h2
    split at h2
    · simp at h2
      rw [h2]
      exact List.mem_cons_self
    · cases h2
  · rw [if_neg hj] at h2
    refine List.mem_cons_of_mem _ (List.mem_filter.mpr ⟨mem_lvl.mpr ⟨j, by omega, h2⟩, ?_⟩)
    have h3 : (j == i) = false := by simp; omega
    simp only [h3, Bool.not_false, Bool.true_and, Bool.not_eq_true', Bool.and_eq_false_iff, beq_eq_false_iff_ne]
    by_cases hji : j + 1 = i
    · right
      subst hji
      simp only [cat1, h2, bne_iff_ne] at hc
      exact hc
    · exact Or.inl hji
theorem lvl_has {ls : Array Slot} {nL : Nat} {L : List (Option Value)} {i : Nat} {v : Value} (hc : cat1 L i = true) (h : lv_has ls nL ((i, v) :: (lvl 0 L).filter (fun q => !(q.1 == i) && !(q.1 + 1 == i && q.2.category == 2)))) : lv_has ls nL (lvl 0 (L.set i (some v))) := ⟨h.1, h.2.1, fun q hq => h.2.2 q (lvl_set hc q hq)⟩
section VR
variable {α : Type} {G : GT} {Abs : α → Heap → Prop} {y : MethodName} {cc : ByteArray} {nL : Nat} {rt : Option FieldType} {d : Nat} {a : α} {pc : Nat} {L : List (Option Value)} {st : List Value} {post : Option Value → α → Prop}
theorem Cm_intro {av : List Value} (hy : plainName y.cls = true) (hav : (lg_sl av).length ≤ nL) (hL : lvl 0 L = lv_args 0 av) (h : V G Abs y cc nL rt d a 0 L [] post) : Cm G Abs y cc nL rt d av a post := by
  intro n u
  refine Met.ofW (cc := cc) (maxL := nL) (ret := rt) hy rfl ?_
  intro p e s m args below meth c s₁ B hml hv
  obtain ⟨rfl, hsz, hu, hb, hK, hA⟩ := hv
  have hts := atoms_spec (ws := Cond.code y cc nL rt :: gTB) B.pre
  have hown : s.vm.findClass y.cls = some m.cls := findClass_of_methodNamed B.named
  have hC : gCtx G y cc nL rt n u p s m av.toArray meth c := ⟨⟨B.exec, B.bytes, hml, hown, fun w hw => hts w (List.mem_cons_of_mem _ hw)⟩, B.returns, B.notSynchronized, (name_of_methodNamed B.named B.method).1, hK, hsz, hu, hb⟩
  have hl := lv_entry av (n := nL) hav
  rw [lg_entry_eq]
  have g0 : gs s.heap n = 0 := by rw [← hsz, gs_self]
  have h1 := h n u p e s m av.toArray below meth c s.heap [] _ hC hb (Nat.le_of_eq hsz.symm) (by rw [hu, g0]; rfl) hA (fun q hq => by cases hq) (by rw [hL]; exact hl)
  exact W.cs (by omega) g0.symm h1
/-- another picture of the same heap -/
theorem V_lift {β : Type} {Abs2 : β → Heap → Prop} {b : β} {post2 : Option Value → β → Prop} (h : ∀ H, Abs2 b H → ∃ a : α, Abs a H ∧ V G Abs y cc nL rt d a pc L st (fun v a' => ∃ b', (∀ H, Abs a' H → Abs2 b' H) ∧ post2 v b')) : V G Abs2 y cc nL rt d b pc L st post2 := by
  intro n u p e s m args below meth c H locs ls C hB hn hg hA hl hL
  obtain ⟨a, hA1, hV⟩ := h H hA
  refine (hV n u p e s m args below meth c H locs ls C hB hn hg hA1 hl hL).mono ?_
  rintro t ⟨o, r1, r2, ⟨v, a', e1, ⟨b', q1, q2⟩, q3, q4⟩, r3⟩
  exact ⟨o, r1, r2, ⟨v, b', e1, q2, q3, q1 _ q4⟩, r3⟩
theorem V_post {post2 : Option Value → α → Prop} (h : V G Abs y cc nL rt d a pc L st post2) (hp : ∀ v b, post2 v b → post v b) : V G Abs y cc nL rt d a pc L st post := by
  intro n u p e s m args below meth c H locs ls C hB hn hg hA hl hL
  refine (h n u p e s m args below meth c H locs ls C hB hn hg hA hl hL).mono ?_
  rintro t ⟨o, r1, r2, ⟨v, a', e1, q2, q3, q4⟩, r3⟩
  exact ⟨o, r1, r2, ⟨v, a', e1, hp _ _ q2, q3, q4⟩, r3⟩
theorem s_iconst {z : Int} (q : Nat) (hd : decode cc pc = .ok (.iconst z, 1)) (hq : pc + 1 = q)  (k : V G Abs y cc nL rt d a q L (vi z :: st) post) : V G Abs y cc nL rt d a pc L (st) post := by
  subst hq
  intro n u p e s m args below meth c H locs ls C hB hn hg hA hl hL
  exact lv_iconst C.1.1 C.1.2.1 hd rfl (k n u p e s m args below meth c H locs ls C hB hn hg hA hl hL)
theorem s_bipush {z : Int} (q : Nat) (hd : decode cc pc = .ok (.bipush z, 2)) (hq : pc + 2 = q) (hz : -128 ≤ z ∧ z ≤ 127 := by decide) (k : V G Abs y cc nL rt d a q L (vi z :: st) post) : V G Abs y cc nL rt d a pc L (st) post := by
  subst hq
  intro n u p e s m args below meth c H locs ls C hB hn hg hA hl hL
  exact lv_bipush C.1.1 C.1.2.1 hd (v := Int32.ofInt z) (by apply Int32.toInt_inj.mp; rw [rI (by omega), Int8.toInt_toInt32, Int8.toInt_ofInt_of_le (by omega) (by omega)]) (k n u p e s m args below meth c H locs ls C hB hn hg hA hl hL)
theorem s_sipush {z : Int} (q : Nat) (hd : decode cc pc = .ok (.sipush z, 3)) (hq : pc + 3 = q) (hz : -32768 ≤ z ∧ z ≤ 32767 := by decide) (k : V G Abs y cc nL rt d a q L (vi z :: st) post) : V G Abs y cc nL rt d a pc L (st) post := by
  subst hq
  intro n u p e s m args below meth c H locs ls C hB hn hg hA hl hL
  exact lv_sipush C.1.1 C.1.2.1 hd (v := Int32.ofInt z) (by apply Int32.toInt_inj.mp; rw [rI (by omega), Int16.toInt_toInt32, Int16.toInt_ofInt_of_le (by omega) (by omega)]) (k n u p e s m args below meth c H locs ls C hB hn hg hA hl hL)
theorem s_lconst {z : Fin 2} (v : Int64) (q : Nat) (hd : decode cc pc = .ok (.lconst z, 1)) (hq : pc + 1 = q) (hv : Int64.ofNat (z : Nat) = v) (k : V G Abs y cc nL rt d a q L (.long v :: st) post) : V G Abs y cc nL rt d a pc L (st) post := by
  subst hq
  intro n u p e s m args below meth c H locs ls C hB hn hg hA hl hL
  exact lv_lconst C.1.1 C.1.2.1 hd hv (k n u p e s m args below meth c H locs ls C hB hn hg hA hl hL)
theorem s_ldc {i : Nat} (z : Int) {v : Int32} (q : Nat) (hd : decode cc pc = .ok (.ldc i, 2)) (hq : pc + 2 = q) (hw : Cond.constant y.cls i v ∈ gTB) (hv : Int32.ofInt z = v) (k : V G Abs y cc nL rt d a q L (vi z :: st) post) : V G Abs y cc nL rt d a pc L (st) post := by
  subst hq
  intro n u p e s m args below meth c H locs ls C hB hn hg hA hl hL
  exact (lv_ldc C.1.1 C.1.2.1 C.1.2.2.2.1 (v := Int32.ofInt z) (by rw [hv]; exact C.1.2.2.2.2 _ hw) hd) (k n u p e s m args below meth c H locs ls C hB hn hg hA hl hL)
theorem s_ldc2 {i : Nat} {v : Int64} (q : Nat) (hd : decode cc pc = .ok (.ldc2_w i, 3)) (hq : pc + 3 = q) (hw : Cond.constantLong y.cls i v ∈ gTB) (k : V G Abs y cc nL rt d a q L (.long v :: st) post) : V G Abs y cc nL rt d a pc L (st) post := by
  subst hq
  intro n u p e s m args below meth c H locs ls C hB hn hg hA hl hL
  exact (lv_ldc2 C.1.1 C.1.2.1 C.1.2.2.2.1 (C.1.2.2.2.2 _ hw) hd) (k n u p e s m args below meth c H locs ls C hB hn hg hA hl hL)
theorem s_iload_n {i : Fin 4} {z : Int} (q : Nat) (hd : decode cc pc = .ok (.iload_n i, 1)) (hq : pc + 1 = q) (hv : L[(i : Nat)]? = some (some (vi z))) (k : V G Abs y cc nL rt d a q L (vi z :: st) post) : V G Abs y cc nL rt d a pc L (st) post := by
  subst hq
  intro n u p e s m args below meth c H locs ls C hB hn hg hA hl hL
  exact lv_iload_n C.1.1 C.1.2.1 hd rfl (lvl_at hL hv) (k n u p e s m args below meth c H locs ls C hB hn hg hA hl hL)
theorem s_iload {i : Nat} {z : Int} (q : Nat) (hd : decode cc pc = .ok (.iload i, 2)) (hq : pc + 2 = q) (hv : L[i]? = some (some (vi z))) (k : V G Abs y cc nL rt d a q L (vi z :: st) post) : V G Abs y cc nL rt d a pc L (st) post := by
  subst hq
  intro n u p e s m args below meth c H locs ls C hB hn hg hA hl hL
  exact lv_iload C.1.1 C.1.2.1 hd (lvl_at hL hv) (k n u p e s m args below meth c H locs ls C hB hn hg hA hl hL)
theorem s_iload_nb {i : Fin 4} {z : Bool} (q : Nat) (hd : decode cc pc = .ok (.iload_n i, 1)) (hq : pc + 1 = q) (hv : L[(i : Nat)]? = some (some (vb z))) (k : V G Abs y cc nL rt d a q L (vb z :: st) post) : V G Abs y cc nL rt d a pc L (st) post := by
  subst hq
  intro n u p e s m args below meth c H locs ls C hB hn hg hA hl hL
  exact lv_iload_n C.1.1 C.1.2.1 hd rfl (lvl_at hL hv) (k n u p e s m args below meth c H locs ls C hB hn hg hA hl hL)
theorem s_iloadb {i : Nat} {z : Bool} (q : Nat) (hd : decode cc pc = .ok (.iload i, 2)) (hq : pc + 2 = q) (hv : L[i]? = some (some (vb z))) (k : V G Abs y cc nL rt d a q L (vb z :: st) post) : V G Abs y cc nL rt d a pc L (st) post := by
  subst hq
  intro n u p e s m args below meth c H locs ls C hB hn hg hA hl hL
  exact lv_iload C.1.1 C.1.2.1 hd (lvl_at hL hv) (k n u p e s m args below meth c H locs ls C hB hn hg hA hl hL)
theorem s_lload_n {i : Fin 4} {z : Int64} (q : Nat) (hd : decode cc pc = .ok (.lload_n i, 1)) (hq : pc + 1 = q) (hv : L[(i : Nat)]? = some (some (.long z))) (k : V G Abs y cc nL rt d a q L (.long z :: st) post) : V G Abs y cc nL rt d a pc L (st) post := by
  subst hq
  intro n u p e s m args below meth c H locs ls C hB hn hg hA hl hL
  exact lv_lload_n C.1.1 C.1.2.1 hd rfl (lvl_at hL hv) (k n u p e s m args below meth c H locs ls C hB hn hg hA hl hL)
theorem s_lload {i : Nat} {z : Int64} (q : Nat) (hd : decode cc pc = .ok (.lload i, 2)) (hq : pc + 2 = q) (hv : L[i]? = some (some (.long z))) (k : V G Abs y cc nL rt d a q L (.long z :: st) post) : V G Abs y cc nL rt d a pc L (st) post := by
  subst hq
  intro n u p e s m args below meth c H locs ls C hB hn hg hA hl hL
  exact lv_lload C.1.1 C.1.2.1 hd (lvl_at hL hv) (k n u p e s m args below meth c H locs ls C hB hn hg hA hl hL)
theorem s_aload_n {i : Fin 4} {z : Nat} (q : Nat) (hd : decode cc pc = .ok (.aload_n i, 1)) (hq : pc + 1 = q) (hv : L[(i : Nat)]? = some (some (.ref z))) (k : V G Abs y cc nL rt d a q L (.ref z :: st) post) : V G Abs y cc nL rt d a pc L (st) post := by
  subst hq
  intro n u p e s m args below meth c H locs ls C hB hn hg hA hl hL
  exact lv_aload_n C.1.1 C.1.2.1 hd rfl (lvl_at hL hv) (k n u p e s m args below meth c H locs ls C hB hn hg hA hl hL)
theorem s_aload {i : Nat} {z : Nat} (q : Nat) (hd : decode cc pc = .ok (.aload i, 2)) (hq : pc + 2 = q) (hv : L[i]? = some (some (.ref z))) (k : V G Abs y cc nL rt d a q L (.ref z :: st) post) : V G Abs y cc nL rt d a pc L (st) post := by
  subst hq
  intro n u p e s m args below meth c H locs ls C hB hn hg hA hl hL
  exact lv_aload C.1.1 C.1.2.1 hd (lvl_at hL hv) (k n u p e s m args below meth c H locs ls C hB hn hg hA hl hL)
theorem s_aload_nN {i : Fin 4} (q : Nat) (hd : decode cc pc = .ok (.aload_n i, 1)) (hq : pc + 1 = q) (hv : L[(i : Nat)]? = some (some .null)) (k : V G Abs y cc nL rt d a q L (.null :: st) post) : V G Abs y cc nL rt d a pc L (st) post := by
  subst hq
  intro n u p e s m args below meth c H locs ls C hB hn hg hA hl hL
  exact lv_aload_nN C.1.1 C.1.2.1 hd rfl (lvl_at hL hv) (k n u p e s m args below meth c H locs ls C hB hn hg hA hl hL)
theorem s_null  (q : Nat) (hd : decode cc pc = .ok (.aconst_null, 1)) (hq : pc + 1 = q)  (k : V G Abs y cc nL rt d a q L (.null :: st) post) : V G Abs y cc nL rt d a pc L (st) post := by
  subst hq
  intro n u p e s m args below meth c H locs ls C hB hn hg hA hl hL
  exact lv_null C.1.1 C.1.2.1 hd (k n u p e s m args below meth c H locs ls C hB hn hg hA hl hL)
theorem s_istore_n {i : Fin 4} {z : Int} (q : Nat) (hd : decode cc pc = .ok (.istore_n i, 1)) (hq : pc + 1 = q) (hn1 : (i : Nat) < nL) (hc : cat1 L (i : Nat) = true) (k : V G Abs y cc nL rt d a q (L.set (i : Nat) (some (vi z))) (st) post) : V G Abs y cc nL rt d a pc L (vi z :: st) post := by
  subst hq
  intro n u p e s m args below meth c H locs ls C hB hn hg hA hl hL
  exact lv_istore_n C.1.1 C.1.2.1 hd rfl hL hn1 rfl fun ls2 hL2 => k n u p e s m args below meth c H locs ls2 C hB hn hg hA hl (lvl_has hc hL2)
theorem s_istore {i : Nat} {z : Int} (q : Nat) (hd : decode cc pc = .ok (.istore i, 2)) (hq : pc + 2 = q) (hn1 : i < nL) (hc : cat1 L i = true) (k : V G Abs y cc nL rt d a q (L.set i (some (vi z))) (st) post) : V G Abs y cc nL rt d a pc L (vi z :: st) post := by
  subst hq
  intro n u p e s m args below meth c H locs ls C hB hn hg hA hl hL
  exact lv_istore C.1.1 C.1.2.1 hd hL hn1 rfl fun ls2 hL2 => k n u p e s m args below meth c H locs ls2 C hB hn hg hA hl (lvl_has hc hL2)
theorem s_istore_nb {i : Fin 4} {z : Bool} (q : Nat) (hd : decode cc pc = .ok (.istore_n i, 1)) (hq : pc + 1 = q) (hn1 : (i : Nat) < nL) (hc : cat1 L (i : Nat) = true) (k : V G Abs y cc nL rt d a q (L.set (i : Nat) (some (vb z))) (st) post) : V G Abs y cc nL rt d a pc L (vb z :: st) post := by
  subst hq
  intro n u p e s m args below meth c H locs ls C hB hn hg hA hl hL
  exact lv_istore_n C.1.1 C.1.2.1 hd rfl hL hn1 rfl fun ls2 hL2 => k n u p e s m args below meth c H locs ls2 C hB hn hg hA hl (lvl_has hc hL2)
theorem s_istoreb {i : Nat} {z : Bool} (q : Nat) (hd : decode cc pc = .ok (.istore i, 2)) (hq : pc + 2 = q) (hn1 : i < nL) (hc : cat1 L i = true) (k : V G Abs y cc nL rt d a q (L.set i (some (vb z))) (st) post) : V G Abs y cc nL rt d a pc L (vb z :: st) post := by
  subst hq
  intro n u p e s m args below meth c H locs ls C hB hn hg hA hl hL
  exact lv_istore C.1.1 C.1.2.1 hd hL hn1 rfl fun ls2 hL2 => k n u p e s m args below meth c H locs ls2 C hB hn hg hA hl (lvl_has hc hL2)
theorem s_astore_n {i : Fin 4} {z : Nat} (q : Nat) (hd : decode cc pc = .ok (.astore_n i, 1)) (hq : pc + 1 = q) (hn1 : (i : Nat) < nL) (hc : cat1 L (i : Nat) = true) (k : V G Abs y cc nL rt d a q (L.set (i : Nat) (some (.ref z))) (st) post) : V G Abs y cc nL rt d a pc L (.ref z :: st) post := by
  subst hq
  intro n u p e s m args below meth c H locs ls C hB hn hg hA hl hL
  exact lv_astore_n C.1.1 C.1.2.1 hd rfl hL hn1 rfl fun ls2 hL2 => k n u p e s m args below meth c H locs ls2 C hB hn hg hA hl (lvl_has hc hL2)
theorem s_astore {i : Nat} {z : Nat} (q : Nat) (hd : decode cc pc = .ok (.astore i, 2)) (hq : pc + 2 = q) (hn1 : i < nL) (hc : cat1 L i = true) (k : V G Abs y cc nL rt d a q (L.set i (some (.ref z))) (st) post) : V G Abs y cc nL rt d a pc L (.ref z :: st) post := by
  subst hq
  intro n u p e s m args below meth c H locs ls C hB hn hg hA hl hL
  exact lv_astore C.1.1 C.1.2.1 hd hL hn1 rfl fun ls2 hL2 => k n u p e s m args below meth c H locs ls2 C hB hn hg hA hl (lvl_has hc hL2)
theorem s_astore_nN {i : Fin 4} (q : Nat) (hd : decode cc pc = .ok (.astore_n i, 1)) (hq : pc + 1 = q) (hn1 : (i : Nat) < nL) (hc : cat1 L (i : Nat) = true) (k : V G Abs y cc nL rt d a q (L.set (i : Nat) (some (.null))) (st) post) : V G Abs y cc nL rt d a pc L (.null :: st) post := by
  subst hq
  intro n u p e s m args below meth c H locs ls C hB hn hg hA hl hL
  exact lv_astore_nN C.1.1 C.1.2.1 hd rfl hL hn1 rfl fun ls2 hL2 => k n u p e s m args below meth c H locs ls2 C hB hn hg hA hl (lvl_has hc hL2)
theorem s_iinc {i : Nat} {w z : Int} (q : Nat) (hd : decode cc pc = .ok (.iinc i w, 3)) (hq : pc + 3 = q) (hv : L[i]? = some (some (vi z))) (hn1 : i < nL) (hc : cat1 L i = true) (k : V G Abs y cc nL rt d a q (L.set i (some (vi (z + w)))) (st) post) : V G Abs y cc nL rt d a pc L (st) post := by
  subst hq
  intro n u p e s m args below meth c H locs ls C hB hn hg hA hl hL
  obtain ⟨j, hj⟩ := List.getElem?_of_mem (mem_lvl.mpr ⟨i, (Nat.zero_add i).symm, hv⟩)
  exact lv_iinc C.1.1 C.1.2.1 hd hL hj (Int32.ofInt_add z w).symm hn1 rfl fun ls2 hL2 => k n u p e s m args below meth c H locs ls2 C hB hn hg hA hl (lvl_has hc hL2)
theorem s_iadd {x z : Int} (q : Nat) (hd : decode cc pc = .ok (.iadd, 1)) (hq : pc + 1 = q) (k : V G Abs y cc nL rt d a q L (vi (x + z) :: st) post) : V G Abs y cc nL rt d a pc L (vi z :: vi x :: st) post := by
  subst hq
  intro n u p e s m args below meth c H locs ls C hB hn hg hA hl hL
  exact lv_iadd C.1.1 C.1.2.1 hd (by rw [← Int32.ofInt_add]; exact k n u p e s m args below meth c H locs ls C hB hn hg hA hl hL)
theorem s_isub {x z : Int} (q : Nat) (hd : decode cc pc = .ok (.isub, 1)) (hq : pc + 1 = q) (k : V G Abs y cc nL rt d a q L (vi (x - z) :: st) post) : V G Abs y cc nL rt d a pc L (vi z :: vi x :: st) post := by
  subst hq
  intro n u p e s m args below meth c H locs ls C hB hn hg hA hl hL
  exact lv_isub C.1.1 C.1.2.1 hd (by rw [← Int32.ofInt_sub]; exact k n u p e s m args below meth c H locs ls C hB hn hg hA hl hL)
theorem s_imul {x z : Int} (q : Nat) (hd : decode cc pc = .ok (.imul, 1)) (hq : pc + 1 = q) (k : V G Abs y cc nL rt d a q L (vi (x * z) :: st) post) : V G Abs y cc nL rt d a pc L (vi z :: vi x :: st) post := by
  subst hq
  intro n u p e s m args below meth c H locs ls C hB hn hg hA hl hL
  exact lv_imul C.1.1 C.1.2.1 hd (by rw [← Int32.ofInt_mul]; exact k n u p e s m args below meth c H locs ls C hB hn hg hA hl hL)
theorem rI_div {x z : Int} (hx : 0 ≤ x ∧ x ≤ 2147483647) (hz : 0 < z ∧ z ≤ 2147483647) : Int32.ofInt x / Int32.ofInt z = Int32.ofInt (x / z) := by
  obtain ⟨a, rfl⟩ := Int.eq_ofNat_of_zero_le hx.1
  obtain ⟨b, rfl⟩ := Int.eq_ofNat_of_zero_le (Int.le_of_lt hz.1)
  have h := pk_div (a := a) (d := b) (by omega) (by omega) (by omega)
  rw [Int32.ofInt_eq_ofNat, Int32.ofInt_eq_ofNat, ← Int.natCast_ediv, Int32.ofInt_eq_ofNat]
  exact h
theorem s_idiv {x z : Int} (q : Nat) (hd : decode cc pc = .ok (.idiv, 1)) (hq : pc + 1 = q) (hx : 0 ≤ x ∧ x ≤ 2147483647 := by omega) (hz : 0 < z ∧ z ≤ 2147483647 := by omega) (k : V G Abs y cc nL rt d a q L (vi (x / z) :: st) post) : V G Abs y cc nL rt d a pc L (vi z :: vi x :: st) post := by
  subst hq
  intro n u p e s m args below meth c H locs ls C hB hn hg hA hl hL
  exact lv_idiv C.1.1 C.1.2.1 hd (fun h => by have h2 := (rI_eq (x := z) (y := 0) (by omega) (by omega)).mp h; omega) (by rw [rI_div hx hz]; exact k n u p e s m args below meth c H locs ls C hB hn hg hA hl hL)
theorem s_irem {x z : Int} (q : Nat) (hd : decode cc pc = .ok (.irem, 1)) (hq : pc + 1 = q) (hx : 0 ≤ x ∧ x ≤ 2147483647 := by omega) (hz : 0 < z ∧ z ≤ 2147483647 := by omega) (k : V G Abs y cc nL rt d a q L (vi (x % z) :: st) post) : V G Abs y cc nL rt d a pc L (vi z :: vi x :: st) post := by
  subst hq
  intro n u p e s m args below meth c H locs ls C hB hn hg hA hl hL
  refine lv_irem C.1.1 C.1.2.1 hd (fun h => by have h2 := (rI_eq (x := z) (y := 0) (by omega) (by omega)).mp h; omega) ?_
  rw [rI_div hx hz, ← Int32.ofInt_mul, ← Int32.ofInt_sub, show x - x / z * z = x % z by rw [Int.emod_def, Int.mul_comm]]
  exact k n u p e s m args below meth c H locs ls C hB hn hg hA hl hL
theorem s_iand {x z : Int} (q : Nat) (w : Int) (hd : decode cc pc = .ok (.iand, 1)) (hq : pc + 1 = q) (hw : Int32.ofInt x &&& Int32.ofInt z = Int32.ofInt w) (k : V G Abs y cc nL rt d a q L (vi w :: st) post) : V G Abs y cc nL rt d a pc L (vi z :: vi x :: st) post := by
  subst hq
  intro n u p e s m args below meth c H locs ls C hB hn hg hA hl hL
  exact lv_iand C.1.1 C.1.2.1 hd (by rw [hw]; exact k n u p e s m args below meth c H locs ls C hB hn hg hA hl hL)
theorem s_ior {x z : Int} (q : Nat) (w : Int) (hd : decode cc pc = .ok (.ior, 1)) (hq : pc + 1 = q) (hw : Int32.ofInt x ||| Int32.ofInt z = Int32.ofInt w) (k : V G Abs y cc nL rt d a q L (vi w :: st) post) : V G Abs y cc nL rt d a pc L (vi z :: vi x :: st) post := by
  subst hq
  intro n u p e s m args below meth c H locs ls C hB hn hg hA hl hL
  exact lv_ior C.1.1 C.1.2.1 hd (by rw [hw]; exact k n u p e s m args below meth c H locs ls C hB hn hg hA hl hL)
theorem s_ixor {x z : Int} (q : Nat) (w : Int) (hd : decode cc pc = .ok (.ixor, 1)) (hq : pc + 1 = q) (hw : Int32.ofInt x ^^^ Int32.ofInt z = Int32.ofInt w) (k : V G Abs y cc nL rt d a q L (vi w :: st) post) : V G Abs y cc nL rt d a pc L (vi z :: vi x :: st) post := by
  subst hq
  intro n u p e s m args below meth c H locs ls C hB hn hg hA hl hL
  exact lv_ixor C.1.1 C.1.2.1 hd (by rw [hw]; exact k n u p e s m args below meth c H locs ls C hB hn hg hA hl hL)
theorem s_ishl {x z : Int} (q : Nat) (w : Int) (hd : decode cc pc = .ok (.ishl, 1)) (hq : pc + 1 = q) (hw : Int32.ofInt x <<< (Int32.ofInt z &&& 31) = Int32.ofInt w) (k : V G Abs y cc nL rt d a q L (vi w :: st) post) : V G Abs y cc nL rt d a pc L (vi z :: vi x :: st) post := by
  subst hq
  intro n u p e s m args below meth c H locs ls C hB hn hg hA hl hL
  exact lv_ishl C.1.1 C.1.2.1 hd (by rw [hw]; exact k n u p e s m args below meth c H locs ls C hB hn hg hA hl hL)
theorem s_ishr {x z : Int} (q : Nat) (w : Int) (hd : decode cc pc = .ok (.ishr, 1)) (hq : pc + 1 = q) (hw : Int32.ofInt x >>> (Int32.ofInt z &&& 31) = Int32.ofInt w) (k : V G Abs y cc nL rt d a q L (vi w :: st) post) : V G Abs y cc nL rt d a pc L (vi z :: vi x :: st) post := by
  subst hq
  intro n u p e s m args below meth c H locs ls C hB hn hg hA hl hL
  exact lv_ishr C.1.1 C.1.2.1 hd (by rw [hw]; exact k n u p e s m args below meth c H locs ls C hB hn hg hA hl hL)
theorem s_iushr {x z : Int} (q : Nat) (w : Int) (hd : decode cc pc = .ok (.iushr, 1)) (hq : pc + 1 = q) (hw : ((Int32.ofInt x).toUInt32 >>> ((Int32.ofInt z).toUInt32 &&& Int32.toUInt32 31)).toInt32 = Int32.ofInt w) (k : V G Abs y cc nL rt d a q L (vi w :: st) post) : V G Abs y cc nL rt d a pc L (vi z :: vi x :: st) post := by
  subst hq
  intro n u p e s m args below meth c H locs ls C hB hn hg hA hl hL
  exact lv_iushr C.1.1 C.1.2.1 hd hw (k n u p e s m args below meth c H locs ls C hB hn hg hA hl hL)
theorem s_ladd {x z : Int64} (q : Nat) (hd : decode cc pc = .ok (.ladd, 1)) (hq : pc + 1 = q) (k : V G Abs y cc nL rt d a q L (.long (x + z) :: st) post) : V G Abs y cc nL rt d a pc L (.long z :: .long x :: st) post := by
  subst hq
  intro n u p e s m args below meth c H locs ls C hB hn hg hA hl hL
  exact lv_ladd C.1.1 C.1.2.1 hd (k n u p e s m args below meth c H locs ls C hB hn hg hA hl hL)
theorem s_lmul {x z : Int64} (q : Nat) (hd : decode cc pc = .ok (.lmul, 1)) (hq : pc + 1 = q) (k : V G Abs y cc nL rt d a q L (.long (x * z) :: st) post) : V G Abs y cc nL rt d a pc L (.long z :: .long x :: st) post := by
  subst hq
  intro n u p e s m args below meth c H locs ls C hB hn hg hA hl hL
  exact lv_lmul C.1.1 C.1.2.1 hd (k n u p e s m args below meth c H locs ls C hB hn hg hA hl hL)
theorem s_land {x z : Int64} (q : Nat) (hd : decode cc pc = .ok (.land, 1)) (hq : pc + 1 = q) (k : V G Abs y cc nL rt d a q L (.long (x &&& z) :: st) post) : V G Abs y cc nL rt d a pc L (.long z :: .long x :: st) post := by
  subst hq
  intro n u p e s m args below meth c H locs ls C hB hn hg hA hl hL
  exact lv_land C.1.1 C.1.2.1 hd (k n u p e s m args below meth c H locs ls C hB hn hg hA hl hL)
theorem s_lor {x z : Int64} (q : Nat) (hd : decode cc pc = .ok (.lor, 1)) (hq : pc + 1 = q) (k : V G Abs y cc nL rt d a q L (.long (x ||| z) :: st) post) : V G Abs y cc nL rt d a pc L (.long z :: .long x :: st) post := by
  subst hq
  intro n u p e s m args below meth c H locs ls C hB hn hg hA hl hL
  exact lv_lor C.1.1 C.1.2.1 hd (k n u p e s m args below meth c H locs ls C hB hn hg hA hl hL)
theorem s_lrem {x z : Int64} (q : Nat) (hd : decode cc pc = .ok (.lrem, 1)) (hq : pc + 1 = q) (hz : ¬ z = 0) (k : V G Abs y cc nL rt d a q L (.long (x - x / z * z) :: st) post) : V G Abs y cc nL rt d a pc L (.long z :: .long x :: st) post := by
  subst hq
  intro n u p e s m args below meth c H locs ls C hB hn hg hA hl hL
  exact lv_lrem C.1.1 C.1.2.1 hd hz (k n u p e s m args below meth c H locs ls C hB hn hg hA hl hL)
theorem s_lushr {x : Int64} {z : Int} (q : Nat) (w : Int64) (hd : decode cc pc = .ok (.lushr, 1)) (hq : pc + 1 = q) (hw : (x.toUInt64 >>> ((Int32.ofInt z).toInt64.toUInt64 &&& Int64.toUInt64 63)).toInt64 = w) (k : V G Abs y cc nL rt d a q L (.long w :: st) post) : V G Abs y cc nL rt d a pc L (vi z :: .long x :: st) post := by
  subst hq
  intro n u p e s m args below meth c H locs ls C hB hn hg hA hl hL
  exact lv_lushr C.1.1 C.1.2.1 hd hw (k n u p e s m args below meth c H locs ls C hB hn hg hA hl hL)
theorem s_i2l {z : Int} (q : Nat) (w : Int64) (hd : decode cc pc = .ok (.i2l, 1)) (hq : pc + 1 = q) (hw : (Int32.ofInt z).toInt64 = w) (k : V G Abs y cc nL rt d a q L (.long w :: st) post) : V G Abs y cc nL rt d a pc L (vi z :: st) post := by
  subst hq
  intro n u p e s m args below meth c H locs ls C hB hn hg hA hl hL
  exact lv_i2l C.1.1 C.1.2.1 hd hw (k n u p e s m args below meth c H locs ls C hB hn hg hA hl hL)
theorem s_l2i {x : Int64} (q : Nat) (z : Int) (hd : decode cc pc = .ok (.l2i, 1)) (hq : pc + 1 = q) (hw : x.toInt32 = Int32.ofInt z) (k : V G Abs y cc nL rt d a q L (vi z :: st) post) : V G Abs y cc nL rt d a pc L (.long x :: st) post := by
  subst hq
  intro n u p e s m args below meth c H locs ls C hB hn hg hA hl hL
  exact lv_l2i C.1.1 C.1.2.1 hd hw (k n u p e s m args below meth c H locs ls C hB hn hg hA hl hL)
theorem s_dup {v : Value} (hv : v.category = 1 := by rfl) (q : Nat) (hd : decode cc pc = .ok (.dup, 1)) (hq : pc + 1 = q)  (k : V G Abs y cc nL rt d a q L (v :: v :: st) post) : V G Abs y cc nL rt d a pc L (v :: st) post := by
  subst hq
  intro n u p e s m args below meth c H locs ls C hB hn hg hA hl hL
  exact lv_dup C.1.1 C.1.2.1 hd hv (k n u p e s m args below meth c H locs ls C hB hn hg hA hl hL)
theorem s_pop {v : Value} (hv : v.category = 1 := by rfl) (q : Nat) (hd : decode cc pc = .ok (.pop, 1)) (hq : pc + 1 = q)  (k : V G Abs y cc nL rt d a q L (st) post) : V G Abs y cc nL rt d a pc L (v :: st) post := by
  subst hq
  intro n u p e s m args below meth c H locs ls C hB hn hg hA hl hL
  exact lv_pop C.1.1 C.1.2.1 hd hv (k n u p e s m args below meth c H locs ls C hB hn hg hA hl hL)
theorem s_dup2 {v w : Value} (hv : v.category = 1 := by rfl) (hw : w.category = 1 := by rfl) (q : Nat) (hd : decode cc pc = .ok (.dup2, 1)) (hq : pc + 1 = q)  (k : V G Abs y cc nL rt d a q L (v :: w :: v :: w :: st) post) : V G Abs y cc nL rt d a pc L (v :: w :: st) post := by
  subst hq
  intro n u p e s m args below meth c H locs ls C hB hn hg hA hl hL
  exact lv_dup2_11 C.1.1 C.1.2.1 hd hv hw (k n u p e s m args below meth c H locs ls C hB hn hg hA hl hL)
theorem s_icmp_eq {x z : Int} {off : Int} (q r : Nat) (hd : decode cc pc = .ok (.if_icmp .eq off, 3)) (hr : (pc : Int) + off = (r : Int)) (hq : pc + 3 = q) (kt : x = z → V G Abs y cc nL rt d a r L (st) post) (kf : ¬ x = z → V G Abs y cc nL rt d a q L (st) post) (hx : -2147483648 ≤ x ∧ x ≤ 2147483647 := by omega) (hz : -2147483648 ≤ z ∧ z ≤ 2147483647 := by omega) : V G Abs y cc nL rt d a pc L (vi z :: vi x :: st) post := by
  subst hq
  intro n u p e s m args below meth c H locs ls C hB hn hg hA hl hL
  exact lv_icmp_eq C.1.1 C.1.2.1 hd hr (fun h => kt ((rI_eq (x := x) (y := z) hx hz).mp h) n u p e s m args below meth c H locs ls C hB hn hg hA hl hL) (fun h => kf (fun g => h ((rI_eq (x := x) (y := z) hx hz).mpr g)) n u p e s m args below meth c H locs ls C hB hn hg hA hl hL)
theorem s_if_eq {x : Int} {off : Int} (q r : Nat) (hd : decode cc pc = .ok (.ifCond .eq off, 3)) (hr : (pc : Int) + off = (r : Int)) (hq : pc + 3 = q) (kt : x = 0 → V G Abs y cc nL rt d a r L (st) post) (kf : ¬ x = 0 → V G Abs y cc nL rt d a q L (st) post) (hx : -2147483648 ≤ x ∧ x ≤ 2147483647 := by omega) : V G Abs y cc nL rt d a pc L (vi x :: st) post := by
  subst hq
  intro n u p e s m args below meth c H locs ls C hB hn hg hA hl hL
  exact lv_if_eq C.1.1 C.1.2.1 hd hr (fun h => kt ((rI_eq (x := x) (y := 0) hx (by decide)).mp h) n u p e s m args below meth c H locs ls C hB hn hg hA hl hL) (fun h => kf (fun g => h ((rI_eq (x := x) (y := 0) hx (by decide)).mpr g)) n u p e s m args below meth c H locs ls C hB hn hg hA hl hL)
theorem s_icmp_ne {x z : Int} {off : Int} (q r : Nat) (hd : decode cc pc = .ok (.if_icmp .ne off, 3)) (hr : (pc : Int) + off = (r : Int)) (hq : pc + 3 = q) (kt : ¬ x = z → V G Abs y cc nL rt d a r L (st) post) (kf : x = z → V G Abs y cc nL rt d a q L (st) post) (hx : -2147483648 ≤ x ∧ x ≤ 2147483647 := by omega) (hz : -2147483648 ≤ z ∧ z ≤ 2147483647 := by omega) : V G Abs y cc nL rt d a pc L (vi z :: vi x :: st) post := by
  subst hq
  intro n u p e s m args below meth c H locs ls C hB hn hg hA hl hL
  exact lv_icmp_ne C.1.1 C.1.2.1 hd hr (fun h => kt (fun g => h ((rI_eq (x := x) (y := z) hx hz).mpr g)) n u p e s m args below meth c H locs ls C hB hn hg hA hl hL) (fun h => kf ((rI_eq (x := x) (y := z) hx hz).mp h) n u p e s m args below meth c H locs ls C hB hn hg hA hl hL)
theorem s_if_ne {x : Int} {off : Int} (q r : Nat) (hd : decode cc pc = .ok (.ifCond .ne off, 3)) (hr : (pc : Int) + off = (r : Int)) (hq : pc + 3 = q) (kt : ¬ x = 0 → V G Abs y cc nL rt d a r L (st) post) (kf : x = 0 → V G Abs y cc nL rt d a q L (st) post) (hx : -2147483648 ≤ x ∧ x ≤ 2147483647 := by omega) : V G Abs y cc nL rt d a pc L (vi x :: st) post := by
  subst hq
  intro n u p e s m args below meth c H locs ls C hB hn hg hA hl hL
  exact lv_if_ne C.1.1 C.1.2.1 hd hr (fun h => kt (fun g => h ((rI_eq (x := x) (y := 0) hx (by decide)).mpr g)) n u p e s m args below meth c H locs ls C hB hn hg hA hl hL) (fun h => kf ((rI_eq (x := x) (y := 0) hx (by decide)).mp h) n u p e s m args below meth c H locs ls C hB hn hg hA hl hL)
theorem s_icmp_lt {x z : Int} {off : Int} (q r : Nat) (hd : decode cc pc = .ok (.if_icmp .lt off, 3)) (hr : (pc : Int) + off = (r : Int)) (hq : pc + 3 = q) (kt : x < z → V G Abs y cc nL rt d a r L (st) post) (kf : ¬ x < z → V G Abs y cc nL rt d a q L (st) post) (hx : -2147483648 ≤ x ∧ x ≤ 2147483647 := by omega) (hz : -2147483648 ≤ z ∧ z ≤ 2147483647 := by omega) : V G Abs y cc nL rt d a pc L (vi z :: vi x :: st) post := by
  subst hq
  intro n u p e s m args below meth c H locs ls C hB hn hg hA hl hL
  exact lv_icmp_lt C.1.1 C.1.2.1 hd hr (fun h => kt ((rI_lt (x := x) (y := z) hx hz).mp h) n u p e s m args below meth c H locs ls C hB hn hg hA hl hL) (fun h => kf (fun g => h ((rI_lt (x := x) (y := z) hx hz).mpr g)) n u p e s m args below meth c H locs ls C hB hn hg hA hl hL)
theorem s_if_lt {x : Int} {off : Int} (q r : Nat) (hd : decode cc pc = .ok (.ifCond .lt off, 3)) (hr : (pc : Int) + off = (r : Int)) (hq : pc + 3 = q) (kt : x < 0 → V G Abs y cc nL rt d a r L (st) post) (kf : ¬ x < 0 → V G Abs y cc nL rt d a q L (st) post) (hx : -2147483648 ≤ x ∧ x ≤ 2147483647 := by omega) : V G Abs y cc nL rt d a pc L (vi x :: st) post := by
  subst hq
  intro n u p e s m args below meth c H locs ls C hB hn hg hA hl hL
  exact lv_if_lt C.1.1 C.1.2.1 hd hr (fun h => kt ((rI_lt (x := x) (y := 0) hx (by decide)).mp h) n u p e s m args below meth c H locs ls C hB hn hg hA hl hL) (fun h => kf (fun g => h ((rI_lt (x := x) (y := 0) hx (by decide)).mpr g)) n u p e s m args below meth c H locs ls C hB hn hg hA hl hL)
theorem s_icmp_ge {x z : Int} {off : Int} (q r : Nat) (hd : decode cc pc = .ok (.if_icmp .ge off, 3)) (hr : (pc : Int) + off = (r : Int)) (hq : pc + 3 = q) (kt : z ≤ x → V G Abs y cc nL rt d a r L (st) post) (kf : ¬ z ≤ x → V G Abs y cc nL rt d a q L (st) post) (hx : -2147483648 ≤ x ∧ x ≤ 2147483647 := by omega) (hz : -2147483648 ≤ z ∧ z ≤ 2147483647 := by omega) : V G Abs y cc nL rt d a pc L (vi z :: vi x :: st) post := by
  subst hq
  intro n u p e s m args below meth c H locs ls C hB hn hg hA hl hL
  exact lv_icmp_ge C.1.1 C.1.2.1 hd hr (fun h => kt ((rI_le (x := z) (y := x) hz hx).mp h) n u p e s m args below meth c H locs ls C hB hn hg hA hl hL) (fun h => kf (fun g => h ((rI_le (x := z) (y := x) hz hx).mpr g)) n u p e s m args below meth c H locs ls C hB hn hg hA hl hL)
theorem s_if_ge {x : Int} {off : Int} (q r : Nat) (hd : decode cc pc = .ok (.ifCond .ge off, 3)) (hr : (pc : Int) + off = (r : Int)) (hq : pc + 3 = q) (kt : 0 ≤ x → V G Abs y cc nL rt d a r L (st) post) (kf : ¬ 0 ≤ x → V G Abs y cc nL rt d a q L (st) post) (hx : -2147483648 ≤ x ∧ x ≤ 2147483647 := by omega) : V G Abs y cc nL rt d a pc L (vi x :: st) post := by
  subst hq
  intro n u p e s m args below meth c H locs ls C hB hn hg hA hl hL
  exact lv_if_ge C.1.1 C.1.2.1 hd hr (fun h => kt ((rI_le (x := 0) (y := x) (by decide) hx).mp h) n u p e s m args below meth c H locs ls C hB hn hg hA hl hL) (fun h => kf (fun g => h ((rI_le (x := 0) (y := x) (by decide) hx).mpr g)) n u p e s m args below meth c H locs ls C hB hn hg hA hl hL)
theorem s_icmp_gt {x z : Int} {off : Int} (q r : Nat) (hd : decode cc pc = .ok (.if_icmp .gt off, 3)) (hr : (pc : Int) + off = (r : Int)) (hq : pc + 3 = q) (kt : z < x → V G Abs y cc nL rt d a r L (st) post) (kf : ¬ z < x → V G Abs y cc nL rt d a q L (st) post) (hx : -2147483648 ≤ x ∧ x ≤ 2147483647 := by omega) (hz : -2147483648 ≤ z ∧ z ≤ 2147483647 := by omega) : V G Abs y cc nL rt d a pc L (vi z :: vi x :: st) post := by
  subst hq
  intro n u p e s m args below meth c H locs ls C hB hn hg hA hl hL
  exact lv_icmp_gt C.1.1 C.1.2.1 hd hr (fun h => kt ((rI_lt (x := z) (y := x) hz hx).mp h) n u p e s m args below meth c H locs ls C hB hn hg hA hl hL) (fun h => kf (fun g => h ((rI_lt (x := z) (y := x) hz hx).mpr g)) n u p e s m args below meth c H locs ls C hB hn hg hA hl hL)
theorem s_if_gt {x : Int} {off : Int} (q r : Nat) (hd : decode cc pc = .ok (.ifCond .gt off, 3)) (hr : (pc : Int) + off = (r : Int)) (hq : pc + 3 = q) (kt : 0 < x → V G Abs y cc nL rt d a r L (st) post) (kf : ¬ 0 < x → V G Abs y cc nL rt d a q L (st) post) (hx : -2147483648 ≤ x ∧ x ≤ 2147483647 := by omega) : V G Abs y cc nL rt d a pc L (vi x :: st) post := by
  subst hq
  intro n u p e s m args below meth c H locs ls C hB hn hg hA hl hL
  exact lv_if_gt C.1.1 C.1.2.1 hd hr (fun h => kt ((rI_lt (x := 0) (y := x) (by decide) hx).mp h) n u p e s m args below meth c H locs ls C hB hn hg hA hl hL) (fun h => kf (fun g => h ((rI_lt (x := 0) (y := x) (by decide) hx).mpr g)) n u p e s m args below meth c H locs ls C hB hn hg hA hl hL)
theorem s_icmp_le {x z : Int} {off : Int} (q r : Nat) (hd : decode cc pc = .ok (.if_icmp .le off, 3)) (hr : (pc : Int) + off = (r : Int)) (hq : pc + 3 = q) (kt : x ≤ z → V G Abs y cc nL rt d a r L (st) post) (kf : ¬ x ≤ z → V G Abs y cc nL rt d a q L (st) post) (hx : -2147483648 ≤ x ∧ x ≤ 2147483647 := by omega) (hz : -2147483648 ≤ z ∧ z ≤ 2147483647 := by omega) : V G Abs y cc nL rt d a pc L (vi z :: vi x :: st) post := by
  subst hq
  intro n u p e s m args below meth c H locs ls C hB hn hg hA hl hL
  exact lv_icmp_le C.1.1 C.1.2.1 hd hr (fun h => kt ((rI_le (x := x) (y := z) hx hz).mp h) n u p e s m args below meth c H locs ls C hB hn hg hA hl hL) (fun h => kf (fun g => h ((rI_le (x := x) (y := z) hx hz).mpr g)) n u p e s m args below meth c H locs ls C hB hn hg hA hl hL)
theorem s_if_le {x : Int} {off : Int} (q r : Nat) (hd : decode cc pc = .ok (.ifCond .le off, 3)) (hr : (pc : Int) + off = (r : Int)) (hq : pc + 3 = q) (kt : x ≤ 0 → V G Abs y cc nL rt d a r L (st) post) (kf : ¬ x ≤ 0 → V G Abs y cc nL rt d a q L (st) post) (hx : -2147483648 ≤ x ∧ x ≤ 2147483647 := by omega) : V G Abs y cc nL rt d a pc L (vi x :: st) post := by
  subst hq
  intro n u p e s m args below meth c H locs ls C hB hn hg hA hl hL
  exact lv_if_le C.1.1 C.1.2.1 hd hr (fun h => kt ((rI_le (x := x) (y := 0) hx (by decide)).mp h) n u p e s m args below meth c H locs ls C hB hn hg hA hl hL) (fun h => kf (fun g => h ((rI_le (x := x) (y := 0) hx (by decide)).mpr g)) n u p e s m args below meth c H locs ls C hB hn hg hA hl hL)
theorem vb_0 {b : Bool} : (if b then (1 : Int32) else 0) = 0 ↔ b = false := by cases b <;> decide
theorem s_if_eqb {x : Bool} {off : Int} (q r : Nat) (hd : decode cc pc = .ok (.ifCond .eq off, 3)) (hr : (pc : Int) + off = (r : Int)) (hq : pc + 3 = q) (kt : x = false → V G Abs y cc nL rt d a r L (st) post) (kf : x = true → V G Abs y cc nL rt d a q L (st) post) : V G Abs y cc nL rt d a pc L (vb x :: st) post := by
  subst hq
  intro n u p e s m args below meth c H locs ls C hB hn hg hA hl hL
  exact lv_if_eq C.1.1 C.1.2.1 hd hr (fun h => kt (vb_0.mp h) n u p e s m args below meth c H locs ls C hB hn hg hA hl hL) (fun h => kf (by cases x; exact absurd (vb_0.mpr rfl) h; rfl) n u p e s m args below meth c H locs ls C hB hn hg hA hl hL)
theorem s_if_neb {x : Bool} {off : Int} (q r : Nat) (hd : decode cc pc = .ok (.ifCond .ne off, 3)) (hr : (pc : Int) + off = (r : Int)) (hq : pc + 3 = q) (kt : x = true → V G Abs y cc nL rt d a r L (st) post) (kf : x = false → V G Abs y cc nL rt d a q L (st) post) : V G Abs y cc nL rt d a pc L (vb x :: st) post := by
  subst hq
  intro n u p e s m args below meth c H locs ls C hB hn hg hA hl hL
  exact lv_if_ne C.1.1 C.1.2.1 hd hr (fun h => kt (by cases x; exact absurd (vb_0.mpr rfl) h; rfl) n u p e s m args below meth c H locs ls C hB hn hg hA hl hL) (fun h => kf (by cases x; rfl; exact absurd h (by decide)) n u p e s m args below meth c H locs ls C hB hn hg hA hl hL)
theorem s_goto {off : Int} (r : Nat) (hd : decode cc pc = .ok (.goto off, 3)) (hr : (pc : Int) + off = (r : Int)) (k : V G Abs y cc nL rt d a r L (st) post) : V G Abs y cc nL rt d a pc L (st) post := by
  intro n u p e s m args below meth c H locs ls C hB hn hg hA hl hL
  exact lv_goto C.1.1 C.1.2.1 hd hr (k n u p e s m args below meth c H locs ls C hB hn hg hA hl hL)
theorem s_ifnull {z : Nat} {off : Int} (q : Nat) (hd : decode cc pc = .ok (.ifnull off, 3)) (hq : pc + 3 = q) (k : V G Abs y cc nL rt d a q L (st) post) : V G Abs y cc nL rt d a pc L (.ref z :: st) post := by
  subst hq
  intro n u p e s m args below meth c H locs ls C hB hn hg hA hl hL
  exact lv_ifnull C.1.1 C.1.2.1 hd (k n u p e s m args below meth c H locs ls C hB hn hg hA hl hL)
theorem s_ifnullN {off : Int} (r : Nat) (hd : decode cc pc = .ok (.ifnull off, 3)) (hr : (pc : Int) + off = (r : Int)) (k : V G Abs y cc nL rt d a r L (st) post) : V G Abs y cc nL rt d a pc L (.null :: st) post := by
  intro n u p e s m args below meth c H locs ls C hB hn hg hA hl hL
  exact lv_ifnullN C.1.1 C.1.2.1 hd hr (k n u p e s m args below meth c H locs ls C hB hn hg hA hl hL)
theorem s_ifnonnull {z : Nat} {off : Int} (r : Nat) (hd : decode cc pc = .ok (.ifnonnull off, 3)) (hr : (pc : Int) + off = (r : Int)) (k : V G Abs y cc nL rt d a r L (st) post) : V G Abs y cc nL rt d a pc L (.ref z :: st) post := by
  intro n u p e s m args below meth c H locs ls C hB hn hg hA hl hL
  exact lv_ifnonnull C.1.1 C.1.2.1 hd hr (k n u p e s m args below meth c H locs ls C hB hn hg hA hl hL)
theorem s_ifnonnullN {off : Int} (q : Nat) (hd : decode cc pc = .ok (.ifnonnull off, 3)) (hq : pc + 3 = q) (k : V G Abs y cc nL rt d a q L (st) post) : V G Abs y cc nL rt d a pc L (.null :: st) post := by
  subst hq
  intro n u p e s m args below meth c H locs ls C hB hn hg hA hl hL
  exact lv_ifnonnullN C.1.1 C.1.2.1 hd (k n u p e s m args below meth c H locs ls C hB hn hg hA hl hL)
theorem s_table {x : Int} {dflt lo hi : Int} {offs : Array Int} {len : Nat} (hd : decode cc pc = .ok (.tableswitch dflt lo hi offs, len)) (ki : ∀ (i : Nat) (off : Int), x = lo + (i : Int) → offs[i]? = some off → ∀ r : Nat, (pc : Int) + off = (r : Int) → V G Abs y cc nL rt d a r L (st) post) (ko : x < lo ∨ hi < x → ∀ r : Nat, (pc : Int) + dflt = (r : Int) → V G Abs y cc nL rt d a r L (st) post) (hn2 : hi = lo + ((offs.size - 1 : Nat) : Int)) (hs : 0 < offs.size) (hpos : (offs.all fun o => decide (0 ≤ (pc : Int) + o)) = true ∧ 0 ≤ (pc : Int) + dflt) (hx : -2147483648 ≤ x ∧ x ≤ 2147483647 := by omega) : V G Abs y cc nL rt d a pc L (vi x :: st) post := by
  intro n u p e s m args below meth c H locs ls C hB hn hg hA hl hL
  by_cases h : x < lo ∨ hi < x
  · obtain ⟨r, hr⟩ := Int.eq_ofNat_of_zero_le hpos.2
    exact lv_tableOut C.1.1 C.1.2.1 hd (by rw [rI hx]; exact h) hr (ko h r hr n u p e s m args below meth c H locs ls C hB hn hg hA hl hL)
  · have h1 : ¬ x < lo := fun q => h (Or.inl q)
    have h2 : ¬ hi < x := fun q => h (Or.inr q)
    obtain ⟨i, hi⟩ := Int.eq_ofNat_of_zero_le (show 0 ≤ x - lo by omega)
    have hlt : i < offs.size := by omega
    have hp := (Array.all_eq_true.mp hpos.1) i hlt
    simp only [decide_eq_true_eq] at hp
    obtain ⟨r, hr⟩ := Int.eq_ofNat_of_zero_le hp
    exact lv_tableIn C.1.1 C.1.2.1 hd (by rw [rI hx]; exact h1) (by rw [rI hx]; exact h2) (off := offs[i]) (by rw [rI hx, hi]; simp) hr (ki i _ (by omega) (by simp) r hr n u p e s m args below meth c H locs ls C hB hn hg hA hl hL)
theorem s_ireturn {z : Int} (hrt : rt = some .int) (hd : decode cc pc = .ok (.ireturn, 1)) (h : post (some (vi z)) a) : V G Abs y cc nL rt d a pc L ([vi z]) post := by
  intro n u p e s m args below meth c H locs ls C hB hn hg hA hl hL
  refine W.widen (k := gN G - n) (n := gU G - u) (by have := hB.2.1; omega) (by have := hB.2.2.1; omega) ?_
  exact W.iret C.1.1 C.1.2.1 (by rw [← hrt]; exact C.2.1) (fun t ht _ => ⟨_, a, rfl, h, by rw [ht]; exact hB, by rw [ht]; exact hA⟩) hl hd (hlocks := C.2.2.1)
theorem s_zreturn {z : Bool} (hrt : rt = some .boolean) (hd : decode cc pc = .ok (.ireturn, 1)) (h : post (some (vb z)) a) : V G Abs y cc nL rt d a pc L ([vb z]) post := by
  intro n u p e s m args below meth c H locs ls C hB hn hg hA hl hL
  refine W.widen (k := gN G - n) (n := gU G - u) (by have := hB.2.1; omega) (by have := hB.2.2.1; omega) ?_
  exact W.zret (ty := .boolean) C.1.1 C.1.2.1 (by rw [← hrt]; exact C.2.1) (by cases z <;> rfl) (fun t ht _ => ⟨_, a, rfl, h, by rw [ht]; exact hB, by rw [ht]; exact hA⟩) hl hd (hlocks := C.2.2.1)
theorem s_return (hrt : rt = none) (hd : decode cc pc = .ok (.return_, 1)) (h : post (none) a) : V G Abs y cc nL rt d a pc L ([]) post := by
  intro n u p e s m args below meth c H locs ls C hB hn hg hA hl hL
  refine W.widen (k := gN G - n) (n := gU G - u) (by have := hB.2.1; omega) (by have := hB.2.2.1; omega) ?_
  exact W.vret C.1.1 C.1.2.1 (by rw [← hrt]; exact C.2.1) (fun t ht _ => ⟨_, a, rfl, h, by rw [ht]; exact hB, by rw [ht]; exact hA⟩) hl hd (hlocks := C.2.2.1)
theorem s_areturn {v : Value} {C1 : String} (hrt : rt = some (.object C1)) (hv : v = .null ∨ ∃ x, v = .ref x) (hd : decode cc pc = .ok (.areturn, 1)) (h : post (some v) a) : V G Abs y cc nL rt d a pc L ([v]) post := by
  intro n u p e s m args below meth c H locs ls C hB hn hg hA hl hL
  refine W.widen (k := gN G - n) (n := gU G - u) (by have := hB.2.1; omega) (by have := hB.2.2.1; omega) ?_
  exact W.aret C.1.1 C.1.2.1 (by rw [← hrt]; exact C.2.1) (Or.inl ⟨_, rfl⟩) hv (fun t ht _ => ⟨_, a, rfl, h, by rw [ht]; exact hB, by rw [ht]; exact hA⟩) hl hd (hlocks := C.2.2.1)
end VR
