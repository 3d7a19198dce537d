/-! ===== longs as numbers (vl z) ===== -/
def vl (z : Int) : Value := .long (Int64.ofInt z)
theorem rL {z : Int} (h : -2147483648 ≤ z ∧ z ≤ 2147483647) : (Int64.ofInt z).toInt = z := Int64.toInt_ofInt_of_le (by omega) (by omega)
theorem rI_L {z : Int} (h : -2147483648 ≤ z ∧ z ≤ 2147483647) : (Int32.ofInt z).toInt64 = Int64.ofInt z := Int64.toInt_inj.mp (by rw [Int32.toInt_toInt64, rI h, rL h])
section LONGS
variable {α : Type} {G : GT} {Abs : α → Heap → Prop} {y : MethodName} {cc : ByteArray} {nL : Nat} {rt : Option FieldType} {d : Nat} {a : α} {pc : Nat} {L : List (Option Value)} {st : List Value} {post : Option Value → α → Prop}
theorem s_i2lz {z : Int} (q : Nat) (hd : decode cc pc = .ok (.i2l, 1)) (hq : pc + 1 = q) (k : V G Abs y cc nL rt d a q L (vl z :: st) post) (hz : -2147483648 ≤ z ∧ z ≤ 2147483647 := by omega) : V G Abs y cc nL rt d a pc L (vi z :: st) post := s_i2l q _ hd hq (rI_L hz) k
theorem s_lconstz {b : Fin 2} (q : Nat) (hd : decode cc pc = .ok (.lconst b, 1)) (hq : pc + 1 = q) (k : V G Abs y cc nL rt d a q L (vl ((b : Nat) : Int) :: st) post) : V G Abs y cc nL rt d a pc L st post := s_lconst _ q hd hq (by rw [Int64.ofInt_eq_ofNat]) k
theorem s_ldc2z {i : Nat} (q : Nat) (z : Int) {v : Int64} (hd : decode cc pc = .ok (.ldc2_w i, 3)) (hq : pc + 3 = q) (hw : Cond.constantLong y.cls i v ∈ gTB) (hv : Int64.ofInt z = v) (k : V G Abs y cc nL rt d a q L (vl z :: st) post) : V G Abs y cc nL rt d a pc L st post := s_ldc2 q hd hq (hv ▸ hw) k
theorem s_lcmp_lt {x z : Int} {off : Int} (q r : Nat) (hd : decode cc pc = .ok (.lcmp, 1)) (hd2 : decode cc (pc + 1) = .ok (.ifCond .lt off, 3)) (hr : ((pc + 1 : Nat) : Int) + off = (r : Int)) (hq : pc + 4 = q) (kt : x < z → V G Abs y cc nL rt d a r L st post) (kf : ¬ x < z → V G Abs y cc nL rt d a q L st post) (hx : -2147483648 ≤ x ∧ x ≤ 2147483647 := by omega) (hz : -2147483648 ≤ z ∧ z ≤ 2147483647 := by omega) : V G Abs y cc nL rt d a pc L (vl z :: vl x :: st) post := by
  subst hq
  intro n u p e s m args below meth c H locs ls C hB hn hg hA hl hL
  have e9 : Int64.ofInt x < Int64.ofInt z ↔ x < z := by rw [Int64.lt_iff_toInt_lt, rL hx, rL hz]
  exact W.lcmp C.1.1 C.1.2.1 hd (lv_if_lt C.1.1 C.1.2.1 hd2 hr (fun h => kt (e9.mp ((lg_cmp_lt _ _).mp h)) n u p e s m args below meth c H locs ls C hB hn hg hA hl hL) (fun h => kf (fun g => h ((lg_cmp_lt _ _).mpr (e9.mpr g))) n u p e s m args below meth c H locs ls C hB hn hg hA hl hL))
theorem s_lcmp_gt {x z : Int} {off : Int} (q r : Nat) (hd : decode cc pc = .ok (.lcmp, 1)) (hd2 : decode cc (pc + 1) = .ok (.ifCond .gt off, 3)) (hr : ((pc + 1 : Nat) : Int) + off = (r : Int)) (hq : pc + 4 = q) (kt : z < x → V G Abs y cc nL rt d a r L st post) (kf : ¬ z < x → V G Abs y cc nL rt d a q L st post) (hx : -2147483648 ≤ x ∧ x ≤ 2147483647 := by omega) (hz : -2147483648 ≤ z ∧ z ≤ 2147483647 := by omega) : V G Abs y cc nL rt d a pc L (vl z :: vl x :: st) post := by
  subst hq
  intro n u p e s m args below meth c H locs ls C hB hn hg hA hl hL
  have e9 : Int64.ofInt z < Int64.ofInt x ↔ z < x := by rw [Int64.lt_iff_toInt_lt, rL hx, rL hz]
  exact W.lcmp C.1.1 C.1.2.1 hd (lv_if_gt C.1.1 C.1.2.1 hd2 hr (fun h => kt (e9.mp ((lg_cmp_gt _ _).mp h)) n u p e s m args below meth c H locs ls C hB hn hg hA hl hL) (fun h => kf (fun g => h ((lg_cmp_gt _ _).mpr (e9.mpr g))) n u p e s m args below meth c H locs ls C hB hn hg hA hl hL))
theorem s_zreturn1 (hrt : rt = some .boolean) (hd : decode cc pc = .ok (.ireturn, 1)) (h : post (some (vb true)) a) : V G Abs y cc nL rt d a pc L [vi 1] post := s_zreturn (z := true) hrt hd h
theorem s_zreturn0 (hrt : rt = some .boolean) (hd : decode cc pc = .ok (.ireturn, 1)) (h : post (some (vb false)) a) : V G Abs y cc nL rt d a pc L [vi 0] post := s_zreturn (z := false) hrt hd h
/-- a local is forgotten -/
theorem V_kill (i : Nat) (k : V G Abs y cc nL rt d a pc (L.set i none) st post) : V G Abs y cc nL rt d a pc L st post := by
  intro n u p e s m args below meth c H locs ls C hB hn hg hA hl hL
  refine k n u p e s m args below meth c H locs ls C hB hn hg hA hl ⟨hL.1, hL.2.1, ?_⟩
  rintro ⟨j, w⟩ hq
  obtain ⟨t, h1, h2⟩ := mem_lvl.mp hq
  refine hL.2.2 (j, w) (mem_lvl.mpr ⟨t, h1, ?_⟩)
  rw [List.getElem?_set] at h2
  split at h2
  · split at h2
    · simp at h2
    · cases h2
  · exact h2
end LONGS
