section HEAP2
variable {G : GT} {y : MethodName} {cc : ByteArray} {nL : Nat} {rt : Option FieldType} {d : Nat} {σ : HS} {nn uu : Nat} {pc : Nat} {L : List (Option Value)} {st : List Value} {post : Option Value → HS × Nat × Nat → Prop}
/-- a row of references made: Port[] (t0 = 2), State[] (t0 = 3) -/
theorem h_anew {N i t0 : Nat} {z : Int} {ci : ClassId} {Cn : String} (q : Nat) (hd : decode cc pc = .ok (.anewarray i, 3)) (hq : pc + 3 = q) (hw : Cond.classLink y.cls i Cn ∈ gTB) (hao : ∀ U : State, gX G U → va_AO Cn U) (ht : (gT G)[t0]? = some (ci, .object Cn)) (hz : z = N) (hz2 : N ≤ 134217728) (hN : nn + 1 ≤ gN G) (hU : uu + N ≤ gU G)
    (kk : V G (A1 G) y cc nL rt d (up σ nn (some (.inl (ci, N, .inr (.inr (.inr (.inr (fun _ => none))))))), nn + 1, uu + N) q L (.ref nn :: st) post) : V G (A1 G) y cc nL rt d (σ, nn, uu) pc L (vi z :: st) post := by
  subst hq
  subst hz
  intro n u p e s m args below meth c H locs ls C hB hn hg hA hl hL
  have hts := C.1.2.2.2.2
  have a1 : H.size = nn := hA.1
  have a2 : gs H (gB G) ≤ uu := hA.2.1
  have hz3 : (Int32.ofInt (N : Int)).toNatClampNeg = N := by rw [Int32.ofInt_eq_ofNat]; exact nI_clamp (by omega)
  have hz0 : ¬ Int32.ofInt (N : Int) < 0 := by rw [Int32.ofInt_eq_ofNat]; exact nI_pos (by omega)
  refine W.anew C.1.1 C.1.2.1 C.1.2.2.2.1 (hts _ hw) (va_AO.use (hao s C.2.2.2.2.1.2)) rfl hd rfl hz0 (by rw [hz3]; omega) (by show _ ≤ gN G - n; omega) (by rw [hz3]; show _ ≤ gU G - u; omega) fun cA kA comp h1 h2 h3 h4 => ?_
  obtain ⟨kA', comp', g1, g2, g3, g4⟩ := (C.2.2.2.2.1.1.2 t0 _ ht).2
  have hcA : cA = ci := Option.some.inj (h1.symm.trans g4)
  subst hcA
  rw [hz3]
  generalize hxe : ({ cls := cA, slots := Array.replicate N .null, vm := .none } : Cell) = x
  have hsz : x.slots.size = N := by rw [← hxe]; simp
  have hat : va_at (gD G) vwCl (H.size, .inl (cA, N, .inr (.inr (.inr (.inr (fun _ => none)))))) (H.push x) := by
    show (H.push x)[H.size]? = some (vp_cell _ _)
    rw [vp_cell_q, show (H.push x)[H.size]? = some x by simp, ← hxe]
    exact congrArg some (arrV_new _ _ _)
  obtain ⟨hB', hgs⟩ := grow_facts (x := x) hB (by omega) (by omega)
  have hA' := A1_push hA hB hat
  rw [hsz] at hA' hgs
  refine W.cs (cells' := (H.push x).size - n) (slots' := gs (H.push x) n) (by rw [Array.size_push]; omega) (by rw [hgs n hn]) ?_
  have k1 := kk n u p e s m args below meth c (H.push x) locs ls C hB' (by rw [Array.size_push]; omega) (by rw [hgs _ hB.1, hgs n hn, hg]; omega) hA' hl hL
  rw [← a1] at k1
  exact k1
theorem h_aast {x v N ck t0 : Nat} {f : Nat → Option Nat} {z : Int} {ci : ClassId} {r : vw_C} {vs : List Value} (q : Nat) (hd : decode cc pc = .ok (.aastore, 1)) (hq : pc + 1 = q) (hσ : σ x = some (.inl (ci, N, .inr (.inr (.inr (.inr f)))))) (ht : (gT G)[t0]? = some (ci, .object r.1)) (hσ2 : σ v = some (.inr (ck, vs))) (hc : vwCl[ck]? = some r) (hz : 0 ≤ z ∧ z < N) (hN : N < 2147483648)
    (kk : V G (A1 G) y cc nL rt d (up σ x (some (.inl (ci, N, .inr (.inr (.inr (.inr (up f z.toNat (some v)))))))), nn, uu) q L st post) : V G (A1 G) y cc nL rt d (σ, nn, uu) pc L (.ref v :: vi z :: .ref x :: st) post := by
  subst hq
  intro n u p e s m args below meth c H locs ls C hB hn hg hA hl hL
  obtain ⟨i0, hi0⟩ := tl_at hσ (hA.lt (a := (σ, nn, uu)) hσ)
  obtain ⟨j0, hj0⟩ := tl_at hσ2 (hA.lt (a := (σ, nn, uu)) hσ2)
  obtain ⟨w1, w2, w3, go⟩ := A1_rule (e := e) (below := below) C hB hn hg hA hl hL
  obtain ⟨h1, h2⟩ := ix_nat hz hN
  rw [← h2] at kk
  exact va_astq C.1.1 C.1.2.1 C.2.2.2.2.1.1 w1 w2 w3 i0 t0 j0 ck hi0 ht hj0 hc h1 hd (go i0 x _ _ hi0 kk)
theorem cp_nat {z : Int} (h : 0 ≤ z) (h' : z < 2147483648) : ¬ Int32.ofInt z < 0 ∧ (Int32.ofInt z).toNatClampNeg = z.toNat := by
  obtain ⟨j, rfl⟩ := Int.eq_ofNat_of_zero_le h
  rw [Int32.ofInt_eq_ofNat]
  exact ⟨nI_pos (by omega), nI_clamp (by omega)⟩
/-- System.arraycopy of numbers; source and goal may be one -/
theorem h_copy {xs xd Ns Nd i : Nat} {f g : Nat → Int32} {sp dp k : Int} (q : Nat) (hd : decode cc pc = .ok (.invokestatic i, 3)) (hq : pc + 3 = q) (hw : Cond.methodLink y.cls i arraycopyName ∈ gTB) (hs : σ xs = some (.inl (gK G 0, Ns, .inl f))) (ht : σ xd = some (.inl (gK G 0, Nd, .inl g))) (h1 : 0 ≤ sp) (h2 : 0 ≤ dp) (h3 : 0 ≤ k) (h4 : sp + k ≤ Ns) (h5 : dp + k ≤ Nd) (hNs : Ns < 2147483648) (hNd : Nd < 2147483648) (hrest : (st.map fun v => v.category).sum ≤ 8)
    (kk : V G (A1 G) y cc nL rt (d + 1) (up σ xd (some (.inl (gK G 0, Nd, .inl (va_cpy f g sp.toNat dp.toNat k.toNat)))), nn, uu) q L st post) : V G (A1 G) y cc nL rt (d + 1) (σ, nn, uu) pc L (vi k :: vi dp :: .ref xd :: vi sp :: .ref xs :: st) post := by
  subst hq
  intro n u p e s m args below meth c H locs ls C hB hn hg hA hl hL
  obtain ⟨i0, hi0⟩ := tl_at hs (hA.lt (a := (σ, nn, uu)) hs)
  obtain ⟨j0, hj0⟩ := tl_at ht (hA.lt (a := (σ, nn, uu)) ht)
  obtain ⟨w1, w2, w3, go⟩ := A1_rule (e := e) (below := below) C hB hn hg hA hl hL
  have hts := C.1.2.2.2.2
  obtain ⟨a1, b1⟩ := cp_nat h1 (by omega)
  obtain ⟨a2, b2⟩ := cp_nat h2 (by omega)
  obtain ⟨a3, b3⟩ := cp_nat h3 (by omega)
  have e7 : nativeFrameWords "java/lang/System" "arraycopy" 5 = 7 := by decide +kernel
  rw [← b1, ← b2, ← b3] at kk
  exact va_copyi C.1.1 C.1.2.1 (C.1.2.2.1.trans hL.1.symm) C.1.2.2.2.1 (hts _ hw) (hts _ nt_arraycopy) (hts _ st_copy) (hts _ it_J10) C.2.2.2.2.1.1 w1 w2 w3 i0 j0 0 0 hi0 hj0 rfl rfl rfl a1 a2 a3 (by omega) (by omega) (fun _ _ => rfl) (Nat.succ_le_succ (Nat.zero_le d)) (by show _ ≤ 36 * (d + 1); rw [e7]; omega) hd (go j0 xd _ _ hj0 kk)
end HEAP2
