section HEAP2
variable {G : GT} {y : MethodName} {cc : ByteArray} {nL : Nat} {rt : Option FieldType} {d : Nat} {σ : HS} {nn uu : Nat} {pc : Nat} {L : List (Option Value)} {st : List Value} {post : Option Value → HS × Nat × Nat → Prop}
/-- a row of references made: Port[] (t0 = 2), State[] (t0 = 3) -/
theorem h_anew {N i t0 : Nat} {z : Int} {ci : ClassId} {Cn : String} (q : Nat) (hd : decode cc pc = .ok (.anewarray i, 3)) (hq : pc + 3 = q) (hw : Cond.classLink y.cls i Cn ∈ gTB) (hao : ∀ U : State, gX G U → va_AO Cn U) (ht : (gT G)[t0]? = some (ci, .object Cn)) (hz : z = N) (hz2 : N ≤ 134217728) (hN : nn + 1 ≤ gN G) (hU : uu + N ≤ gU G)
    (kk : V G (A1 G) y cc nL rt d (up σ nn (some (.inl (ci, N, .inr (.inr (.inr (.inr (fun _ => none))))))), nn + 1, uu + N) q L (.ref nn :: st) post) : V G (A1 G) y cc nL rt d (σ, nn, uu) pc L (vi z :: st) post := by
  subst hq
  subst hz
  intro n u p e s m args below meth c H locs ls C hB hn hg hA hl hL
  have hts := C.1.2.2.2.2
  have a1 : H.size = nn := hA.1
  have a2 : gs H (gB G) = uu := hA.2.1
  have hz3 : (Int32.ofInt (N : Int)).toNatClampNeg = N := by rw [Int32.ofInt_eq_ofNat]; exact nI_clamp (by omega)
  have hz0 : ¬ Int32.ofInt (N : Int) < 0 := by rw [Int32.ofInt_eq_ofNat]; exact nI_pos (by omega)
  refine W.anew C.1.1 C.1.2.1 C.1.2.2.2.1 (hts _ hw) (va_AO.use (hao s C.2.2.2.2.1.2)) rfl hd rfl hz0 (by rw [hz3]; omega) (by show _ ≤ gN G - n; omega) (by rw [hz3]; show _ ≤ gU G - u; omega) fun cA kA comp h1 h2 h3 h4 => ?_
  obtain ⟨kA', comp', g1, g2, g3, g4⟩ := (C.2.2.2.2.1.1.2 t0 _ ht).2
  have hcA : cA = ci := Option.some.inj (h1.symm.trans g4)
  subst hcA
  rw [hz3]
  generalize hxe : ({ cls := cA, slots := Array.replicate N .null, vm := .none } : Cell) = x
  have hsz : x.slots.size = N := by rw [← hxe]; simp
  have hat : va_at (gD G) vwCl (H.size, .inl (cA, N, .inr (.inr (.inr (.inr (fun _ => none)))))) (H.push x) := by
    show (H.push x)[H.size]? = some (vp_cell _ _)
    rw [vp_cell_q, show (H.push x)[H.size]? = some x by simp, ← hxe]
    exact congrArg some (arrV_new _ _ _)
  obtain ⟨hB', hgs⟩ := grow_facts (x := x) hB (by omega) (by omega)
  have hA' := A1_push hA hB hat
  rw [hsz] at hA' hgs
  refine W.cs (cells' := (H.push x).size - n) (slots' := gs (H.push x) n) (by rw [Array.size_push]; omega) (by rw [hgs n hn]) ?_
  have k1 := kk n u p e s m args below meth c (H.push x) locs ls C hB' (by rw [Array.size_push]; omega) (by rw [hgs _ hB.1, hgs n hn, hg]; omega) hA' hl hL
  rw [← a1] at k1
  exact k1
theorem h_aast {x v N ck t0 : Nat} {f : Nat → Option Nat} {z : Int} {ci : ClassId} {r : vw_C} {vs : List Value} (q : Nat) (hd : decode cc pc = .ok (.aastore, 1)) (hq : pc + 1 = q) (hσ : σ x = some (.inl (ci, N, .inr (.inr (.inr (.inr f)))))) (ht : (gT G)[t0]? = some (ci, .object r.1)) (hσ2 : σ v = some (.inr (ck, vs))) (hc : vwCl[ck]? = some r) (hz : 0 ≤ z ∧ z < N) (hN : N < 2147483648)
    (kk : V G (A1 G) y cc nL rt d (up σ x (some (.inl (ci, N, .inr (.inr (.inr (.inr (up f z.toNat (some v)))))))), nn, uu) q L st post) : V G (A1 G) y cc nL rt d (σ, nn, uu) pc L (.ref v :: vi z :: .ref x :: st) post := by
  subst hq
  intro n u p e s m args below meth c H locs ls C hB hn hg hA hl hL
  obtain ⟨h1, h2⟩ := ix_nat hz hN
  have hlt : (Int32.ofInt z).toNatClampNeg < N := Nat.not_le.mp fun q => h1 (Or.inr q)
  have h0 : ¬ Int32.ofInt z < 0 := fun q => h1 (Or.inl q)
  obtain ⟨hx, hcx⟩ := hA.2.2 x _ hσ
  have hcx : H[x]? = some (vp_cell ci (N, .inr (.inr (.inr (.inr f))))) := hcx
  obtain ⟨-, r', hr', cellV, g1, g2, g3, -⟩ := hA.2.2 v _ hσ2
  have hcls := (C.2.2.2.2.1.1.1 ck r hc).2
  obtain ⟨kA, comp, k1, k2, k3, -⟩ := (C.2.2.2.2.1.1.2 t0 _ ht).2
  have hcomp : comp = (gD G).1 ck := Option.some.inj (k3.symm.trans hcls.1)
  subst hcomp
  obtain ⟨kC, hkC, -⟩ := hcls.2
  refine W.aast C.1.1 C.1.2.1 hcx (fun q h => by cases h) (fun h => by cases h) k1 k2 rfl hkC ⟨h0, by show _ < (arrV _ _ _).slots.size; rw [arrV_size]; exact hlt⟩ g1 (fun q h => by rw [g3] at h; cases h) (by rw [g2]; exact hkC) (by rw [g2]; exact va_assign hcls) rfl rfl hd fun H' e1 e2 e3 => ?_
  have hsz : (H'[x]?).map (·.slots.size) = (H[x]?).map (·.slots.size) := by rw [e1, hcx]; simp [set_size]
  obtain ⟨hB', hgs⟩ := gBase_write hB hx e2 e3 hsz
  have hat : va_at (gD G) vwCl (x, .inl (ci, N, .inr (.inr (.inr (.inr (up f z.toNat (some v))))))) H' := by
    show H'[x]? = some (vp_cell _ _)
    rw [e1, h2, vp_cell_q, vp_cell_q, arrV_store]
    congr 2
    funext j
    by_cases hj : j = z.toNat
    · subst hj; simp [updV, up, va_rf]
    · simp [updV, up, hj]
  refine W.cs (cells' := H'.size - n) (slots' := gs H' n) (by rw [e2]) (by rw [hgs]) ?_
  exact kk n u p e s m args below meth c H' _ ls C hB' (by rw [e2]; exact hn) (by rw [hgs, hgs]; exact hg) (A1_write hA hx e2 e3 hgs hat) (fun z hz => (List.mem_append.mp hz).elim (hl z) (fun h => by rw [List.mem_singleton.mp h]; exact hx)) hL
/-- System.arraycopy of numbers; source and goal may be one -/
theorem h_copy {xs xd Ns Nd i : Nat} {f g : Nat → Int32} {sp dp k : Int} (q : Nat) (hd : decode cc pc = .ok (.invokestatic i, 3)) (hq : pc + 3 = q) (hw : Cond.methodLink y.cls i arraycopyName ∈ gTB) (hs : σ xs = some (.inl (gK G 0, Ns, .inl f))) (ht : σ xd = some (.inl (gK G 0, Nd, .inl g))) (h1 : 0 ≤ sp) (h2 : 0 ≤ dp) (h3 : 0 ≤ k) (h4 : sp + k ≤ Ns) (h5 : dp + k ≤ Nd) (hNs : Ns < 2147483648) (hNd : Nd < 2147483648) (hrest : (st.map fun v => v.category).sum ≤ 8)
    (kk : V G (A1 G) y cc nL rt (d + 1) (up σ xd (some (.inl (gK G 0, Nd, .inl (va_cpy f g sp.toNat dp.toNat k.toNat)))), nn, uu) q L st post) : V G (A1 G) y cc nL rt (d + 1) (σ, nn, uu) pc L (vi k :: vi dp :: .ref xd :: vi sp :: .ref xs :: st) post := by
  subst hq
  intro n u p e s m args below meth c H locs ls C hB hn hg hA hl hL
  have hts := C.1.2.2.2.2
  have cv : ∀ z : Int, 0 ≤ z → z ≤ 2147483647 → ¬ Int32.ofInt z < 0 ∧ (Int32.ofInt z).toNatClampNeg = z.toNat ∧ (Int32.ofInt z).toInt = z := fun z a b => by
    obtain ⟨j, rfl⟩ := Int.eq_ofNat_of_zero_le a
    refine ⟨?_, ?_, rI ⟨by omega, b⟩⟩
    · rw [Int32.ofInt_eq_ofNat]; exact nI_pos (by omega)
    · rw [Int32.ofInt_eq_ofNat]; exact nI_clamp (by omega)
  obtain ⟨s1, s2, s3⟩ := cv sp h1 (by omega)
  obtain ⟨d1, d2, d3⟩ := cv dp h2 (by omega)
  obtain ⟨k1, k2, k3⟩ := cv k h3 (by omega)
  have hc0 : H[xs]? = some (vp_cell (gK G 0) (Ns, .inl f)) := (hA.2.2 xs _ hs).2
  obtain ⟨hx, hc1⟩ := hA.2.2 xd _ ht
  have hc1 : H[xd]? = some (vp_cell (gK G 0) (Nd, .inl g)) := hc1
  have hlx : xd < H.size := (Array.getElem?_eq_some_iff.mp hc1).1
  have e7 : nativeFrameWords "java/lang/System" "arraycopy" 5 = 7 := by decide +kernel
  intro T hT X
  obtain ⟨-, k0, hk0, cm0, hkk0⟩ := (C.2.2.2.2.1.1.2 0 _ rfl).1 Ns (fun j => .int (f j))
  obtain ⟨vm', X', step⟩ := X.arraycopy C.1.1 C.1.2.2.2.1 (hts _ hw) (hts _ nt_arraycopy) (hts _ st_copy) (hts _ it_J10) (src := xs) (dst := xd) (cs := vp_cell (gK G 0) (Ns, .inl f)) (cd := vp_cell (gK G 0) (Nd, .inl g)) (srcPos := Int32.ofInt sp) (destPos := Int32.ofInt dp) (n := Int32.ofInt k) (by rw [hT]; exact hc0) (by rw [hT]; exact hc1)
    (fun _ h => by cases h) (fun _ h => by cases h) (fun h => by cases h) (fun h => by cases h) hk0 hk0 hkk0 hkk0 (by simp [refKind]) s1 d1 k1
    (by rw [s3, k3]; show ¬ _ > ((arrV (gK G 0) Ns (fun j => .int (f j))).slots.size : Int); rw [arrV_size]; omega)
    (by rw [d3, k3]; show ¬ _ > ((arrV (gK G 0) Nd (fun j => .int (g j))).slots.size : Int); rw [arrV_size]; omega)
    (fun vm₁ _ j hj => by
      have e9 : (vp_cell (gK G 0) (Ns, .inl f)).slots.getD ((Int32.ofInt sp).toNatClampNeg + j) .null = .int (f ((Int32.ofInt sp).toNatClampNeg + j)) := by
        show (arrV (gK G 0) Ns (fun j => .int (f j))).slots.getD _ _ = _
        rw [Array.getD_eq_getD_getElem?, arrV_read _ _ (by omega)]
        rfl
      refine ⟨?_, ?_⟩
      · rw [e9]; rfl
      · rw [e9]; exact trivial)
    (g := F0 m pc ls (vi k :: vi dp :: .ref xd :: vi sp :: .ref xs :: st)) rfl (by rw [C.1.2.2.1]; exact hL.1) (rest := st) rfl (by rw [C.1.2.1]; exact hd) (by show 1 ≤ d + 1; omega) (by show 2 * 0 + _ + (nativeFrameWords "java/lang/System" "arraycopy" 5 + 11) ≤ 36 * (d + 1); rw [e7]; omega)
  have e1 : copied (vp_cell (gK G 0) (Ns, .inl f)) (vp_cell (gK G 0) (Nd, .inl g)) (Int32.ofInt sp) (Int32.ofInt dp) (Int32.ofInt k) = vp_cell (gK G 0) (Nd, .inl (va_cpy f g sp.toNat dp.toNat k.toNat)) := by
    rw [← s2, ← d2, ← k2]
    exact va_copied (fun z => .int z) (gK G 0) (gK G 0) f g (by omega)
  rw [e1] at X' step
  generalize hce : vp_cell (gK G 0) (Nd, .inl (va_cpy f g sp.toNat dp.toNat k.toNat)) = ce at X' step
  have hcz : ce.slots.size = Nd := by rw [← hce]; exact arrV_size _ _ _
  have e2 : (H.setIfInBounds xd ce).size = H.size := by simp
  have e3 : ∀ q, q ≠ xd → (H.setIfInBounds xd ce)[q]? = H[q]? := fun q hq => by simp [Array.getElem?_setIfInBounds, Ne.symm hq]
  have e4 : (H.setIfInBounds xd ce)[xd]? = some ce := by simp [hlx]
  have hsz : ((H.setIfInBounds xd ce)[xd]?).map (·.slots.size) = (H[xd]?).map (·.slots.size) := by
    rw [e4, hc1]
    show some ce.slots.size = some (arrV (gK G 0) Nd (fun j => .int (g j))).slots.size
    rw [hcz, arrV_size]
  obtain ⟨hB', hgs⟩ := gBase_write hB hx e2 e3 hsz
  have hat : va_at (gD G) vwCl (xd, .inl (gK G 0, Nd, .inl (va_cpy f g sp.toNat dp.toNat k.toNat))) (H.setIfInBounds xd ce) := by
    show (H.setIfInBounds xd ce)[xd]? = some (vp_cell _ _)
    rw [e4, hce]
  have hheap : ((T.setVm vm').setCell xd ce).heap = H.setIfInBounds xd ce := by rw [← hT]; rfl
  have k11 : ∀ (locs2 : List Loc) (T2 : State), T2.heap = H.setIfInBounds xd ce → Stand p (gL G) e (gR G (d + 1) n u) s m args below meth c T2 locs2 (H.size - n) (gs H n) → (∀ q ∈ locs2, gB G ≤ q.base) → ∃ t, Steps p.tables e below (T2.setTop (F0 m (pc + 3) ls st)) t ∧ MQ below (gQ G (A1 G) post) args s (gN G - n) (gU G - u) (fun q => gB G ≤ q) t := by
    intro locs2 T2 hT2 X2 hl2
    have k9 := kk n u p e s m args below meth c (H.setIfInBounds xd ce) locs2 ls C hB' (by rw [e2]; exact hn) (by rw [hgs, hgs]; exact hg) (A1_write hA hx e2 e3 hgs hat) hl2 hL
    rw [hgs, e2] at k9
    exact k9 T2 hT2 X2
  obtain ⟨t, a1, b1⟩ := k11 _ _ hheap X' (fun z hz => (List.mem_append.mp hz).elim (hl z) (fun h => by
    obtain ⟨w, -, hw2⟩ := List.mem_map.mp h
    rw [← hw2]
    exact hx))
  exact ⟨t, step t a1, b1⟩
end HEAP2
