/-! ===== Row's methods in the program's picture ===== -/
theorem Cm_liftD {α β : Type} {G : GT} {Abs2 : β → Heap → Prop} {y : MethodName} {cc : ByteArray} {nL : Nat} {rt : Option FieldType} {d : Nat} {av : List Value} {b : β} {post2 : Option Value → β → Prop} (h : ∀ H, Abs2 b H → ∃ (Abs : α → Heap → Prop) (a : α), Abs a H ∧ Cm G Abs y cc nL rt d av a (fun v a' => ∃ b', (∀ H, Abs a' H → Abs2 b' H) ∧ post2 v b')) : Cm G Abs2 y cc nL rt d av b post2 := by
  intro n u p e ha hf hc s m args below hfr happ hP hK
  obtain ⟨rfl, h1, h2, h3, h4, h5⟩ := hP
  obtain ⟨Abs, a, hA, hC⟩ := h _ h5
  obtain ⟨k, o, r1, r2, r3, ⟨⟨v, a', e1, ⟨b', q1, q2⟩, q3, q4⟩, L, r5⟩⟩ := hC n u p e ha hf hc s m _ below hfr happ ⟨rfl, h1, h2, h3, h4, hA⟩ hK
  exact ⟨k, o, r1, r2, r3, ⟨v, b', e1, q2, q3, q1 _ q4⟩, L, r5⟩
section ROWP
variable {G : GT} {F : HS} {d : Nat} {T : Nat → Nat} {N : Nat → Nat → Int} {R : Nat → List Int} {P : Nat → Nat → Option Nat} {S : Nat → Int64} {cn un : Nat} {post : Option Value → PT → Prop}
/-- another Row, read only -/
def othR (G : GT) (T : Nat → Nat) (R : Nat → List Int) (σ0 : HS) (z : Nat) : Prop := ∃ (cz capz : Nat) (g : Nat → Int32), σ0 z = some (.inr (5, [vi ((T z - 100 : Nat) : Int), .ref cz, vi ((R z).length : Int)])) ∧ σ0 cz = some (.inl (gK G 0, capz, .inl g)) ∧ RW (T z - 100) (R z) capz g
theorem row_lift {y : MethodName} {cc : ByteArray} {nL : Nat} {rt : Option FieldType} {av : List Value} {x lim : Nat} (hT : T x = 100 + lim) (h : ∀ (σ0 : HS) (c cap : Nat) (f : Nat → Int32) (nn uu : Nat), RW lim (R x) cap f → RM G lim cap nn uu → (∀ z, z ≠ x → 100 ≤ T z → othR G T R σ0 z) → Cm G (AW G x lim σ0) y cc nL rt d av (c, cap, f, ((R x).length : Int), nn, uu) (fun v a' => ∃ (c' cap' : Nat) (f' : Nat → Int32) (nn' uu' : Nat) (l' : List Int), a' = (c', cap', f', (l'.length : Int), nn', uu') ∧ RW lim l' cap' f' ∧ stp lim c cap nn uu c' cap' nn' uu' ∧ post v (T, N, up R x l', P, S, cn, un))) : Cm G (AP G F) y cc nL rt d av (T, N, R, P, S, cn, un) post := by
  refine Cm_liftD (α := WT) fun H hA => ?_
  obtain ⟨⟨σ, nn, uu⟩, h1, cp, cq, h2⟩ := hA
  have h2 : RelQ G F σ nn uu cp cq T N R P S cn un := h2
  have lt := RelQ.lt (F := F) h1
  obtain ⟨k1, k2, k3, k4, k5, k6, k7, k8, k9⟩ := h2
  have h100 : 100 ≤ T x := by omega
  have hlim : T x - 100 = lim := by omega
  obtain ⟨f, g1, g2, g3, g4, g5⟩ := k3 x h100
  rw [hlim] at g2
  have hxc : σ x = some (.inr (5, [vi (lim : Int), .ref (cp x), vi ((R x).length : Int)])) := by
    have := k1 x _ (cP_R h100)
    rw [hlim] at this
    exact this
  have hT0 : ∀ z, nn ≤ z → T z = 0 := fun z hz => by
    by_cases e : T z = 0
    · exact e
    · obtain ⟨e9, he9⟩ := cP_some (G := G) N R P S cp e
      have := lt z _ (k1 z _ he9)
      omega
  have hxn : x < nn := lt x _ hxc
  have hcn : cp x < nn := lt _ _ g1
  have hne : x ≠ cp x := fun e => by rw [← e] at g3; omega
  have hCx : potC T cq x = potF lim (cq x) := by unfold potC; rw [if_pos h100, hlim]
  have hUx : potU T cq x = potF lim (cq x) * lim := by unfold potU; rw [if_pos h100, hlim]
  have pge : ∀ (q : Nat → Nat) (n : Nat), x < n → q x ≤ psum q n := by
    intro q n
    induction n with
    | zero => intro h; omega
    | succ n ih =>
      intro hx
      show q x ≤ psum q n + q n
      by_cases e : x = n
      · subst e; omega
      · have := ih (by omega); omega
  have hC1 := pge (potC T cq) nn hxn
  have hU1 := pge (potU T cq) nn hxn
  let σ0 : HS := fun z => if z = x ∨ z = cp x then none else σ z
  have hσ0 : ∀ z, z ≠ x → z ≠ cp x → σ0 z = σ z := fun z a b => if_neg (fun q => q.elim a b)
  refine ⟨AW G x lim σ0, (cp x, cq x, f, ((R x).length : Int), nn, uu), ⟨(σ, nn, uu), h1, rfl, hxc, g1, hne, fun z e hz => ?_⟩, ?_⟩
  · by_cases ez : z = x ∨ z = cp x
    · have : σ0 z = none := if_pos ez
      rw [this] at hz
      cases hz
    · rw [hσ0 z (fun q => ez (Or.inl q)) (fun q => ez (Or.inr q))] at hz
      exact ⟨hz, fun q => ez (Or.inl q), fun q => ez (Or.inr q)⟩
  · refine Cm_post (h σ0 (cp x) (cq x) f nn uu g2 ⟨by omega, by omega⟩ (fun z hz hz2 => ?_)) ?_
    · obtain ⟨g, q1, q2, q3, q4⟩ := k3 z hz2
      refine ⟨cp z, cq z, g, ?_, ?_, q2⟩
      · rw [hσ0 z hz (fun e => by rw [← e] at g3; omega)]
        exact k1 z _ (cP_R hz2)
      · rw [hσ0 (cp z) (fun e => by rw [e] at q3; omega) (fun e => hz (k4 z x hz2 h100 e))]
        exact q1
    · rintro v a' ⟨c', cap', f', nn', uu', l', rfl, r1, ⟨s1, s2, s3, s4⟩, r2⟩
      refine ⟨(T, N, up R x l', P, S, cn, un), fun H2 hH2 => ?_, r2⟩
      obtain ⟨⟨σ', n', u'⟩, a1, a2, a3, a4, a5, a6⟩ := hH2
      cases a2
      have hc'T : T c' = 0 := by
        rcases s3 with e | e
        · rw [e]; exact g3
        · exact hT0 c' e
      have hc'F : F c' = none := by
        rcases s3 with e | e
        · rw [e]; exact g4
        · cases hF : F c' with
          | none => rfl
          | some e9 => have := lt c' e9 (k2 c' e9 hF).1; omega
      have hpC : nn' + psum (potC T (up cq x cap')) nn' ≤ nn + psum (potC T cq) nn := by
        have e1 := psum_0 (g := potC T (up cq x cap')) (n := nn) (fun i hi => by unfold potC; rw [hT0 i hi]; rfl) nn' s4
        have e2 := psum_at (f := potC T cq) (g := potC T (up cq x cap')) (x := x) (fun j hj => by unfold potC; rw [up_n hj]) nn hxn
        have e3 : potC T (up cq x cap') x = potF lim cap' := by unfold potC; rw [if_pos h100, hlim, up_s]
        rw [e1]
        omega
      have hpU : uu' + psum (potU T (up cq x cap')) nn' ≤ uu + psum (potU T cq) nn := by
        have e1 := psum_0 (g := potU T (up cq x cap')) (n := nn) (fun i hi => by unfold potU; rw [hT0 i hi]; rfl) nn' s4
        have e2 := psum_at (f := potU T cq) (g := potU T (up cq x cap')) (x := x) (fun j hj => by unfold potU; rw [up_n hj]) nn hxn
        have e3 : potU T (up cq x cap') x = potF lim cap' * lim := by unfold potU; rw [if_pos h100, hlim, up_s]
        rw [e1]
        omega
      refine ⟨(σ', nn', uu'), a1, up cp x c', up cq x cap', fun z e hz => ?_, fun z e hz => ?_, fun z hz => ?_, fun z w hz hw he => ?_, k5, Nat.le_trans hpC k6, Nat.le_trans hpU k7, k8, k9⟩
      · by_cases ez : z = x
        · subst ez
          have hz : cP G T N (up R z l') P S (up cp z c') z = some e := hz
          rw [cP_R h100, up_s, up_s, hlim] at hz
          rw [← hz]
          exact a3
        · have hz : cP G T N (up R x l') P S (up cp x c') z = some e := hz
          rw [cP_congr (N := N) (R := R) (P := P) (S := S) (cp := cp) rfl (up_n ez) rfl rfl (up_n ez)] at hz
          refine (a6 z e ?_).1
          rw [hσ0 z ez (fun q => by rw [← q] at g3; exact cP_T hz g3)]
          exact k1 z e hz
      · obtain ⟨q1, q2⟩ := k2 z e hz
        refine ⟨(a6 z e ?_).1, q2⟩
        rw [hσ0 z (fun q => by rw [q] at q2; omega) (fun q => by rw [q, g4] at hz; cases hz)]
        exact q1
      · have hz : 100 ≤ T z := hz
        by_cases ez : z = x
        · subst ez
          refine ⟨f', ?_, ?_, ?_, ?_⟩
          · show σ' (up cp z c' z) = some (.inl (gK G 0, up cq z cap' z, .inl f'))
            rw [up_s, up_s]
            exact a4
          · show RW (T z - 100) (up R z l' z) (up cq z cap' z) f'
            rw [up_s, up_s, hlim]
            exact r1
          · show T (up cp z c' z) = 0
            rw [up_s]
            exact hc'T
          · show F (up cp z c' z) = none ∧ z + 1 < nn'
            rw [up_s]
            exact ⟨hc'F, by omega⟩
        · obtain ⟨g, q1, q2, q3, q4⟩ := k3 z hz
          refine ⟨g, ?_, ?_, ?_, ?_⟩
          · show σ' (up cp x c' z) = some (.inl (gK G 0, up cq x cap' z, .inl g))
            rw [up_n ez, up_n ez]
            refine (a6 (cp z) _ ?_).1
            rw [hσ0 (cp z) (fun e => by rw [e] at q3; omega) (fun e => ez (k4 z x hz h100 e))]
            exact q1
          · show RW (T z - 100) (up R x l' z) (up cq x cap' z) g
            rw [up_n ez, up_n ez]
            exact q2
          · show T (up cp x c' z) = 0
            rw [up_n ez]
            exact q3
          · show F (up cp x c' z) = none ∧ z + 1 < nn'
            rw [up_n ez]
            exact ⟨q4.1, by have := q4.2; omega⟩
      · have hz : 100 ≤ T z := hz
        have hw : 100 ≤ T w := hw
        have old : ∀ t, 100 ≤ T t → t ≠ x → c' ≠ cp t := fun t ht htx e => by
          rcases s3 with q | q
          · exact htx (k4 t x ht h100 (by rw [← e, q]))
          · obtain ⟨g, q1, -⟩ := k3 t ht
            have := lt _ _ q1
            omega
        by_cases ez : z = x
        · by_cases ew : w = x
          · rw [ez, ew]
          · rw [ez, up_s, up_n ew] at he
            exact absurd he (old w hw ew)
        · by_cases ew : w = x
          · rw [ew, up_s, up_n ez] at he
            exact absurd he.symm (old z hz ez)
          · rw [up_n ez, up_n ew] at he
            exact k4 z w hz hw he
theorem r_has {x lim : Nat} {i : Int} (hT : T x = 100 + lim) (hi : rg i) (hp : post (some (vb (decide (0 ≤ i ∧ i < (R x).length)))) (T, N, R, P, S, cn, un)) : Cm G (AP G F) yX5_has cX5_has 2 (some .boolean) d [.ref x, vi i] (T, N, R, P, S, cn, un) post :=
  row_lift hT fun σ0 c cap f nn uu hR hM ho => w_has hi hR ⟨c, cap, f, nn, uu, R x, rfl, hR, stp.rf, by rw [up_self rfl]; exact hp⟩
theorem r_at {x lim : Nat} {i : Int} (hT : T x = 100 + lim) (hi : rg i) (hp : rg (atF (R x) i) → post (some (vi (atF (R x) i))) (T, N, R, P, S, cn, un)) : Cm G (AP G F) yX5_at cX5_at 2 (some .int) (d + 1) [.ref x, vi i] (T, N, R, P, S, cn, un) post :=
  row_lift hT fun σ0 c cap f nn uu hR hM ho => w_at hi hR (fun hr => ⟨c, cap, f, nn, uu, R x, rfl, hR, stp.rf, by rw [up_self rfl]; exact hp hr⟩)
theorem r_set {x lim : Nat} {i v : Int} (hT : T x = 100 + lim) (hi : rg i) (hv : rg v) (hp : post none (T, N, up R x (if 0 ≤ i ∧ i < (R x).length then (R x).set i.toNat v else R x), P, S, cn, un)) : Cm G (AP G F) yX5_set cX5_set 3 none (d + 1) [.ref x, vi i, vi v] (T, N, R, P, S, cn, un) post :=
  row_lift hT fun σ0 c cap f nn uu hR hM ho => w_set hi hv hR (fun f' l' e hR' => ⟨c, cap, f', nn, uu, l', rfl, hR', stp.rf, by rw [e]; exact hp⟩)
theorem r_clear {x lim : Nat} (hT : T x = 100 + lim) (hp : post none (T, N, up R x [], P, S, cn, un)) : Cm G (AP G F) yX5_clear cX5_clear 1 none d [.ref x] (T, N, R, P, S, cn, un) post :=
  row_lift hT fun σ0 c cap f nn uu hR hM ho => w_clear hR (fun hR' => ⟨c, cap, f, nn, uu, [], rfl, hR', stp.rf, hp⟩)
theorem r_add {x lim : Nat} {v : Int} (hT : T x = 100 + lim) (hv : rg v) (hp : post none (T, N, up R x (if (R x).length < lim then R x ++ [v] else R x), P, S, cn, un)) : Cm G (AP G F) yX5_add cX5_add 2 none (d + 2) [.ref x, vi v] (T, N, R, P, S, cn, un) post :=
  row_lift hT fun σ0 c cap f nn uu hR hM ho => w_add hv hR hM (fun c' cap' f' nn' uu' l' e hR' hs => ⟨c', cap', f', nn', uu', l', rfl, hR', hs, by rw [e]; exact hp⟩)
theorem r_addAll {x lim z : Nat} {i k : Int} (hT : T x = 100 + lim) (hz : 100 ≤ T z) (hne : z ≠ x) (hi : rg i) (hk : rg k) (hp : post none (T, N, up R x (if 0 ≤ i ∧ 0 < k ∧ k ≤ (R z).length - i ∧ k ≤ lim - (R x).length then R x ++ ((R z).drop i.toNat).take k.toNat else R x), P, S, cn, un)) : Cm G (AP G F) yX5_addAll cX5_addAll 4 none (d + 2) [.ref x, .ref z, vi i, vi k] (T, N, R, P, S, cn, un) post :=
  row_lift hT fun σ0 c cap f nn uu hR hM ho => by
    obtain ⟨cz, capz, g, h1, h2, h3⟩ := ho z hne hz
    exact w_addAll hi hk h1 h2 h3 hR hM (fun c' cap' f' nn' uu' l' e hR' hs => ⟨c', cap', f', nn', uu', l', rfl, hR', hs, by rw [e]; exact hp⟩)
theorem r_insertAt {x lim : Nat} {i v : Int} (hT : T x = 100 + lim) (hi : rg i) (hv : rg v) (hp : post none (T, N, up R x (if 0 ≤ i ∧ i ≤ (R x).length ∧ (R x).length < lim then insL (R x) i.toNat v else R x), P, S, cn, un)) : Cm G (AP G F) yX5_insertAt cX5_insertAt 3 none (d + 2) [.ref x, vi i, vi v] (T, N, R, P, S, cn, un) post :=
  row_lift hT fun σ0 c cap f nn uu hR hM ho => w_insertAt hi hv hR hM (fun c' cap' f' nn' uu' l' e hR' hs => ⟨c', cap', f', nn', uu', l', rfl, hR', hs, by rw [e]; exact hp⟩)
theorem r_removeAt {x lim : Nat} {i : Int} (hT : T x = 100 + lim) (hi : rg i) (hp : post none (T, N, up R x (if 0 ≤ i ∧ i < (R x).length then losL (R x) i.toNat else R x), P, S, cn, un)) : Cm G (AP G F) yX5_removeAt cX5_removeAt 2 none (d + 1) [.ref x, vi i] (T, N, R, P, S, cn, un) post :=
  row_lift hT fun σ0 c cap f nn uu hR hM ho => w_removeAt hi hR (fun f' l' e hR' => ⟨c, cap, f', nn, uu, l', rfl, hR', stp.rf, by rw [e]; exact hp⟩)
theorem r_dropFirst {x lim : Nat} {i : Int} (hT : T x = 100 + lim) (hi : rg i) (hp : post none (T, N, up R x (if 0 < i ∧ i ≤ (R x).length then (R x).drop i.toNat else R x), P, S, cn, un)) : Cm G (AP G F) yX5_dropFirst cX5_dropFirst 2 none (d + 1) [.ref x, vi i] (T, N, R, P, S, cn, un) post :=
  row_lift hT fun σ0 c cap f nn uu hR hM ho => w_dropFirst hi hR (fun f' l' e hR' => ⟨c, cap, f', nn, uu, l', rfl, hR', stp.rf, by rw [e]; exact hp⟩)
theorem r_copyFrom {x lim z : Nat} (hT : T x = 100 + lim) (hz : 100 ≤ T z) (hne : z ≠ x) (hp : post none (T, N, up R x ((R z).take lim), P, S, cn, un)) : Cm G (AP G F) yX5_copyFrom cX5_copyFrom 3 none (d + 2) [.ref x, .ref z] (T, N, R, P, S, cn, un) post :=
  row_lift hT fun σ0 c cap f nn uu hR hM ho => by
    obtain ⟨cz, capz, g, h1, h2, h3⟩ := ho z hne hz
    exact w_copyFrom h1 h2 h3 hR hM (fun c' cap' f' nn' uu' l' e hR' hs => ⟨c', cap', f', nn', uu', l', rfl, hR', hs, by rw [e]; exact hp⟩)
theorem r_greatest {x lim : Nat} (hT : T x = 100 + lim) (hb : byt (R x)) (hp : post (some (vi (greF (R x)))) (T, N, R, P, S, cn, un)) : Cm G (AP G F) yX5_greatest cX5_greatest 3 (some .int) (d + 1) [.ref x] (T, N, R, P, S, cn, un) post :=
  row_lift hT fun σ0 c cap f nn uu hR hM ho => w_greatest hR hb ⟨c, cap, f, nn, uu, R x, rfl, hR, stp.rf, by rw [up_self rfl]; exact hp⟩
/-- a Row's size read and written from outside -/
theorem g_X5_size {y : MethodName} {cc : ByteArray} {nL : Nat} {rt : Option FieldType} {pc : Nat} {L : List (Option Value)} {st : List Value} {x i : Nat} (q : Nat) (hd : decode cc pc = .ok (.getfield i, 3)) (hq : pc + 3 = q) (hw : Cond.fieldLink y.cls i (TX5 2).1 (TX5 2).2.1 (TX5 2).2.2.1 ∈ gTB) (kk : V G (AP G F) y cc nL rt d (T, N, R, P, S, cn, un) q L (vi ((R x).length : Int) :: st) post) (hT : 100 ≤ T x := by omega) : V G (AP G F) y cc nL rt d (T, N, R, P, S, cn, un) pc L (.ref x :: st) post := by
  refine V_lift (Abs := A1 G) fun H hA => ?_
  obtain ⟨⟨σ, n1, u1⟩, h1, cp, cq, h2⟩ := hA
  have h2 : RelQ G F σ n1 u1 cp cq T N R P S cn un := h2
  refine ⟨(σ, n1, u1), h1, ?_⟩
  exact h_get (Cn := RX5) (T := TX5) (N := 3) q 2 hd hq (h2.1 x _ (cP_R hT)) rfl lay_X5 hw (by decide) rfl (V_drop AP_iff ⟨cp, cq, h2⟩ kk)
theorem p_X5_size {y : MethodName} {cc : ByteArray} {nL : Nat} {rt : Option FieldType} {pc : Nat} {L : List (Option Value)} {st : List Value} {x i : Nat} {z : Int} (q : Nat) (hd : decode cc pc = .ok (.putfield i, 3)) (hq : pc + 3 = q) (hw : Cond.fieldLink y.cls i (TX5 2).1 (TX5 2).2.1 (TX5 2).2.2.1 ∈ gTB) (kk : V G (AP G F) y cc nL rt d (T, N, up R x ((R x).take z.toNat), P, S, cn, un) q L st post) (hz : 0 ≤ z ∧ z ≤ (R x).length := by omega) (hT : 100 ≤ T x := by omega) : V G (AP G F) y cc nL rt d (T, N, R, P, S, cn, un) pc L (vi z :: .ref x :: st) post := by
  refine V_lift (Abs := A1 G) fun H hA => ?_
  obtain ⟨⟨σ, n1, u1⟩, h1, cp, cq, h2⟩ := hA
  have h2 : RelQ G F σ n1 u1 cp cq T N R P S cn un := h2
  refine ⟨(σ, n1, u1), h1, ?_⟩
  refine h_put (Cn := RX5) (T := TX5) (N := 3) tyX5 q 2 hd hq (h2.1 x _ (cP_R hT)) rfl lay_X5 tyX5_ok nmX5 hw (by decide) (Or.inl rfl) rfl rfl (by show 2 < 3; decide) ?_
  refine V_drop AP_iff (b := (T, N, up R x ((R x).take z.toNat), P, S, cn, un)) ⟨cp, cq, ?_⟩ kk
  obtain ⟨k1, k2, k3, k4, k5, k6⟩ := h2
  have hlen : ((R x).take z.toNat).length = z.toNat := List.length_take_of_le (by omega)
  refine ⟨fun w e hw => ?_, fun w e hw => ?_, fun w hw => ?_, k4, k5, k6⟩
  · have hw : cP G T N (up R x ((R x).take z.toNat)) P S cp w = some e := hw
    by_cases ew : w = x
    · subst ew
      rw [cP_R hT, up_s, hlen, show ((z.toNat : Nat) : Int) = z by omega] at hw
      show up σ w _ w = _
      rw [up_s, ← hw]
      rfl
    · rw [cP_congr (N := N) (R := R) (P := P) (S := S) (cp := cp) rfl (up_n ew) rfl rfl rfl] at hw
      show up σ x _ w = _
      rw [up_n ew]
      exact k1 w e hw
  · obtain ⟨q1, q2⟩ := k2 w e hw
    refine ⟨?_, q2⟩
    show up σ x _ w = _
    rw [up_n (fun ew => by rw [ew] at q2; omega)]
    exact q1
  · obtain ⟨f, q1, q2, q3, q4⟩ := k3 w hw
    refine ⟨f, ?_, ?_, q3, q4⟩
    · show up σ x _ (cp w) = _
      rw [up_n (fun ew => by rw [ew] at q3; omega)]
      exact q1
    · show RW (T w - 100) (up R x ((R x).take z.toNat) w) (cq w) f
      by_cases ew : w = x
      · subst ew
        rw [up_s]
        obtain ⟨t1, t2, t3, t4, t5⟩ := q2
        refine ⟨by rw [hlen]; omega, t2, t3, fun k hk => ?_, fun v hv => t5 v (List.mem_of_mem_take hv)⟩
        rw [hlen] at hk
        rw [t4 k (by omega), List.getD_eq_getElem?_getD, List.getD_eq_getElem?_getD, List.getElem?_take, if_pos hk]
      · rw [up_n ew]
        exact q2
end ROWP
