/-! ===== a new State; Past ===== -/
section PAST
variable {G : GT} {F : HS} {y : MethodName} {cc : ByteArray} {nL : Nat} {rt : Option FieldType} {d : Nat} {T : Nat → Nat} {N : Nat → Nat → Int} {R : Nat → List Int} {P : Nat → Nat → Option Nat} {S : Nat → Int64} {cn un : Nat} {pc : Nat} {L : List (Option Value)} {st : List Value} {post : Option Value → PT → Prop}
theorem q_newState {i j : Nat} (q : Nat) (hd1 : decode cc pc = .ok (.new i, 3)) (hd2 : decode cc (pc + 3) = .ok (.dup, 1)) (hd3 : decode cc (pc + 4) = .ok (.invokespecial j, 3)) (hq : pc + 7 = q) (hw : Cond.classLink y.cls i RX7 ∈ gTB) (hw2 : Cond.methodLink y.cls j yX7_init ∈ gTB) (hrest : ((Value.ref 0 :: st).map fun v => v.category).sum ≤ 8) (hN : cn + 200 ≤ gN G) (hU : un + 37329 ≤ gU G) (kk : ∀ (z : Nat) (T' : Nat → Nat) (N' : Nat → Nat → Int) (R' : Nat → List Int) (P' : Nat → Nat → Option Nat) (S' : Nat → Int64), StS T' z → (∀ tl, StR N' R' z 0 tl (st0 (fun _ => 0))) → (∀ w, z ≤ w → T w = 0) → (∀ v, 100 ≤ T v → v + 1 < z) → frO z (z + 76) T T' → frO z (z + 76) N N' → frO z (z + 76) R R' → frO z (z + 76) P P' → frO z (z + 76) S S' → V G (AP G F) y cc nL rt (d + 5) (T', N', R', P', S', cn + 200, un + 37329) q L (.ref z :: st) post) : V G (AP G F) y cc nL rt (d + 5) (T, N, R, P, S, cn, un) pc L st post := by
  subst hq
  refine V_lift (Abs := A1 G) fun H hA => ?_
  obtain ⟨⟨σ, nn, uu⟩, h1, cp, cq, h2⟩ := hA
  have h2 : RelQ G F σ nn uu cp cq T N R P S cn un := h2
  refine ⟨(σ, nn, uu), h1, ?_⟩
  have lt := RelQ.lt (F := F) h1
  obtain ⟨k1, -, -, -, -, k6, k7, k8, k9⟩ := id h2
  have hT0 : ∀ z, nn ≤ z → T z = 0 := fun z hz => by
    by_cases e : T z = 0
    · exact e
    · obtain ⟨e9, he9⟩ := cP_some (G := G) N R P S cp e
      have := lt z _ (k1 z _ he9)
      omega
  refine h_newG (ci := 7) (Cn := RX7) (T := TX7) (N := 8) (fs := dfX7) tyX7 (pc + 3) hd1 rfl rfl lay_X7 tyX7_ok hw ib_X7 it_X7 dfX7_ok (by omega) (by omega) (fun σ1 a1 b1 => ?_)
  refine s_dup (q := pc + 4) (hd := hd2) (hq := rfl) (k := ?_)
  refine s_I0 (pc + 7) hd3 rfl km_X7_init hw2 ds_X7_init hrest (k_State (d := d) a1 (by omega) (by omega) (fun σ2 b2 a2 => ?_))
  refine ⟨rfl, ?_⟩
  have hg := RQ.grow (σ' := σ2) (nn' := nn + 76) (uu' := uu + 8 + 169) h2 lt (fun z hz => by rw [b2 z hz, b1 z (by omega)]) (by omega) (by omega) (by omega) (by omega)
  obtain ⟨T', N', R', P', S', ⟨cp', cq', h9, -⟩, s1, s2, s3, s4, s5, s6, s7⟩ := hg.state (Nat.le_refl _) (Nat.le_refl _) a2 (by omega) (by omega)
  have e1 : cn + (nn + 76 - nn) + 124 = cn + 200 := by omega
  have e2 : un + (uu + 8 + 169 - uu) + 37152 = un + 37329 := by omega
  rw [e1, e2] at h9
  exact V_drop AP_iff (b := (T', N', R', P', S', cn + 200, un + 37329)) ⟨cp', cq', h9⟩ (kk nn T' N' R' P' S' s1 s2 (fun w hw => hT0 w hw) (fun v hv => (h2.2.2.1 v hv).choose_spec.2.2.2.2) s3 s4 s5 s6 s7)
def PaS (T : Nat → Nat) (x : Nat) : Prop := T x = 4 ∧ T (x + 1) = 22
theorem q_pforget {x : Nat} (hS : PaS T x) (hp : post none (T, up N x (up (N x) 0 0), R, P, S, cn, un)) : Cm G (AP G F) yX3_forget cX3_forget 1 none d [.ref x] (T, N, R, P, S, cn, un) post := by
  have t0 := hS.1
  refine Cm_intro (L := [some (.ref x)]) (by decide +kernel) (Nat.le_of_ble_eq_true rfl) rfl ?_
  refine s_aload_n 1 dX3_forget_0 rfl rfl ?_
  refine s_iconst 2 dX3_forget_1 rfl ?_
  refine p_X3_many 5 dX3_forget_2 rfl fl_X3_17 ?_
  refine s_return rfl dX3_forget_5 ?_
  exact hp
theorem q_commit {x nx k : Nat} (hS : PaS T x) (h2 : N x 2 = nx) (hnx : nx < 13) (h0 : N x 0 = k) (hk : k ≤ 12) (hp : ∀ N', frO x (x + 1) N N' → N' x 2 = ((nx + 1) % 13 : Nat) → N' x 0 = (min 12 (k + 1) : Nat) → post none (T, N', R, P, S, cn, un)) : Cm G (AP G F) yX3_commit cX3_commit 1 none (d + 1) [.ref x] (T, N, R, P, S, cn, un) post := by
  have t0 := hS.1
  refine Cm_intro (L := [some (.ref x)]) (by decide +kernel) (Nat.le_of_ble_eq_true rfl) rfl ?_
  refine s_aload_n 1 dX3_commit_0 rfl rfl ?_
  refine s_aload_n 2 dX3_commit_1 rfl rfl ?_
  refine g_X3_next 5 dX3_commit_2 rfl fl_X3_21 (fun hr2 => ?_)
  rw [h2]
  refine s_iconst 6 dX3_commit_5 rfl ?_
  refine s_iadd 7 dX3_commit_6 rfl ?_
  refine s_bipush 9 dX3_commit_7 rfl (k := ?_)
  refine s_irem (q := 10) (hd := dX3_commit_9) (hq := rfl) (k := ?_)
  refine p_X3_next 13 dX3_commit_10 rfl fl_X3_21 ?_
  refine s_aload_n 14 dX3_commit_13 rfl rfl ?_
  refine s_bipush 16 dX3_commit_14 rfl (k := ?_)
  refine s_aload_n 17 dX3_commit_16 rfl rfl ?_
  refine g_X3_many 20 dX3_commit_17 rfl fl_X3_17 (fun hr17 => ?_)
  rw [up_s, up_n (show (0 : Nat) ≠ 2 by decide), h0]
  refine s_iconst 21 dX3_commit_20 rfl ?_
  refine s_iadd 22 dX3_commit_21 rfl ?_
  refine s_min (q := 25) (hd := dX3_commit_22) (hq := rfl) (hw := ml_X3_29) (hrest := Nat.le_of_ble_eq_true rfl) (k := ?_)
  refine p_X3_many 28 dX3_commit_25 rfl fl_X3_17 ?_
  rw [up_in]
  refine s_return rfl dX3_commit_28 ?_
  refine hp _ (frO.rf.up (by omega)) ?_ ?_
  · rw [up_s, up_n (by decide), up_s]
    omega
  · rw [up_s, up_s]
    omega
theorem q_stage {x z ch nx : Nat} {tl : Nat → Int} {s : ST} {b : Int} (hS : PaS T x) (h2 : N x 2 = nx) (hnx : nx < 13) (hz : StS T z) (hR : StR N R z ch tl s) (hw : WfSt b ch s) (hb : b ≤ 99000000) (hc4 : ch ≤ 4) (hst : ∀ w, P (x + 1) nx = some w → StS T w ∧ (w + 76 ≤ z ∨ z + 76 ≤ w) ∧ (x + 2 ≤ w ∨ w + 76 ≤ x)) (hroom : P (x + 1) nx = none → cn + 200 ≤ gN G ∧ un + 37329 ≤ gU G) (hp : ∀ (T' : Nat → Nat) (N' : Nat → Nat → Int) (R' : Nat → List Int) (P' : Nat → Nat → Option Nat) (S' : Nat → Int64) (cn' un' w : Nat), P' (x + 1) = up (P (x + 1)) nx (some w) → StS T' w → StR N' R' w ch tl s → frO w (w + 76) T T' → frO w (w + 76) N N' → frO w (w + 76) R R' → (∀ y, y ≠ x + 1 → (y < w ∨ w + 76 ≤ y) → P' y = P y) → frO w (w + 76) S S' → (P (x + 1) nx = some w ∧ cn' = cn ∧ un' = un ∨ P (x + 1) nx = none ∧ cn' = cn + 200 ∧ un' = un + 37329 ∧ (∀ y, w ≤ y → T y = 0) ∧ ∀ v, 100 ≤ T v → v + 1 < w) → post none (T', N', R', P', S', cn', un')) : Cm G (AP G F) yX3_stage cX3_stage 2 none (d + 6) [.ref x, .ref z] (T, N, R, P, S, cn, un) post := by
  obtain ⟨t0, t1⟩ := id hS
  have z0 := hz.1
  refine Cm_intro (L := [some (.ref x), some (.ref z)]) (by decide +kernel) (Nat.le_of_ble_eq_true rfl) rfl ?_
  refine s_aload_n 1 dX3_stage_0 rfl rfl ?_
  refine g_X3_states 4 dX3_stage_1 rfl fl_X3_11 ?_
  refine s_aload_n 5 dX3_stage_4 rfl rfl ?_
  refine g_X3_next 8 dX3_stage_5 rfl fl_X3_21 (fun hr5 => ?_)
  rw [h2]
  refine q_stat 9 dX3_stage_8 rfl ?_
  rw [show ((nx : Int)).toNat = nx from rfl]
  cases hP : P (x + 1) nx with
  | some w =>
    obtain ⟨w1, w2, w3⟩ := hst w hP
    have w0 := w1.1
    refine s_ifnonnull 28 dX3_stage_9 rfl ?_
    refine s_aload_n 29 dX3_stage_28 rfl rfl ?_
    refine g_X3_states 32 dX3_stage_29 rfl fl_X3_11 ?_
    refine s_aload_n 33 dX3_stage_32 rfl rfl ?_
    refine g_X3_next 36 dX3_stage_33 rfl fl_X3_21 (fun hr33 => ?_)
    rw [h2]
    refine q_stat 37 dX3_stage_36 rfl ?_
    rw [show ((nx : Int)).toNat = nx from rfl, hP, show va_rf (some w) = .ref w from rfl]
    refine s_aload_n 38 dX3_stage_37 rfl rfl ?_
    refine s_V1v 41 dX3_stage_38 rfl km_X7_copyFrom ml_X3_25 ds_X7_copyFrom (Nat.le_of_ble_eq_true rfl) (q_rec (by assumption)) rfl (q_scopy w1 hz (by omega) hR hw hb hc4 (fun N3 R3 k1 k2 k3 => ?_))
    refine ⟨rfl, ?_⟩
    refine s_return rfl dX3_stage_41 ?_
    refine hp T N3 R3 P S cn un w ?_ w1 k3 frO.rf k1 k2 (fun _ _ _ => rfl) frO.rf (Or.inl ⟨hP, rfl, rfl⟩)
    rw [up_self hP]
  | none =>
    obtain ⟨m1, m2⟩ := hroom hP
    refine s_ifnonnullN 12 dX3_stage_9 rfl ?_
    refine s_aload_n 13 dX3_stage_12 rfl rfl ?_
    refine g_X3_states 16 dX3_stage_13 rfl fl_X3_11 ?_
    refine s_aload_n 17 dX3_stage_16 rfl rfl ?_
    refine g_X3_next 20 dX3_stage_17 rfl fl_X3_21 (fun hr17 => ?_)
    rw [h2]
    refine q_newState 27 dX3_stage_20 dX3_stage_23 dX3_stage_24 rfl cl_X3_9 ml_X3_24 (Nat.le_of_ble_eq_true rfl) m1 m2 (fun w T' N' R' P' S' s1 s2 s3 s9 s4 s5 s6 s7 s8 => ?_)
    have d1 : ∀ v, T v ≠ 0 → v < w := fun v hv => Nat.lt_of_not_le (fun h => hv (s3 v h))
    have xl : x + 1 < w := d1 _ (by omega)
    have zl : z + 76 ≤ w := by
      have h9 := hz.2.2.2.2.2 3 (by decide)
      have h8 := s9 _ (show 100 ≤ T (z + 7 + 1 + 17 * 3 + 15) by rw [h9.2.2.2]; decide)
      omega
    have t0' : T' x = 4 := by rw [s4 x (by omega)]; exact t0
    have t1' : T' (x + 1) = 22 := by rw [s4 _ (by omega)]; exact t1
    have h2' : N' x 2 = nx := by rw [s5 x (by omega)]; exact h2
    have w0 := s1.1
    have hz' := hz.fr s4 (by omega)
    have z0' := hz'.1
    have hR' : StR N' R' z ch tl s := hR.fr hc4 s5 s6 (by omega) (by omega)
    refine q_pstat 28 dX3_stage_27 rfl t1' w0 ?_
    rw [show ((nx : Int)).toNat = nx from rfl]
    refine s_aload_n 29 dX3_stage_28 rfl rfl ?_
    refine g_X3_states 32 dX3_stage_29 rfl fl_X3_11 ?_
    refine s_aload_n 33 dX3_stage_32 rfl rfl ?_
    refine g_X3_next 36 dX3_stage_33 rfl fl_X3_21 (fun hr33 => ?_)
    rw [h2']
    refine q_stat 37 dX3_stage_36 rfl ?_
    rw [show ((nx : Int)).toNat = nx from rfl, up_s, up_s, show va_rf (some w) = .ref w from rfl]
    refine s_aload_n 38 dX3_stage_37 rfl rfl ?_
    refine s_V1v 41 dX3_stage_38 rfl km_X7_copyFrom ml_X3_25 ds_X7_copyFrom (Nat.le_of_ble_eq_true rfl) (q_rec (by assumption)) rfl (q_scopy s1 hz' (by omega) hR' hw hb hc4 (fun N3 R3 k1 k2 k3 => ?_))
    refine ⟨rfl, ?_⟩
    refine s_return rfl dX3_stage_41 ?_
    refine hp T' N3 R3 _ S' _ _ w ?_ s1 k3 s4 (s5.trans k1 (by omega)) (s6.trans k2 (by omega)) (fun v hv hv2 => ?_) s8 (Or.inr ⟨hP, rfl, rfl, s3, s9⟩)
    · rw [up_s, s7 (x + 1) (by omega)]
    · rw [up_n hv, s7 v hv2]
/-- the latest state back, the one that is now in its place -/
theorem q_swapBack {x z nx k : Nat} (hS : PaS T x) (h2 : N x 2 = nx) (hnx : nx < 13) (h0 : N x 0 = k) (hk : 0 < k ∧ k ≤ 12) (hz : T z = 8) {w : Nat} (hP : P (x + 1) ((nx + 12) % 13) = some w) (hp : ∀ N', frO x (x + 1) N N' → N' x 2 = ((nx + 12) % 13 : Nat) → N' x 0 = (k - 1 : Nat) → post (some (.ref w)) (T, N', R, up P (x + 1) (up (P (x + 1)) ((nx + 12) % 13) (some z)), S, cn, un)) : Cm G (AP G F) yX3_swapBack cX3_swapBack 4 (some (.object "QuietLine$State")) d [.ref x, .ref z] (T, N, R, P, S, cn, un) post := by
  obtain ⟨t0, t1⟩ := id hS
  refine Cm_intro (L := [some (.ref x), some (.ref z), none, none]) (by decide +kernel) (Nat.le_of_ble_eq_true rfl) rfl ?_
  refine s_aload_n 1 dX3_swapBack_0 rfl rfl ?_
  refine g_X3_next 4 dX3_swapBack_1 rfl fl_X3_21 (fun hr1 => ?_)
  rw [h2]
  refine s_bipush 6 dX3_swapBack_4 rfl (k := ?_)
  refine s_iadd 7 dX3_swapBack_6 rfl ?_
  refine s_bipush 9 dX3_swapBack_7 rfl (k := ?_)
  refine s_irem (q := 10) (hd := dX3_swapBack_9) (hq := rfl) (k := ?_)
  rw [show ((nx : Int) + 12) % 13 = ((((nx + 12) % 13 : Nat)) : Int) by omega]
  generalize hm : (nx + 12) % 13 = m at *
  have hm13 : m < 13 := by omega
  refine s_istore_n 11 dX3_swapBack_10 rfl (Nat.le_of_ble_eq_true rfl) rfl ?_
  refine s_aload_n 12 dX3_swapBack_11 rfl rfl ?_
  refine g_X3_states 15 dX3_swapBack_12 rfl fl_X3_11 ?_
  refine s_iload_n 16 dX3_swapBack_15 rfl rfl ?_
  refine q_stat 17 dX3_swapBack_16 rfl ?_
  rw [show ((m : Int)).toNat = m from rfl, hP, show va_rf (some w) = .ref w from rfl]
  refine s_astore_n 18 dX3_swapBack_17 rfl (Nat.le_of_ble_eq_true rfl) rfl ?_
  refine s_aload_n 19 dX3_swapBack_18 rfl rfl ?_
  refine g_X3_many 22 dX3_swapBack_19 rfl fl_X3_17 (fun hr19 => ?_)
  rw [h0]
  refine s_if_eq 25 29 dX3_swapBack_22 rfl rfl (fun g1 => ?_) (fun g1 => ?_)
  · omega
  refine s_aload_n 26 dX3_swapBack_25 rfl rfl ?_
  refine s_ifnonnull 31 dX3_swapBack_26 rfl ?_
  refine s_aload_n 32 dX3_swapBack_31 rfl rfl ?_
  refine g_X3_states 35 dX3_swapBack_32 rfl fl_X3_11 ?_
  refine s_iload_n 36 dX3_swapBack_35 rfl rfl ?_
  refine s_aload_n 37 dX3_swapBack_36 rfl rfl ?_
  refine q_pstat 38 dX3_swapBack_37 rfl t1 hz ?_
  rw [show ((m : Int)).toNat = m from rfl]
  refine s_aload_n 39 dX3_swapBack_38 rfl rfl ?_
  refine s_iload_n 40 dX3_swapBack_39 rfl rfl ?_
  refine p_X3_next 43 dX3_swapBack_40 rfl fl_X3_21 ?_
  refine s_aload_n 44 dX3_swapBack_43 rfl rfl ?_
  refine s_dup (q := 45) (hd := dX3_swapBack_44) (hq := rfl) (k := ?_)
  refine g_X3_many 48 dX3_swapBack_45 rfl fl_X3_17 (fun hr45 => ?_)
  rw [up_s, up_n (show (0 : Nat) ≠ 2 by decide), h0]
  refine s_iconst 49 dX3_swapBack_48 rfl ?_
  refine s_isub 50 dX3_swapBack_49 rfl ?_
  refine p_X3_many 53 dX3_swapBack_50 rfl fl_X3_17 ?_
  rw [up_in]
  refine s_aload_n 54 dX3_swapBack_53 rfl rfl ?_
  refine s_areturn (C1 := "QuietLine$State") rfl (Or.inr ⟨_, rfl⟩) dX3_swapBack_54 ?_
  refine hp _ (frO.rf.up (by omega)) ?_ ?_
  · rw [up_s, up_n (by decide), up_s]
  · rw [up_s, up_s]
    omega
end PAST
