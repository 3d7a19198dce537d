/-! ===== Port ===== -/
theorem up_in {β : Type} {N : Nat → Nat → β} {x k : Nat} {g : Nat → β} {v : β} : up (up N x g) x (up (up N x g x) k v) = up N x (up g k v) := by rw [up_s, up_up]
section PORT
variable {G : GT} {F : HS} {d : Nat} {T : Nat → Nat} {N : Nat → Nat → Int} {R : Nat → List Int} {P : Nat → Nat → Option Nat} {S : Nat → Int64} {cn un : Nat} {post : Option Value → PT → Prop} {ru : RU} {tl : Int} {c : CH} {b : Int}
theorem q_tear {x : Nat} (hS : PoS T x) (hR : PoR N R x tl c) (hw : WfCh b c) (hb : b ≤ 100000000) (hp : ∀ N' R', frO x (x + 1) N N' → frO x (x + 17) R R' → PoR N' R' x tl (tearF c) → post none (T, N', R', P, S, cn, un)) : Cm G (AP G F) yX4_tear cX4_tear 1 none (d + 1) [.ref x] (T, N, R, P, S, cn, un) post := by
  obtain ⟨t0, t1, t2, t3⟩ := hS
  obtain ⟨h1, h2, h3, h4⟩ := hR
  have e9 : N x 9 = c.1 5 := h1.2 5 (by decide)
  have e10 : N x 10 = c.1 6 := h1.2 6 (by decide)
  have w5 := hw.2.2.2.2.2.1
  have w6 := hw.2.2.2.2.2.2.1
  refine Cm_intro (L := [some (.ref x)]) (by decide +kernel) (Nat.le_of_ble_eq_true rfl) rfl ?_
  have fin : ∀ N1 : Nat → Nat → Int, frO x (x + 1) N N1 → PoN (N1 x) tl (up c.1 5 (c.1 5 + if 0 < c.1 6 then 1 else 0)) → V G (AP G F) yX4_tear cX4_tear 1 none (d + 1) (T, N1, R, P, S, cn, un) 17 [some (.ref x)] [] post := by
    intro N1 f1 f2
    refine s_aload_n 18 dX4_tear_17 rfl rfl ?_
    refine g_X4_built 21 dX4_tear_18 rfl fl_X4_26 ?_
    refine s_V0v 24 dX4_tear_21 rfl km_X5_clear ml_X4_33 ds_X5_clear (Nat.le_of_ble_eq_true rfl) (q_recR (by assumption)) rfl (r_clear t3 ?_)
    refine ⟨rfl, ?_⟩
    refine s_aload_n 25 dX4_tear_24 rfl rfl ?_
    refine s_iconst 26 dX4_tear_25 rfl ?_
    refine p_X4_frames 29 dX4_tear_26 rfl fl_X4_56 ?_
    refine s_return rfl dX4_tear_29 ?_
    refine hp _ _ (f1.up (by omega)) (frO.rf.up (by omega)) ⟨by rw [up_s]; exact f2.up 6, ?_, ?_, by rw [up_s]; rfl⟩
    · exact h2.fr (lo := x + 15) (hi := x + 16) (frO.rf.up (by omega)) (by omega)
    · exact h3.fr (lo := x + 15) (hi := x + 16) (frO.rf.up (by omega)) (by omega)
  refine s_aload_n 1 dX4_tear_0 rfl rfl ?_
  refine g_X4_frames 4 dX4_tear_1 rfl fl_X4_56 (fun hr1 => ?_)
  rw [e10]
  refine s_if_le 7 17 dX4_tear_4 rfl rfl (fun g => ?_) (fun g => ?_)
  · refine fin N frO.rf ?_
    rw [if_neg (by omega), Int.add_zero, up_self rfl]
    exact h1
  · refine s_aload_n 8 dX4_tear_7 rfl rfl ?_
    refine s_dup (q := 9) (hd := dX4_tear_8) (hq := rfl) (k := ?_)
    refine g_X4_torn 12 dX4_tear_9 rfl fl_X4_53 (fun hr9 => ?_)
    rw [e9]
    refine s_iconst 13 dX4_tear_12 rfl ?_
    refine s_iadd 14 dX4_tear_13 rfl ?_
    refine p_X4_torn 17 dX4_tear_14 rfl fl_X4_53 ?_
    refine fin _ (frO.rf.up (by omega)) ?_
    rw [up_s, if_pos (by omega)]
    exact h1.up 5
theorem q_preset {x : Nat} {v : Int} (hS : PoS T x) (hv : rg v) (hp : ∀ N' R', frO x (x + 1) N N' → frO x (x + 17) R R' → PoR N' R' x v ((fun k => if k = 0 then v else 0), [], [], []) → post none (T, N', R', P, S, cn, un)) : Cm G (AP G F) yX4_reset cX4_reset 2 none (d + 2) [.ref x, vi v] (T, N, R, P, S, cn, un) post := by
  obtain ⟨t0, t1, t2, t3⟩ := hS
  have a1 := t1.1
  have a2 := t2.1
  refine Cm_intro (L := [some (.ref x), some (vi v)]) (by decide +kernel) (Nat.le_of_ble_eq_true rfl) rfl ?_
  refine s_aload_n 1 dX4_reset_0 rfl rfl ?_
  refine g_X4_waits 4 dX4_reset_1 rfl fl_X4_12 ?_
  refine s_V0v 7 dX4_reset_4 rfl km_X2_clear ml_X4_30 ds_X2_clear (Nat.le_of_ble_eq_true rfl) (q_rec (by assumption)) rfl (q_mclear t1 (fun R1 m1 f1 => ?_))
  refine ⟨rfl, ?_⟩
  refine s_aload_n 8 dX4_reset_7 rfl rfl ?_
  refine g_X4_there 11 dX4_reset_8 rfl fl_X4_18 ?_
  refine s_V0v 14 dX4_reset_11 rfl km_X2_clear ml_X4_30 ds_X2_clear (Nat.le_of_ble_eq_true rfl) (q_rec (by assumption)) rfl (q_mclear t2 (fun R2 m2 f2 => ?_))
  refine ⟨rfl, ?_⟩
  refine s_aload_n 15 dX4_reset_14 rfl rfl ?_
  refine g_X4_built 18 dX4_reset_15 rfl fl_X4_26 ?_
  refine s_V0v 21 dX4_reset_18 rfl km_X5_clear ml_X4_33 ds_X5_clear (Nat.le_of_ble_eq_true rfl) (q_recR (by assumption)) rfl (r_clear t3 ?_)
  refine ⟨rfl, ?_⟩
  refine s_aload_n 22 dX4_reset_21 rfl rfl ?_
  refine s_iload_n 23 dX4_reset_22 rfl rfl ?_
  refine p_X4_told 26 dX4_reset_23 rfl fl_X4_34 ?_
  refine s_aload_n 27 dX4_reset_26 rfl rfl ?_
  refine s_iload_n 28 dX4_reset_27 rfl rfl ?_
  refine p_X4_credits 31 dX4_reset_28 rfl fl_X4_38 ?_
  rw [up_in]
  refine s_aload_n 32 dX4_reset_31 rfl rfl ?_
  refine s_iconst 33 dX4_reset_32 rfl ?_
  refine p_X4_gone 36 dX4_reset_33 rfl fl_X4_41 ?_
  rw [up_in]
  refine s_aload_n 37 dX4_reset_36 rfl rfl ?_
  refine s_iconst 38 dX4_reset_37 rfl ?_
  refine p_X4_number 41 dX4_reset_38 rfl fl_X4_44 ?_
  rw [up_in]
  refine s_aload_n 42 dX4_reset_41 rfl rfl ?_
  refine s_iconst 43 dX4_reset_42 rfl ?_
  refine p_X4_expected 46 dX4_reset_43 rfl fl_X4_47 ?_
  rw [up_in]
  refine s_aload_n 47 dX4_reset_46 rfl rfl ?_
  refine s_iconst 48 dX4_reset_47 rfl ?_
  refine p_X4_lost 51 dX4_reset_48 rfl fl_X4_50 ?_
  rw [up_in]
  refine s_aload_n 52 dX4_reset_51 rfl rfl ?_
  refine s_iconst 53 dX4_reset_52 rfl ?_
  refine p_X4_torn 56 dX4_reset_53 rfl fl_X4_53 ?_
  rw [up_in]
  refine s_aload_n 57 dX4_reset_56 rfl rfl ?_
  refine s_iconst 58 dX4_reset_57 rfl ?_
  refine p_X4_frames 61 dX4_reset_58 rfl fl_X4_56 ?_
  rw [up_in]
  refine s_aload_n 62 dX4_reset_61 rfl rfl ?_
  refine s_iconst 63 dX4_reset_62 rfl ?_
  refine p_X4_taken 66 dX4_reset_63 rfl fl_X4_59 ?_
  rw [up_in]
  refine s_return rfl dX4_reset_66 ?_
  refine hp _ _ (frO.rf.up (by omega)) (((f1.wk (by omega)).trans f2 (by omega)).up (by omega)) ⟨?_, ?_, ?_, by rw [up_s]⟩
  · rw [up_s]
    refine ⟨by simp [up], fun j hj => ?_⟩
    show _ = if j = 0 then v else 0
    match j, hj with
    | 0, _ => simp [up]
    | 1, _ => simp [up]
    | 2, _ => simp [up]
    | 3, _ => simp [up]
    | 4, _ => simp [up]
    | 5, _ => simp [up]
    | 6, _ => simp [up]
    | 7, _ => simp [up]
  · exact (m1.fr f2 (by omega)).fr (lo := x + 15) (hi := x + 16) (frO.rf.up (by omega)) (by omega)
  · exact m2.fr (lo := x + 15) (hi := x + 16) (frO.rf.up (by omega)) (by omega)
theorem q_pcopy {x z : Nat} (hS : PoS T x) (hS2 : PoS T z) (hne : z + 17 ≤ x ∨ x + 17 ≤ z) (hR : PoR N R z tl c) (hw : WfCh b c) (hp : ∀ N' R', frO x (x + 1) N N' → frO x (x + 17) R R' → PoR N' R' x tl c → post none (T, N', R', P, S, cn, un)) : Cm G (AP G F) yX4_copyFrom cX4_copyFrom 2 none (d + 4) [.ref x, .ref z] (T, N, R, P, S, cn, un) post := by
  obtain ⟨t0, t1, t2, t3⟩ := hS
  obtain ⟨z0, z1, z2, z3⟩ := hS2
  obtain ⟨h1, h2, h3, h4⟩ := hR
  obtain ⟨w0, w1, w2, w3, w4, w5, w6, w7, w8, w9, w10, w11, w12, w13, w14⟩ := hw
  have a1 := t1.1
  have a2 := t2.1
  have b1 := z1.1
  have b2 := z2.1
  refine Cm_intro (L := [some (.ref x), some (.ref z)]) (by decide +kernel) (Nat.le_of_ble_eq_true rfl) rfl ?_
  refine s_aload_n 1 dX4_copyFrom_0 rfl rfl ?_
  refine g_X4_waits 4 dX4_copyFrom_1 rfl fl_X4_12 ?_
  refine s_aload_n 5 dX4_copyFrom_4 rfl rfl ?_
  refine g_X4_waits 8 dX4_copyFrom_5 rfl fl_X4_12 ?_
  refine s_V1v 11 dX4_copyFrom_8 rfl km_X2_copyFrom ml_X4_62 ds_X2_copyFrom (Nat.le_of_ble_eq_true rfl) (q_rec (by assumption)) rfl (q_mcopy t1 z1 (by omega) h2 (wai0_mem w9) (by rw [wai0_len]; exact w8) (fun R1 m1 f1 => ?_))
  refine ⟨rfl, ?_⟩
  refine s_aload_n 12 dX4_copyFrom_11 rfl rfl ?_
  refine g_X4_there 15 dX4_copyFrom_12 rfl fl_X4_18 ?_
  refine s_aload_n 16 dX4_copyFrom_15 rfl rfl ?_
  refine g_X4_there 19 dX4_copyFrom_16 rfl fl_X4_18 ?_
  refine s_V1v 22 dX4_copyFrom_19 rfl km_X2_copyFrom ml_X4_62 ds_X2_copyFrom (Nat.le_of_ble_eq_true rfl) (q_rec (by assumption)) rfl (q_mcopy t2 z2 (by omega) (h3.fr f1 (by omega)) (fun m hm => (w11 m hm).1) w10 (fun R2 m2 f2 => ?_))
  refine ⟨rfl, ?_⟩
  refine s_aload_n 23 dX4_copyFrom_22 rfl rfl ?_
  refine g_X4_built 26 dX4_copyFrom_23 rfl fl_X4_26 ?_
  refine s_aload_n 27 dX4_copyFrom_26 rfl rfl ?_
  refine g_X4_built 30 dX4_copyFrom_27 rfl fl_X4_26 ?_
  refine s_V1v 33 dX4_copyFrom_30 rfl km_X5_copyFrom ml_X4_66 ds_X5_copyFrom (Nat.le_of_ble_eq_true rfl) (q_recR (by assumption)) rfl (r_copyFrom t3 (by omega) (by omega) ?_)
  refine ⟨rfl, ?_⟩
  rw [f2 (z + 15) (by omega), f1 (z + 15) (by omega), h4, List.take_of_length_le w12]
  have hzx : ∀ g : Nat → Int, up N x g z = N z := fun g => up_n (by omega)
  refine s_aload_n 34 dX4_copyFrom_33 rfl rfl ?_
  refine s_aload_n 35 dX4_copyFrom_34 rfl rfl ?_
  refine g_X4_told 38 dX4_copyFrom_35 rfl fl_X4_34 (fun hr35 => ?_)
  refine p_X4_told 41 dX4_copyFrom_38 rfl fl_X4_34 ?_
  refine s_aload_n 42 dX4_copyFrom_41 rfl rfl ?_
  refine s_aload_n 43 dX4_copyFrom_42 rfl rfl ?_
  refine g_X4_credits 46 dX4_copyFrom_43 rfl fl_X4_38 (fun hr43 => ?_)
  refine p_X4_credits 49 dX4_copyFrom_46 rfl fl_X4_38 ?_
  rw [up_in, hzx]
  refine s_aload_n 50 dX4_copyFrom_49 rfl rfl ?_
  refine s_aload_n 51 dX4_copyFrom_50 rfl rfl ?_
  refine g_X4_gone 54 dX4_copyFrom_51 rfl fl_X4_41 (fun hr51 => ?_)
  refine p_X4_gone 57 dX4_copyFrom_54 rfl fl_X4_41 ?_
  rw [up_in, hzx]
  refine s_aload_n 58 dX4_copyFrom_57 rfl rfl ?_
  refine s_aload_n 59 dX4_copyFrom_58 rfl rfl ?_
  refine g_X4_number 62 dX4_copyFrom_59 rfl fl_X4_44 (fun hr59 => ?_)
  refine p_X4_number 65 dX4_copyFrom_62 rfl fl_X4_44 ?_
  rw [up_in, hzx]
  refine s_aload_n 66 dX4_copyFrom_65 rfl rfl ?_
  refine s_aload_n 67 dX4_copyFrom_66 rfl rfl ?_
  refine g_X4_expected 70 dX4_copyFrom_67 rfl fl_X4_47 (fun hr67 => ?_)
  refine p_X4_expected 73 dX4_copyFrom_70 rfl fl_X4_47 ?_
  rw [up_in, hzx]
  refine s_aload_n 74 dX4_copyFrom_73 rfl rfl ?_
  refine s_aload_n 75 dX4_copyFrom_74 rfl rfl ?_
  refine g_X4_lost 78 dX4_copyFrom_75 rfl fl_X4_50 (fun hr75 => ?_)
  refine p_X4_lost 81 dX4_copyFrom_78 rfl fl_X4_50 ?_
  rw [up_in, hzx]
  refine s_aload_n 82 dX4_copyFrom_81 rfl rfl ?_
  refine s_aload_n 83 dX4_copyFrom_82 rfl rfl ?_
  refine g_X4_torn 86 dX4_copyFrom_83 rfl fl_X4_53 (fun hr83 => ?_)
  refine p_X4_torn 89 dX4_copyFrom_86 rfl fl_X4_53 ?_
  rw [up_in, hzx]
  refine s_aload_n 90 dX4_copyFrom_89 rfl rfl ?_
  refine s_aload_n 91 dX4_copyFrom_90 rfl rfl ?_
  refine g_X4_frames 94 dX4_copyFrom_91 rfl fl_X4_56 (fun hr91 => ?_)
  refine p_X4_frames 97 dX4_copyFrom_94 rfl fl_X4_56 ?_
  rw [up_in, hzx]
  refine s_aload_n 98 dX4_copyFrom_97 rfl rfl ?_
  refine s_aload_n 99 dX4_copyFrom_98 rfl rfl ?_
  refine g_X4_taken 102 dX4_copyFrom_99 rfl fl_X4_59 (fun hr99 => ?_)
  refine p_X4_taken 105 dX4_copyFrom_102 rfl fl_X4_59 ?_
  rw [up_in, hzx]
  refine s_return rfl dX4_copyFrom_105 ?_
  refine hp _ _ (frO.rf.up (by omega)) (((f1.wk (by omega)).trans f2 (by omega)).up (by omega)) ⟨?_, ?_, ?_, by rw [up_s]⟩
  · rw [up_s]
    refine ⟨by rw [← h1.1]; simp [up], fun j hj => ?_⟩
    rw [← h1.2 j hj]
    match j, hj with
    | 0, _ => simp [up]
    | 1, _ => simp [up]
    | 2, _ => simp [up]
    | 3, _ => simp [up]
    | 4, _ => simp [up]
    | 5, _ => simp [up]
    | 6, _ => simp [up]
    | 7, _ => simp [up]
  · exact (m1.fr f2 (by omega)).fr (lo := x + 15) (hi := x + 16) (frO.rf.up (by omega)) (by omega)
  · exact m2.fr (lo := x + 15) (hi := x + 16) (frO.rf.up (by omega)) (by omega)
theorem q_wasPut {x : Nat} (hS : PoS T x) (hR : PoR N R x tl c) (hw : WfCh b c) (hwr : WfRu ru) (hl : 0 < c.2.1.length) (hc : 0 < c.1 0) (hp : ∀ N' R', frO x (x + 1) N N' → frO x (x + 17) R R' → PoR N' R' x tl (wasF ru c) → post none (T, N', R', P, S, cn, un)) : Cm G (AP G F) yX4_frameWasPut cX4_frameWasPut 2 none (d + 4) [.ref x, vi (prtF ru c).length] (T, N, R, P, S, cn, un) post := by
  obtain ⟨t0, t1, t2, t3⟩ := hS
  obtain ⟨h1, h2, h3, h4⟩ := hR
  obtain ⟨w0, w1, w2, w3, w4, w5, w6, w7, w8, w9, w10, w11, w12, w13, w14⟩ := hw
  have e4 : N x 4 = c.1 0 := h1.2 0 (by decide)
  have e5 : N x 5 = c.1 1 := h1.2 1 (by decide)
  have e6 : N x 6 = c.1 2 := h1.2 2 (by decide)
  have a1 := t1.1
  have hpl := prtF_len ru c
  have hhl := (w9 _ (headD_mem hl)).1
  refine Cm_intro (L := [some (.ref x), some (vi (prtF ru c).length)]) (by decide +kernel) (Nat.le_of_ble_eq_true rfl) rfl ?_
  refine s_aload_n 1 dX4_frameWasPut_0 rfl rfl ?_
  refine s_dup (q := 2) (hd := dX4_frameWasPut_1) (hq := rfl) (k := ?_)
  refine g_X4_credits 5 dX4_frameWasPut_2 rfl fl_X4_38 (fun hr2 => ?_)
  rw [e4]
  refine s_iconst 6 dX4_frameWasPut_5 rfl ?_
  refine s_isub 7 dX4_frameWasPut_6 rfl ?_
  refine p_X4_credits 10 dX4_frameWasPut_7 rfl fl_X4_38 ?_
  refine s_aload_n 11 dX4_frameWasPut_10 rfl rfl ?_
  refine s_aload_n 12 dX4_frameWasPut_11 rfl rfl ?_
  refine g_X4_number 15 dX4_frameWasPut_12 rfl fl_X4_44 (fun hr12 => ?_)
  rw [up_s, up_n (show (6 : Nat) ≠ 4 by decide), e6]
  refine s_iconst 16 dX4_frameWasPut_15 rfl ?_
  refine s_iadd 17 dX4_frameWasPut_16 rfl ?_
  refine s_bipush 19 dX4_frameWasPut_17 rfl (k := ?_)
  refine s_iand 20 (((c.1 2 + 1) % 16)) dX4_frameWasPut_19 rfl ((and_15 _)) ?_
  refine p_X4_number 23 dX4_frameWasPut_20 rfl fl_X4_44 ?_
  rw [up_in]
  refine s_aload_n 24 dX4_frameWasPut_23 rfl rfl ?_
  refine s_dup (q := 25) (hd := dX4_frameWasPut_24) (hq := rfl) (k := ?_)
  refine g_X4_gone 28 dX4_frameWasPut_25 rfl fl_X4_41 (fun hr25 => ?_)
  rw [up_s, up_n (show (5 : Nat) ≠ 6 by decide), up_n (show (5 : Nat) ≠ 4 by decide), e5]
  refine s_iload_n 29 dX4_frameWasPut_28 rfl rfl ?_
  refine s_iadd 30 dX4_frameWasPut_29 rfl ?_
  refine p_X4_gone 33 dX4_frameWasPut_30 rfl fl_X4_41 ?_
  rw [up_in]
  have hN : PoN (up (up (up (N x) 4 (c.1 0 - 1)) 6 ((c.1 2 + 1) % 16)) 5 (c.1 1 + ((prtF ru c).length : Int))) tl (up (up (up c.1 0 (c.1 0 - 1)) 2 ((c.1 2 + 1) % 16)) 1 (c.1 1 + ((prtF ru c).length : Int))) := ((h1.up 0).up 2).up 1
  generalize hg : up (up (up (N x) 4 (c.1 0 - 1)) 6 ((c.1 2 + 1) % 16)) 5 (c.1 1 + ((prtF ru c).length : Int)) = g at *
  have eg : g 5 = c.1 1 + ((prtF ru c).length : Int) := hN.2 1 (by decide)
  refine s_aload_n 34 dX4_frameWasPut_33 rfl rfl ?_
  refine g_X4_gone 37 dX4_frameWasPut_34 rfl fl_X4_41 (fun hr34 => ?_)
  rw [up_s, eg]
  refine s_aload_n 38 dX4_frameWasPut_37 rfl rfl ?_
  refine g_X4_waits 41 dX4_frameWasPut_38 rfl fl_X4_12 ?_
  refine s_V0i 44 dX4_frameWasPut_41 rfl km_X2_firstLength ml_X4_69 ds_X2_firstLength (Nat.le_of_ble_eq_true rfl) (q_rec (by assumption)) rfl (q_firstLength t1 h2 (wai0_mem w9) ?_)
  refine ⟨_, rfl, ?_⟩
  rw [wai0_get]
  refine s_icmp_lt 47 59 dX4_frameWasPut_44 rfl rfl (fun g1 => ?_) (fun g1 => ?_)
  · refine s_return rfl dX4_frameWasPut_59 ?_
    have ew : wasF ru c = (up (up (up c.1 0 (c.1 0 - 1)) 2 ((c.1 2 + 1) % 16)) 1 (c.1 1 + (prtF ru c).length), c.2) := if_neg (by omega)
    rw [ew] at hp
    exact hp _ _ (frO.rf.up (by omega)) frO.rf ⟨by rw [up_s]; exact hN, h2, h3, h4⟩
  · refine s_aload_n 48 dX4_frameWasPut_47 rfl rfl ?_
    refine g_X4_waits 51 dX4_frameWasPut_48 rfl fl_X4_12 ?_
    refine s_V0v 54 dX4_frameWasPut_51 rfl km_X2_dropFirst ml_X4_73 ds_X2_dropFirst (Nat.le_of_ble_eq_true rfl) (q_rec (by assumption)) rfl (q_dropFirst t1 h2 (wai0_mem w9) (by rw [wai0_len]; exact hl) (by rw [wai0_len]; exact w8) (fun R1 m1 f1 => ?_))
    refine ⟨rfl, ?_⟩
    refine s_aload_n 55 dX4_frameWasPut_54 rfl rfl ?_
    refine s_iconst 56 dX4_frameWasPut_55 rfl ?_
    refine p_X4_gone 59 dX4_frameWasPut_56 rfl fl_X4_41 ?_
    refine s_return rfl dX4_frameWasPut_59 ?_
    have ew : wasF ru c = (up (up (up c.1 0 (c.1 0 - 1)) 2 ((c.1 2 + 1) % 16)) 1 0, c.2.1.drop 1, c.2.2) := if_pos (by omega)
    rw [ew] at hp
    rw [up_in]
    refine hp _ _ (frO.rf.up (by omega)) (f1.wk (by omega)) ⟨?_, ?_, h3.fr f1 (by omega), by rw [f1 (x + 15) (by omega)]; exact h4⟩
    · rw [up_s]
      have h9 := hN.up (v := 0) 1
      rw [up_up] at h9
      exact h9
    · show MaR R1 (x + 1) (wai0 (c.2.1.drop 1))
      unfold wai0
      rw [List.map_drop]
      exact m1
theorem q_accept {x z lz : Nat} {h : Int} {pl : List Int} (hS : PoS T x) (hz : T z = 100 + lz) (hzx : z < x ∨ x + 17 ≤ z) (hR : PoR N R x tl c) (hw : WfCh b c) (hb : b ≤ 90000000) (hpl : R z = pl) (hby : byt pl) (hl1 : 1 + ckl (ru 3) ≤ pl.length) (hl2 : (partF ru pl).length ≤ 60) (hl3 : pl.length ≤ 1000) (hh : h = pl.getD 0 0) (hp : ∀ N' R', frO x (x + 1) N N' → frO x (x + 17) R R' → PoR N' R' x tl (accF c h (partF ru pl)).2 → post (some (vi (accF c h (partF ru pl)).1)) (T, N', R', P, S, cn, un)) : Cm G (AP G F) yX4_accept cX4_accept 5 (some .int) (d + 4) [.ref x, .ref z, vi (partF ru pl).length] (T, N, R, P, S, cn, un) post := by
  obtain ⟨t0, t1, t2, t3⟩ := id hS
  have hbh := byt_at hby 0
  rw [← hh] at hbh
  have hpb : byt (partF ru pl) := byt_take (byt_drop hby _) _
  have hpe : (pl.drop 1).take (partF ru pl).length = partF ru pl := by
    rw [partF_len]
    rfl
  have hpn := partF_len ru pl
  generalize hpt : partF ru pl = pt at *
  refine Cm_intro (L := [some (.ref x), some (.ref z), some (vi pt.length), none, none]) (by decide +kernel) (Nat.le_of_ble_eq_true rfl) rfl ?_
  -- the part is added
  have add : ∀ (N2 : Nat → Nat → Int) (R2 : Nat → List Int) (y : CH) (b2 : Int), frO x (x + 1) N N2 → frO x (x + 17) R R2 → PoR N2 R2 x tl y → WfCh b2 y → b2 ≤ 95000000 → y.2.2.2.length + pt.length ≤ 120 → accF c h pt = addF y h pt → V G (AP G F) yX4_accept cX4_accept 5 (some .int) (d + 4) (T, N2, R2, P, S, cn, un) 98 [some (.ref x), some (.ref z), some (vi pt.length), some (vi h), none] [] post := by
    intro N2 R2 y b2 f1 f2 hy wy hb2 hyl ea
    rw [ea] at hp
    obtain ⟨y1, y2, y3, y4⟩ := id hy
    have e10 : N2 x 10 = y.1 6 := y1.2 6 (by decide)
    have wy6 := wy.2.2.2.2.2.2.1
    have wy10 := wy.2.2.2.2.2.2.2.2.2.2.1
    have wy11 := wy.2.2.2.2.2.2.2.2.2.2.2.1
    have a2 := t2.1
    refine s_aload_n 99 dX4_accept_98 rfl rfl ?_
    refine g_X4_built 102 dX4_accept_99 rfl fl_X4_26 ?_
    refine s_aload_n 103 dX4_accept_102 rfl rfl ?_
    refine s_iconst 104 dX4_accept_103 rfl ?_
    refine s_iload_n 105 dX4_accept_104 rfl rfl ?_
    refine s_V3v 108 dX4_accept_105 rfl km_X5_addAll ml_X4_86 ds_X5_addAll (Nat.le_of_ble_eq_true rfl) (q_recR (by assumption)) rfl (r_addAllK t3 (by omega) (by omega) y4 ((f2 z (by omega)).trans hpl) (by omega) (by omega) (by omega) (by omega) (by omega) ?_)
    refine ⟨rfl, ?_⟩
    rw [show ((1 : Int)).toNat = 1 from rfl, show ((pt.length : Int)).toNat = pt.length from rfl, hpe]
    refine s_aload_n 109 dX4_accept_108 rfl rfl ?_
    refine s_dup (q := 110) (hd := dX4_accept_109) (hq := rfl) (k := ?_)
    refine g_X4_frames 113 dX4_accept_110 rfl fl_X4_56 (fun hr110 => ?_)
    rw [e10]
    refine s_iconst 114 dX4_accept_113 rfl ?_
    refine s_iadd 115 dX4_accept_114 rfl ?_
    refine p_X4_frames 118 dX4_accept_115 rfl fl_X4_56 ?_
    have hput : PoR (up N2 x (up (N2 x) 10 (y.1 6 + 1))) (up R2 (x + 15) (y.2.2.2 ++ pt)) x tl (putT y pt) := ⟨by rw [up_s]; exact y1.up 6, y2.fr (lo := x + 15) (hi := x + 16) (frO.rf.up (by omega)) (by omega), y3.fr (lo := x + 15) (hi := x + 16) (frO.rf.up (by omega)) (by omega), up_s _ _ _⟩
    have hwp := putT_wf wy hpb hyl
    have g1' : frO x (x + 1) N (up N2 x (up (N2 x) 10 (y.1 6 + 1))) := f1.up (by omega)
    have g2' : frO x (x + 17) R (up R2 (x + 15) (y.2.2.2 ++ pt)) := f2.up (by omega)
    generalize up N2 x (up (N2 x) 10 (y.1 6 + 1)) = N3 at *
    generalize up R2 (x + 15) (y.2.2.2 ++ pt) = R3 at *
    refine s_iload_n 119 dX4_accept_118 rfl rfl ?_
    refine s_bipush 121 dX4_accept_119 rfl (k := ?_)
    refine s_iand 122 ((16 * (h / 16 % 2))) dX4_accept_121 rfl ((and_16 hbh)) ?_
    unfold addF at hp
    refine s_if_ne 125 127 dX4_accept_122 rfl rfl (fun g1 => ?_) (fun g1 => ?_)
    rotate_left
    · refine s_iconst 126 dX4_accept_125 rfl ?_
      refine s_ireturn rfl dX4_accept_126 ?_
      rw [if_pos (by omega)] at hp
      exact hp N3 R3 g1' g2' hput
    rw [if_neg (by omega)] at hp
    obtain ⟨p1, p2, p3, p4⟩ := id hput
    have p2' : MaR R3 (x + 8) (putT y pt).2.2.1 := p3
    refine s_aload_n 128 dX4_accept_127 rfl rfl ?_
    refine g_X4_there 131 dX4_accept_128 rfl fl_X4_18 ?_
    refine s_V0i 134 dX4_accept_131 rfl km_X2_many ml_X4_90 ds_X2_many (Nat.le_of_ble_eq_true rfl) (q_rec (by assumption)) rfl (q_many t2 p2' ?_)
    refine ⟨_, rfl, ?_⟩
    rw [show (putT y pt).2.2.1 = y.2.2.1 from rfl]
    unfold endF at hp
    rw [show (putT y pt).2.2.1 = y.2.2.1 from rfl] at hp
    refine s_bipush 136 dX4_accept_134 rfl (k := ?_)
    refine s_icmp_lt 139 146 dX4_accept_136 rfl rfl (fun g2 => ?_) (fun g2 => ?_)
    rotate_left
    · rw [if_pos (by omega)] at hp
      refine s_aload_n 140 dX4_accept_139 rfl rfl ?_
      refine s_V0v 143 dX4_accept_140 rfl km_X4_tear ml_X4_80 ds_X4_tear (Nat.le_of_ble_eq_true rfl) (q_rec (by assumption)) rfl (q_tear hS hput hwp (by omega) (fun N4 R4 k1 k2 k3 => ?_))
      refine ⟨rfl, ?_⟩
      refine s_bipush 145 dX4_accept_143 rfl (k := ?_)
      refine s_ireturn rfl dX4_accept_145 ?_
      exact hp N4 R4 (g1'.trans k1 (by omega)) (g2'.trans k2 (by omega)) k3
    rw [if_neg (by omega)] at hp
    have e10' : N3 x 10 = (putT y pt).1 6 := p1.2 6 (by decide)
    have e6' : (putT y pt).1 6 = y.1 6 + 1 := rfl
    refine s_aload_n 147 dX4_accept_146 rfl rfl ?_
    refine g_X4_there 150 dX4_accept_147 rfl fl_X4_18 ?_
    refine s_aload_n 151 dX4_accept_150 rfl rfl ?_
    refine g_X4_built 154 dX4_accept_151 rfl fl_X4_26 ?_
    refine s_aload_n 155 dX4_accept_154 rfl rfl ?_
    refine g_X4_frames 158 dX4_accept_155 rfl fl_X4_56 (fun hr155 => ?_)
    rw [e10']
    refine s_V2v 161 dX4_accept_158 rfl km_X2_push ml_X4_93 ds_X2_push (Nat.le_of_ble_eq_true rfl) (q_rec (by assumption)) rfl (q_push t2 (by omega) (by omega) p2' (fun m hm => (wy11 m hm).1) (show (putT y pt).2.2.1.length < 8 from (by show y.2.2.1.length < 8; omega)) p4 (by show (y.2.2.2 ++ pt).length ≤ 120; rw [List.length_append]; exact hyl) (by rw [e6']; constructor <;> omega) (fun R4 k1 k2 => ?_))
    refine ⟨rfl, ?_⟩
    refine s_aload_n 162 dX4_accept_161 rfl rfl ?_
    refine g_X4_built 165 dX4_accept_162 rfl fl_X4_26 ?_
    refine s_V0v 168 dX4_accept_165 rfl km_X5_clear ml_X4_33 ds_X5_clear (Nat.le_of_ble_eq_true rfl) (q_recR (by assumption)) rfl (r_clear t3 ?_)
    refine ⟨rfl, ?_⟩
    refine s_aload_n 169 dX4_accept_168 rfl rfl ?_
    refine s_iconst 170 dX4_accept_169 rfl ?_
    refine p_X4_frames 173 dX4_accept_170 rfl fl_X4_56 ?_
    refine s_iconst 174 dX4_accept_173 rfl ?_
    refine s_ireturn rfl dX4_accept_174 ?_
    refine hp _ _ (g1'.up (by omega)) ((g2'.trans k2 (by omega)).up (by omega)) ⟨by rw [up_s]; exact p1.up 6, ?_, ?_, by rw [up_s]⟩
    · exact (p2.fr k2 (by omega)).fr (lo := x + 15) (hi := x + 16) (frO.rf.up (by omega)) (by omega)
    · exact k1.fr (lo := x + 15) (hi := x + 16) (frO.rf.up (by omega)) (by omega)
  -- numbers LOST are told
  have mid : ∀ (N2 : Nat → Nat → Int) (R2 : Nat → List Int) (b2 : Int), frO x (x + 1) N N2 → frO x (x + 17) R R2 → PoR N2 R2 x tl (lostF c h) → WfCh b2 (lostF c h) → b2 ≤ 92000000 → V G (AP G F) yX4_accept cX4_accept 5 (some .int) (d + 4) (T, N2, R2, P, S, cn, un) 55 [some (.ref x), some (.ref z), some (vi pt.length), some (vi h), none] [] post := by
    intro N2 R2 b2 f1 f2 hy wy hb2
    obtain ⟨y1, y2, y3, y4⟩ := id hy
    have e10 : N2 x 10 = (lostF c h).1 6 := y1.2 6 (by decide)
    have wy6 := wy.2.2.2.2.2.2.1
    have wy12 := wy.2.2.2.2.2.2.2.2.2.2.2.2.1
    refine s_iload_n 56 dX4_accept_55 rfl rfl ?_
    refine s_bipush 58 dX4_accept_56 rfl (k := ?_)
    refine s_iand 59 ((32 * (h / 32 % 2))) dX4_accept_58 rfl ((and_32 hbh)) ?_
    refine s_if_eq 62 69 dX4_accept_59 rfl rfl (fun g1 => ?_) (fun g1 => ?_)
    rotate_left
    · refine s_aload_n 63 dX4_accept_62 rfl rfl ?_
      refine s_V0v 66 dX4_accept_63 rfl km_X4_tear ml_X4_80 ds_X4_tear (Nat.le_of_ble_eq_true rfl) (q_rec (by assumption)) rfl (q_tear hS hy wy (by omega) (fun N4 R4 k1 k2 k3 => ?_))
      refine ⟨rfl, ?_⟩
      refine s_goto 98 dX4_accept_66 rfl ?_
      exact add N4 R4 (tearF (lostF c h)) (b2 + 1) (f1.trans k1 (by omega)) (f2.trans k2 (by omega)) k3 (tearF_wf wy) (by omega) (by show ([] : List Int).length + pt.length ≤ 120; simp; omega) (if_pos (by omega))
    refine s_aload_n 70 dX4_accept_69 rfl rfl ?_
    refine g_X4_frames 73 dX4_accept_70 rfl fl_X4_56 (fun hr70 => ?_)
    rw [e10]
    refine s_if_ne 76 78 dX4_accept_73 rfl rfl (fun g2 => ?_) (fun g2 => ?_)
    rotate_left
    · refine s_iconst 77 dX4_accept_76 rfl ?_
      refine s_ireturn rfl dX4_accept_77 ?_
      have ea : accF c h pt = (5, lostF c h) := by
        unfold accF
        rw [if_neg (by omega), if_pos g2]
      rw [ea] at hp
      exact hp N2 R2 f1 f2 hy
    refine s_aload_n 79 dX4_accept_78 rfl rfl ?_
    refine g_X4_built 82 dX4_accept_79 rfl fl_X4_26 ?_
    refine g_X5_size 85 dX4_accept_82 rfl fl_X4_83 ?_
    rw [y4]
    refine s_iload_n 86 dX4_accept_85 rfl rfl ?_
    refine s_iadd 87 dX4_accept_86 rfl ?_
    refine s_bipush 89 dX4_accept_87 rfl (k := ?_)
    refine s_icmp_le 92 98 dX4_accept_89 rfl rfl (fun g3 => ?_) (fun g3 => ?_)
    · refine add N2 R2 (lostF c h) b2 f1 f2 hy wy (by omega) (by omega) ?_
      unfold accF
      rw [if_neg (by omega), if_neg g2, if_neg (by omega)]
    · refine s_aload_n 93 dX4_accept_92 rfl rfl ?_
      refine s_V0v 96 dX4_accept_93 rfl km_X4_tear ml_X4_80 ds_X4_tear (Nat.le_of_ble_eq_true rfl) (q_rec (by assumption)) rfl (q_tear hS hy wy (by omega) (fun N4 R4 k1 k2 k3 => ?_))
      refine ⟨rfl, ?_⟩
      refine s_iconst 97 dX4_accept_96 rfl ?_
      refine s_ireturn rfl dX4_accept_97 ?_
      have ea : accF c h pt = (5, tearF (lostF c h)) := by
        unfold accF
        rw [if_neg (by omega), if_neg g2, if_pos (by omega)]
      rw [ea] at hp
      exact hp N4 R4 (f1.trans k1 (by omega)) (f2.trans k2 (by omega)) k3
  obtain ⟨h1, h2, h3, h4⟩ := id hR
  have e7 : N x 7 = c.1 3 := h1.2 3 (by decide)
  have e8 : N x 8 = c.1 4 := h1.2 4 (by decide)
  have w3 := hw.2.2.2.1
  have w4 := hw.2.2.2.2.1
  refine s_aload_n 1 dX4_accept_0 rfl rfl ?_
  refine s_iconst 2 dX4_accept_1 rfl ?_
  refine s_V1i 5 dX4_accept_2 rfl km_X5_at ml_X4_76 ds_X5_at (Nat.le_of_ble_eq_true rfl) (q_recR (by assumption)) rfl (r_atK hz hpl (by decide) (fun hr => ?_))
  refine ⟨_, rfl, ?_⟩
  rw [show atF pl 0 = h from by rw [hh]; exact atF_in (k := 0) (by omega)]
  refine s_istore_n 6 dX4_accept_5 rfl (Nat.le_of_ble_eq_true rfl) rfl ?_
  refine s_iload_n 7 dX4_accept_6 rfl rfl ?_
  refine s_bipush 9 dX4_accept_7 rfl (k := ?_)
  refine s_iand 10 ((h % 16)) dX4_accept_9 rfl ((and_15 h)) ?_
  refine s_istore 12 dX4_accept_10 rfl (Nat.le_of_ble_eq_true rfl) rfl ?_
  refine s_iload 14 dX4_accept_12 rfl rfl ?_
  refine s_aload_n 15 dX4_accept_14 rfl rfl ?_
  refine g_X4_expected 18 dX4_accept_15 rfl fl_X4_47 (fun hr15 => ?_)
  rw [e7]
  -- what is expected next
  have last : ∀ (N2 : Nat → Nat → Int) (R2 : Nat → List Int) (y : CH) (b2 : Int), frO x (x + 1) N N2 → frO x (x + 17) R R2 → PoR N2 R2 x tl y → WfCh b2 y → b2 ≤ 91000000 → lostF c h = (up y.1 3 ((h + 1) % 16), y.2) → V G (AP G F) yX4_accept cX4_accept 5 (some .int) (d + 4) (T, N2, R2, P, S, cn, un) 44 [some (.ref x), some (.ref z), some (vi pt.length), some (vi h), some (vi (h % 16))] [] post := by
    intro N2 R2 y b2 f1 f2 hy wy hb2 el
    obtain ⟨y1, y2, y3, y4⟩ := id hy
    refine s_aload_n 45 dX4_accept_44 rfl rfl ?_
    refine s_iload 47 dX4_accept_45 rfl rfl ?_
    refine s_iconst 48 dX4_accept_47 rfl ?_
    refine s_iadd 49 dX4_accept_48 rfl ?_
    refine s_bipush 51 dX4_accept_49 rfl (k := ?_)
    refine s_iand 52 (((h + 1) % 16)) dX4_accept_51 rfl ((by rw [and_15]; congr 1; omega)) ?_
    refine p_X4_expected 55 dX4_accept_52 rfl fl_X4_47 ?_
    refine V_kill 4 (mid _ R2 (b + 16) (f1.up (by omega)) f2 ?_ (lostF_wf hw) (by omega))
    rw [el]
    exact ⟨by rw [up_s]; exact y1.up 3, y2, y3, y4⟩
  refine s_icmp_eq 21 44 dX4_accept_18 rfl rfl (fun g1 => ?_) (fun g1 => ?_)
  · exact last N R c b frO.rf frO.rf hR hw (by omega) (by unfold lostF; rw [if_pos (by omega)])
  · refine s_aload_n 22 dX4_accept_21 rfl rfl ?_
    refine s_dup (q := 23) (hd := dX4_accept_22) (hq := rfl) (k := ?_)
    refine g_X4_lost 26 dX4_accept_23 rfl fl_X4_50 (fun hr23 => ?_)
    rw [e8]
    refine s_iload 28 dX4_accept_26 rfl rfl ?_
    refine s_aload_n 29 dX4_accept_28 rfl rfl ?_
    refine g_X4_expected 32 dX4_accept_29 rfl fl_X4_47 (fun hr29 => ?_)
    rw [e7]
    refine s_isub 33 dX4_accept_32 rfl ?_
    refine s_bipush 35 dX4_accept_33 rfl (k := ?_)
    refine s_iand 36 (((h - c.1 3) % 16)) dX4_accept_35 rfl ((by rw [and_15]; congr 1; omega)) ?_
    refine s_iadd 37 dX4_accept_36 rfl ?_
    refine p_X4_lost 40 dX4_accept_37 rfl fl_X4_50 ?_
    have hput : PoR (up N x (up (N x) 8 (c.1 4 + (h - c.1 3) % 16))) R x tl (up c.1 4 (c.1 4 + (h - c.1 3) % 16), c.2) := ⟨by rw [up_s]; exact h1.up 4, h2, h3, h4⟩
    have hw2 : WfCh (b + 16) ((up c.1 4 (c.1 4 + (h - c.1 3) % 16), c.2) : CH) := by
      obtain ⟨q0, q1, q2, q3, q4, q5, q6, q7, q8, q9, q10, q11, q12, q13, q14⟩ := hw.mono (show b ≤ b + 16 by omega)
      refine ⟨q0, q1, q2, q3, ?_, q5, q6, q7, q8, q9, q10, q11, q12, q13, q14⟩
      show 0 ≤ up c.1 4 (c.1 4 + (h - c.1 3) % 16) 4 ∧ up c.1 4 (c.1 4 + (h - c.1 3) % 16) 4 ≤ b + 16
      rw [up_s]
      omega
    refine s_aload_n 41 dX4_accept_40 rfl rfl ?_
    refine s_V0v 44 dX4_accept_41 rfl km_X4_tear ml_X4_80 ds_X4_tear (Nat.le_of_ble_eq_true rfl) (q_rec (by assumption)) rfl (q_tear hS hput hw2 (by omega) (fun N4 R4 k1 k2 k3 => ?_))
    refine ⟨rfl, ?_⟩
    refine last N4 R4 _ (b + 17) ((frO.rf.up (by omega)).trans k1 (by omega)) k2 k3 ((tearF_wf hw2).mono (by omega)) (by omega) ?_
    unfold lostF
    rw [if_neg (by omega)]
theorem q_giveInto {x z : Nat} (hS : PoS T x) (hz : T z = 100 + 120) (hzx : z < x ∨ x + 17 ≤ z) (hR : PoR N R x tl c) (hw : WfCh b c) (hb : b ≤ 90000000) (h0 : 0 < c.2.2.1.length) (htl : rg tl) (hp : ∀ N' R', frO x (x + 1) N N' → (∀ y, y ≠ z → (y < x ∨ x + 17 ≤ y) → R' y = R y) → R' z = (c.2.2.1.getD 0 ([], 0)).1 → PoR N' R' x tl (up (up c.1 0 (min tl (c.1 0 + (c.2.2.1.getD 0 ([], 0)).2))) 7 (c.1 7 + 1), c.2.1, c.2.2.1.drop 1, c.2.2.2) → post none (T, N', R', P, S, cn, un)) : Cm G (AP G F) yX4_giveInto cX4_giveInto 2 none (d + 4) [.ref x, .ref z] (T, N, R, P, S, cn, un) post := by
  obtain ⟨t0, t1, t2, t3⟩ := hS
  obtain ⟨h1, h2, h3, h4⟩ := hR
  obtain ⟨w0, w1, w2, w3, w4, w5, w6, w7, w8, w9, w10, w11, w12, w13, w14⟩ := hw
  have e3 : N x 3 = tl := h1.1
  have e4 : N x 4 = c.1 0 := h1.2 0 (by decide)
  have e11 : N x 11 = c.1 7 := h1.2 7 (by decide)
  have a2 := t2.1
  have u2 := t2.2.1
  have hm := w11 _ (getD_mem (x := ([], 0)) h0)
  have hcat : c.2.2.1 = c.2.2.1.getD 0 ([], 0) :: c.2.2.1.drop 1 := by
    cases hq : c.2.2.1 with
    | nil => rw [hq] at h0; exact absurd h0 (by simp)
    | cons m t => rfl
  have hc1 : catF c.2.2.1 = (c.2.2.1.getD 0 ([], 0)).1 ++ catF (c.2.2.1.drop 1) := by
    conv => lhs; rw [hcat]
    rfl
  have hcl := catF_len (fun m hm => (w11 m hm).1)
  generalize hm0 : c.2.2.1.getD 0 ([], 0) = m0 at *
  refine Cm_intro (L := [some (.ref x), some (.ref z)]) (by decide +kernel) (Nat.le_of_ble_eq_true rfl) rfl ?_
  refine s_aload_n 1 dX4_giveInto_0 rfl rfl ?_
  refine s_V0v 4 dX4_giveInto_1 rfl km_X5_clear ml_X4_33 ds_X5_clear (Nat.le_of_ble_eq_true rfl) (q_recR (by assumption)) rfl (r_clear hz ?_)
  refine ⟨rfl, ?_⟩
  have h3' : MaR (up R z []) (x + 8) c.2.2.1 := by
    obtain ⟨q1, q2, q3⟩ := h3
    exact ⟨by rw [up_n (by omega)]; exact q1, by rw [up_n (by omega)]; exact q2, by rw [up_n (by omega)]; exact q3⟩
  refine s_aload_n 5 dX4_giveInto_4 rfl rfl ?_
  refine s_aload_n 6 dX4_giveInto_5 rfl rfl ?_
  refine g_X4_there 9 dX4_giveInto_6 rfl fl_X4_18 ?_
  refine g_X2_bytes 12 dX4_giveInto_9 rfl fl_X4_97 ?_
  refine s_iconst 13 dX4_giveInto_12 rfl ?_
  refine s_aload_n 14 dX4_giveInto_13 rfl rfl ?_
  refine g_X4_there 17 dX4_giveInto_14 rfl fl_X4_18 ?_
  refine s_V0i 20 dX4_giveInto_17 rfl km_X2_firstLength ml_X4_69 ds_X2_firstLength (Nat.le_of_ble_eq_true rfl) (q_rec (by assumption)) rfl (q_firstLength t2 h3' (fun m hm => (w11 m hm).1) ?_)
  refine ⟨_, rfl, ?_⟩
  rw [hm0]
  refine s_V3v 23 dX4_giveInto_20 rfl km_X5_addAll ml_X4_86 ds_X5_addAll (Nat.le_of_ble_eq_true rfl) (q_recR (by assumption)) rfl (r_addAllK hz (by omega) (by omega) (up_s _ _ _) h3'.1 (by omega) (by omega) (by rw [hc1, List.length_append]; omega) (by simp; omega) (by omega) ?_)
  refine ⟨rfl, ?_⟩
  rw [up_up, show ((0 : Int)).toNat = 0 from rfl, List.drop_zero, show ((m0.1.length : Int)).toNat = m0.1.length from rfl, hc1, List.take_left, List.nil_append]
  have h3'' : MaR (up R z m0.1) (x + 8) c.2.2.1 := by
    obtain ⟨q1, q2, q3⟩ := h3
    exact ⟨by rw [up_n (by omega)]; exact q1, by rw [up_n (by omega)]; exact q2, by rw [up_n (by omega)]; exact q3⟩
  refine s_aload_n 24 dX4_giveInto_23 rfl rfl ?_
  refine s_aload_n 25 dX4_giveInto_24 rfl rfl ?_
  refine g_X4_told 28 dX4_giveInto_25 rfl fl_X4_34 (fun hr25 => ?_)
  refine s_aload_n 29 dX4_giveInto_28 rfl rfl ?_
  refine g_X4_credits 32 dX4_giveInto_29 rfl fl_X4_38 (fun hr29 => ?_)
  rw [e3, e4]
  refine s_aload_n 33 dX4_giveInto_32 rfl rfl ?_
  refine g_X4_there 36 dX4_giveInto_33 rfl fl_X4_18 ?_
  refine s_V0i 39 dX4_giveInto_36 rfl km_X2_firstFrames ml_X4_100 ds_X2_firstFrames (Nat.le_of_ble_eq_true rfl) (q_rec (by assumption)) rfl (q_firstFrames t2 h3'' (fun m hm => by have := w11 m hm; omega) ?_)
  refine ⟨_, rfl, ?_⟩
  rw [hm0]
  refine s_iadd 40 dX4_giveInto_39 rfl ?_
  refine s_min (q := 43) (hd := dX4_giveInto_40) (hq := rfl) (hw := ml_X4_103) (hrest := Nat.le_of_ble_eq_true rfl) (k := ?_)
  refine p_X4_credits 46 dX4_giveInto_43 rfl fl_X4_38 ?_
  refine s_aload_n 47 dX4_giveInto_46 rfl rfl ?_
  refine g_X4_there 50 dX4_giveInto_47 rfl fl_X4_18 ?_
  refine s_V0v 53 dX4_giveInto_50 rfl km_X2_dropFirst ml_X4_73 ds_X2_dropFirst (Nat.le_of_ble_eq_true rfl) (q_rec (by assumption)) rfl (q_dropFirst t2 h3'' (fun m hm => (w11 m hm).1) h0 w10 (fun R1 m1 f1 => ?_))
  refine ⟨rfl, ?_⟩
  refine s_aload_n 54 dX4_giveInto_53 rfl rfl ?_
  refine s_dup (q := 55) (hd := dX4_giveInto_54) (hq := rfl) (k := ?_)
  refine g_X4_taken 58 dX4_giveInto_55 rfl fl_X4_59 (fun hr55 => ?_)
  rw [up_s, up_n (show (11 : Nat) ≠ 4 by decide), e11]
  refine s_iconst 59 dX4_giveInto_58 rfl ?_
  refine s_iadd 60 dX4_giveInto_59 rfl ?_
  refine p_X4_taken 63 dX4_giveInto_60 rfl fl_X4_59 ?_
  rw [up_in]
  refine s_return rfl dX4_giveInto_63 ?_
  refine hp _ R1 (frO.rf.up (by omega)) (fun y hy hy2 => ?_) ?_ ⟨?_, ?_, m1, ?_⟩
  · rw [f1 y (by omega), up_n hy]
  · rw [f1 z (by omega), up_s]
  · rw [up_s]
    exact (h1.up 0).up 7
  · refine MaR.fr ?_ f1 (by omega)
    obtain ⟨q1, q2, q3⟩ := h2
    exact ⟨by rw [up_n (by omega)]; exact q1, by rw [up_n (by omega)]; exact q2, by rw [up_n (by omega)]; exact q3⟩
  · rw [f1 (x + 15) (by omega), up_n (by omega)]
    exact h4
end PORT
