/-! ===== State: frames put, noise, counts ===== -/
section STH
variable {N : Nat → Nat → Int} {R : Nat → List Int} {x ch : Nat} {tl : Nat → Int} {s : ST}
theorem PoR.off {N' : Nat → Nat → Int} {R' : Nat → List Int} {y : Nat} {t : Int} {c : CH} (h : PoR N R y t c) (hN : N' y = N y) (hR : ∀ w, y < w → w < y + 17 → R' w = R w) : PoR N' R' y t c := by
  obtain ⟨p1, ⟨p2, p3, p4⟩, ⟨p5, p6, p7⟩, p8⟩ := h
  exact ⟨by rw [hN]; exact p1, ⟨by rw [hR _ (by omega) (by omega)]; exact p2, by rw [hR _ (by omega) (by omega)]; exact p3, by rw [hR _ (by omega) (by omega)]; exact p4⟩, ⟨by rw [hR _ (by omega) (by omega)]; exact p5, by rw [hR _ (by omega) (by omega)]; exact p6, by rw [hR _ (by omega) (by omega)]; exact p7⟩, by rw [hR _ (by omega) (by omega)]; exact p8⟩
theorem StR.wire {w : List Int} (h : StR N R x ch tl s) : StR N (up R (x + 1) w) x ch tl (w, s.2) := by
  obtain ⟨q1, q2, q3, q4, q5⟩ := h
  exact ⟨up_s _ _ _, by rw [up_n (by omega)]; exact q2, by rw [up_n (by omega)]; exact q3, q4, fun c hc => (q5 c hc).off rfl (fun w h1 h2 => up_n (by omega))⟩
theorem StR.port {N' : Nat → Nat → Int} {R' : Nat → List Int} {k : Nat} {c' : CH} (h : StR N R x ch tl s) (hk : k < ch) (f1 : frO (x + 7 + 1 + 17 * k) (x + 7 + 1 + 17 * k + 1) N N') (f2 : frO (x + 7 + 1 + 17 * k) (x + 7 + 1 + 17 * k + 17) R R') (hc : PoR N' R' (x + 7 + 1 + 17 * k) (tl k) c') : StR N' R' x ch tl (chS s k c') := by
  obtain ⟨q1, q2, q3, q4, q5⟩ := h
  refine ⟨by rw [f2 _ (by omega)]; exact q1, by rw [f2 _ (by omega)]; exact q2, by rw [f2 _ (by omega)]; exact q3, by rw [f1 x (by omega)]; exact q4, fun c hc2 => ?_⟩
  show PoR N' R' (x + 7 + 1 + 17 * c) (tl c) (up s.2.2.2.2 k c' c)
  by_cases e : c = k
  · subst e
    rw [up_s]
    exact hc
  · rw [up_n e]
    exact (q5 c hc2).off (f1 _ (by omega)) (fun w h1 h2 => f2 w (by omega))
theorem StR.num {g i : Nat → Int} (h : StR N R x ch tl s) (g3 : g 3 = i 2) (g4 : g 4 = i 1) (g6 : g 6 = ch) (g7 : g 7 = i 0) : StR (up N x g) R x ch tl (s.1, s.2.1, i, s.2.2.2) := by
  obtain ⟨q1, q2, q3, q4, q5⟩ := h
  refine ⟨q1, q2, q3, by rw [up_s]; exact ⟨g3, g4, g6, g7⟩, fun c hc => (q5 c hc).off (up_n (by omega)) (fun w _ _ => rfl)⟩
end STH
section STATE2
variable {G : GT} {F : HS} {d : Nat} {T : Nat → Nat} {N : Nat → Nat → Int} {R : Nat → List Int} {P : Nat → Nat → Option Nat} {S : Nat → Int64} {cn un : Nat} {post : Option Value → PT → Prop} {ru : RU} {x f ch : Nat} {tl : Nat → Int} {s : ST} {b : Int}
theorem q_putFrame (hS : StS T x) (hF : FrS T f) (hne : x + 76 ≤ f ∨ f + 10 ≤ x) (hru : RuP N (f + 1) ru) (hwr : WfRu ru) (hch : ch = (ru 5).toNat) (hR : StR N R x ch tl s) (hw : WfSt b ch s) (hp1 : canF ru s → ∀ N' R', fr2 x (x + 76) f (f + 1) N N' → fr2 x (x + 76) (f + 4) (f + 10) R R' → StR N' R' x ch tl (putF ru s) → post (some (vb true)) (T, N', R', P, S, cn, un)) (hp0 : ¬ canF ru s → ∀ R', frO (f + 4) (f + 10) R R' → post (some (vb false)) (T, N, R', P, S, cn, un)) : Cm G (AP G F) yX7_putFrame cX7_putFrame 5 (some .boolean) (d + 5) [.ref x, .ref f] (T, N, R, P, S, cn, un) post := by
  obtain ⟨t0, t1, t2, t3, t4, t5⟩ := id hS
  obtain ⟨u0, u1, u2, u3, u4⟩ := id hF
  obtain ⟨q1, q2, q3, ⟨q4, q5, q6, q7⟩, q8⟩ := id hR
  have h5 := hwr.2.2.2.2.2
  have hpk := pickF_ok (s := s) (ch := ch) hw.2.2.2.2.2.2.1.1 (by omega)
  have hwl := hw.1
  refine Cm_intro (L := [some (.ref x), some (.ref f), none, none, none]) (by decide +kernel) (Nat.le_of_ble_eq_true rfl) rfl ?_
  refine s_aload_n 1 dX7_putFrame_0 rfl rfl ?_
  refine s_V0i 4 dX7_putFrame_1 rfl km_X7_pick ml_X7_84 ds_X7_pick (Nat.le_of_ble_eq_true rfl) (q_rec (by assumption)) rfl (q_pick hS hR hw (by omega) ?_)
  refine ⟨_, rfl, ?_⟩
  refine s_istore_n 5 dX7_putFrame_4 rfl (Nat.le_of_ble_eq_true rfl) rfl ?_
  rcases hpk with e | ⟨e1, e2, e3, e4⟩
  · rw [e]
    refine s_aload_n 6 dX7_putFrame_5 rfl rfl ?_
    refine s_iload_n 7 dX7_putFrame_6 rfl rfl ?_
    refine s_V1n 10 dX7_putFrame_7 rfl km_X7_portAt ml_X7_87 ds_X7_portAt (Nat.le_of_ble_eq_true rfl) (q_rec (by assumption)) rfl (q_portAt hS q6 (by omega) (by decide) (fun g1 g2 => absurd g1 (by decide)) (fun g => ?_))
    refine ⟨_, rfl, ?_⟩
    refine s_astore_nN 11 dX7_putFrame_10 rfl (Nat.le_of_ble_eq_true rfl) rfl ?_
    refine s_aload_nN 12 dX7_putFrame_11 rfl rfl ?_
    refine s_ifnonnullN 15 dX7_putFrame_12 rfl ?_
    refine s_iconst 16 dX7_putFrame_15 rfl ?_
    first | refine s_zreturn rfl dX7_putFrame_16 ?_ | refine s_zreturn1 rfl dX7_putFrame_16 ?_ | refine s_zreturn0 rfl dX7_putFrame_16 ?_
    exact hp0 (fun h => h.1 (by rw [← hch]; exact e)) R frO.rf
  obtain ⟨k, hk⟩ := Int.eq_ofNat_of_zero_le e1
  rw [hk] at e2 e3 e4 ⊢
  have e3 : 0 < (s.2.2.2.2 k).2.1.length := e3
  have e4 : 0 < (s.2.2.2.2 k).1 0 := e4
  have hkc : k < ch := by omega
  have hx := q8 k hkc
  have hwx := hw.2.2.2.2.2.2.2.2.2.2 k hkc
  have hPo := t5 k (by omega)
  have a0 := hPo.1
  have hfo := frmF_ok (ru := ru) (k := (k : Int)) hwx hwr (by omega) e3
  have hcan : canF ru s ↔ s.1.length + (frmF ru k (s.2.2.2.2 k)).length + 1 ≤ 600 := by
    unfold canF
    rw [← hch, hk]
    exact ⟨fun h => h.2, fun h => ⟨by omega, h⟩⟩
  have hput : putF ru s = (s.1 ++ frmF ru k (s.2.2.2.2 k) ++ [0], s.2.1, up s.2.2.1 1 k, s.2.2.2.1, up s.2.2.2.2 k (wasF ru (s.2.2.2.2 k))) := by
    unfold putF
    rw [← hch, hk]
    rfl
  refine s_aload_n 6 dX7_putFrame_5 rfl rfl ?_
  refine s_iload_n 7 dX7_putFrame_6 rfl rfl ?_
  refine s_V1n 10 dX7_putFrame_7 rfl km_X7_portAt ml_X7_87 ds_X7_portAt (Nat.le_of_ble_eq_true rfl) (q_rec (by assumption)) rfl (q_portAt hS q6 (by omega) (by constructor <;> omega) (fun g1 g2 => ?_) (fun g => absurd ⟨by omega, by omega⟩ g))
  refine ⟨_, rfl, ?_⟩
  rw [show ((k : Int)).toNat = k from rfl]
  refine s_astore_n 11 dX7_putFrame_10 rfl (Nat.le_of_ble_eq_true rfl) rfl ?_
  refine s_aload_n 12 dX7_putFrame_11 rfl rfl ?_
  refine s_ifnonnull 17 dX7_putFrame_12 rfl ?_
  refine s_aload_n 18 dX7_putFrame_17 rfl rfl ?_
  refine s_aload_n 19 dX7_putFrame_18 rfl rfl ?_
  refine s_iload_n 20 dX7_putFrame_19 rfl rfl ?_
  refine s_V2i 23 dX7_putFrame_20 rfl km_X1_make ml_X7_91 ds_X1_make (Nat.le_of_ble_eq_true rfl) (q_rec (by assumption)) rfl (q_make hF hPo (by omega) hru hwr hx hwx e3 (by omega) (fun R1 f1 f2 => ?_))
  refine ⟨_, rfl, ?_⟩
  refine s_istore 25 dX7_putFrame_23 rfl (Nat.le_of_ble_eq_true rfl) rfl ?_
  have w1 : R1 (x + 1) = s.1 := (f1 _ (by omega)).trans q1
  refine s_aload_n 26 dX7_putFrame_25 rfl rfl ?_
  refine g_X7_wire 29 dX7_putFrame_26 rfl fl_X7_14 ?_
  refine g_X5_size 32 dX7_putFrame_29 rfl fl_X7_97 ?_
  refine s_aload_n 33 dX7_putFrame_32 rfl rfl ?_
  refine g_X1_packed 36 dX7_putFrame_33 rfl fl_X7_100 ?_
  refine g_X5_size 39 dX7_putFrame_36 rfl fl_X7_97 ?_
  rw [w1, f2]
  refine s_iadd 40 dX7_putFrame_39 rfl ?_
  refine s_iconst 41 dX7_putFrame_40 rfl ?_
  refine s_iadd 42 dX7_putFrame_41 rfl ?_
  refine s_sipush 45 dX7_putFrame_42 rfl (k := ?_)
  refine s_icmp_le 48 50 dX7_putFrame_45 rfl rfl (fun g1 => ?_) (fun g1 => ?_)
  rotate_left
  · refine s_iconst 49 dX7_putFrame_48 rfl ?_
    first | refine s_zreturn rfl dX7_putFrame_49 ?_ | refine s_zreturn1 rfl dX7_putFrame_49 ?_ | refine s_zreturn0 rfl dX7_putFrame_49 ?_
    exact hp0 (fun h => by have := hcan.mp h; omega) R1 f1
  have hcn := hcan.mpr (by omega)
  refine s_aload_n 51 dX7_putFrame_50 rfl rfl ?_
  refine g_X7_wire 54 dX7_putFrame_51 rfl fl_X7_14 ?_
  refine s_aload_n 55 dX7_putFrame_54 rfl rfl ?_
  refine g_X1_packed 58 dX7_putFrame_55 rfl fl_X7_100 ?_
  refine s_iconst 59 dX7_putFrame_58 rfl ?_
  refine s_aload_n 60 dX7_putFrame_59 rfl rfl ?_
  refine g_X1_packed 63 dX7_putFrame_60 rfl fl_X7_100 ?_
  refine g_X5_size 66 dX7_putFrame_63 rfl fl_X7_97 ?_
  rw [f2]
  refine s_V3v 69 dX7_putFrame_66 rfl km_X5_addAll ml_X7_103 ds_X5_addAll (Nat.le_of_ble_eq_true rfl) (q_recR (by assumption)) rfl (r_addAllK t1 (by omega) (by omega) w1 f2 (by omega) (by omega) (by omega) (by omega) (by omega) ?_)
  refine ⟨rfl, ?_⟩
  rw [show ((0 : Int)).toNat = 0 from rfl, List.drop_zero, show (((frmF ru k (s.2.2.2.2 k)).length : Int)).toNat = (frmF ru k (s.2.2.2.2 k)).length from rfl, List.take_length]
  refine s_aload_n 70 dX7_putFrame_69 rfl rfl ?_
  refine g_X7_wire 73 dX7_putFrame_70 rfl fl_X7_14 ?_
  refine s_iconst 74 dX7_putFrame_73 rfl ?_
  refine s_V1v 77 dX7_putFrame_74 rfl km_X5_add ml_X7_107 ds_X5_add (Nat.le_of_ble_eq_true rfl) (q_recR (by assumption)) rfl (r_addK t1 (up_s _ _ _) (by rw [List.length_append]; omega) (by decide) ?_)
  refine ⟨rfl, ?_⟩
  rw [up_up]
  have hR1 : StR N R1 x ch tl s := hR.fr (by omega) (a := 0) (b := 0) frO.rf f1 (by omega) (by omega)
  have hR2 := hR1.wire (w := s.1 ++ frmF ru k (s.2.2.2.2 k) ++ [0])
  have hx2 := hR2.2.2.2.2 k hkc
  refine s_aload_n 78 dX7_putFrame_77 rfl rfl ?_
  refine s_iload 80 dX7_putFrame_78 rfl rfl ?_
  refine s_V1v 83 dX7_putFrame_80 rfl km_X4_frameWasPut ml_X7_110 ds_X4_frameWasPut (Nat.le_of_ble_eq_true rfl) (q_rec (by assumption)) rfl (q_wasPut hPo hx2 hwx hwr e3 e4 (fun N3 R3 k1 k2 k3 => ?_))
  refine ⟨rfl, ?_⟩
  have hR3 := hR2.port hkc k1 k2 k3
  refine s_aload_n 84 dX7_putFrame_83 rfl rfl ?_
  refine s_iload_n 85 dX7_putFrame_84 rfl rfl ?_
  refine p_X7_picked 88 dX7_putFrame_85 rfl fl_X7_26 ?_
  refine s_iconst 89 dX7_putFrame_88 rfl ?_
  first | refine s_zreturn rfl dX7_putFrame_89 ?_ | refine s_zreturn1 rfl dX7_putFrame_89 ?_ | refine s_zreturn0 rfl dX7_putFrame_89 ?_
  refine hp1 hcn _ _ ?_ ?_ ?_
  · exact fun y h1 h2 => by rw [up_n (by omega), k1 y (by omega)]
  · intro y h1 h2
    rw [k2 y (by omega), up_n (by omega), f1 y (by omega)]
  · rw [hput]
    obtain ⟨z1, z2, z3, ⟨z4, z5, z6, z7⟩, z8⟩ := id hR3
    exact hR3.num (i := up s.2.2.1 1 (k : Int)) (by rw [up_n (by decide)]; exact z4) (by rw [up_s, up_s]) (by rw [up_n (by decide)]; exact z6) (by rw [up_n (by decide)]; exact z7)
theorem q_putFrames {n0 : Nat} (hn0 : n0 ≤ 60) (hS : StS T x) (hF : FrS T f) (hne : x + 76 ≤ f ∨ f + 10 ≤ x) (hru : RuP N (f + 1) ru) (hwr : WfRu ru) (hch : ch = (ru 5).toNat) (hR : StR N R x ch tl s) (hw : WfSt b ch s) (hp : ∀ N' R', fr2 x (x + 76) f (f + 1) N N' → fr2 x (x + 76) (f + 4) (f + 10) R R' → StR N' R' x ch tl (putN ru n0 s).2 → post (some (vi (putN ru n0 s).1)) (T, N', R', P, S, cn, un)) : Cm G (AP G F) yX7_putFrames cX7_putFrames 4 (some .int) (d + 6) [.ref x, vi n0, .ref f] (T, N, R, P, S, cn, un) post := by
  have t0 := hS.1
  have h5 := hwr.2.2.2.2.2
  refine Cm_intro (L := [some (.ref x), some (vi n0), some (.ref f), none]) (by decide +kernel) (Nat.le_of_ble_eq_true rfl) rfl ?_
  refine s_iconst 1 dX7_putFrames_0 rfl ?_
  refine s_istore_n 2 dX7_putFrames_1 rfl (Nat.le_of_ble_eq_true rfl) rfl ?_
  have key : ∀ (m k : Nat) (N2 : Nat → Nat → Int) (R2 : Nat → List Int) (s2 : ST), k + m = n0 → fr2 x (x + 76) f (f + 1) N N2 → fr2 x (x + 76) (f + 4) (f + 10) R R2 → StR N2 R2 x ch tl s2 → WfSt b ch s2 → putN ru n0 s = ((putN ru m s2).1 + k, (putN ru m s2).2) → V G (AP G F) yX7_putFrames cX7_putFrames 4 (some .int) (d + 6) (T, N2, R2, P, S, cn, un) 2 [some (.ref x), some (vi n0), some (.ref f), some (vi k)] [] post := by
    intro m
    induction m with
    | zero =>
      intro k N2 R2 s2 hk f1 f2 f3 f4 f5
      refine s_iload_n 3 dX7_putFrames_2 rfl rfl ?_
      refine s_iload_n 4 dX7_putFrames_3 rfl rfl ?_
      refine s_icmp_ge 7 21 dX7_putFrames_4 rfl rfl (fun g => ?_) (fun g => ?_)
      rotate_left
      · omega
      refine s_iload_n 22 dX7_putFrames_21 rfl rfl ?_
      refine s_ireturn rfl dX7_putFrames_22 ?_
      rw [f5, putN] at hp
      have hp := hp N2 R2 f1 f2 f3
      rw [show ((((0, s2) : Nat × ST).1 + k : Nat) : Int) = (k : Int) by show ((0 + k : Nat) : Int) = k; omega] at hp
      exact hp
    | succ m ih =>
      intro k N2 R2 s2 hk f1 f2 f3 f4 f5
      refine s_iload_n 3 dX7_putFrames_2 rfl rfl ?_
      refine s_iload_n 4 dX7_putFrames_3 rfl rfl ?_
      refine s_icmp_ge 7 21 dX7_putFrames_4 rfl rfl (fun g => ?_) (fun g => ?_)
      · omega
      refine s_aload_n 8 dX7_putFrames_7 rfl rfl ?_
      refine s_aload_n 9 dX7_putFrames_8 rfl rfl ?_
      refine s_V1b 12 dX7_putFrames_9 rfl km_X7_putFrame ml_X7_80 ds_X7_putFrame (Nat.le_of_ble_eq_true rfl) (q_rec (by assumption)) rfl (q_putFrame hS hF hne (hru.f2 f1 (by omega) (by omega)) hwr hch f3 f4 (fun hc N3 R3 k1 k2 k3 => ?_) (fun hc R3 k1 => ?_))
      refine ⟨_, rfl, ?_⟩
      · refine s_if_eqb 15 21 dX7_putFrames_12 rfl rfl (fun g2 => ?_) (fun g2 => ?_)
        · exact absurd g2 (by decide)
        refine s_iinc 18 dX7_putFrames_15 rfl rfl (Nat.le_of_ble_eq_true rfl) rfl ?_
        refine s_goto 2 dX7_putFrames_18 rfl ?_
        refine ih (k + 1) N3 R3 (putF ru s2) (by omega) (f1.trans k1) (f2.trans k2) k3 (putF_wf f4 hwr hch hc) ?_
        rw [f5, putN_y hc, Nat.add_assoc, Nat.add_comm 1 k]
      · refine ⟨_, rfl, ?_⟩
        refine s_if_eqb 15 21 dX7_putFrames_12 rfl rfl (fun g2 => ?_) (fun g2 => ?_)
        rotate_left
        · exact absurd g2 (by decide)
        refine s_iload_n 22 dX7_putFrames_21 rfl rfl ?_
        refine s_ireturn rfl dX7_putFrames_22 ?_
        rw [f5, putN_n hc] at hp
        have hp := hp N2 R3 f1 (f2.trans (fr2.r k1 (by omega))) (f3.fr (by omega) (a := 0) (b := 0) frO.rf k1 (by omega) (by omega))
        rw [show ((((0, s2) : Nat × ST).1 + k : Nat) : Int) = (k : Int) by show ((0 + k : Nat) : Int) = k; omega] at hp
        exact hp
  exact key n0 0 N R s (by omega) fr2.rf fr2.rf hR hw rfl
theorem q_disturb {y : Nat} (hS : StS T x) (hy : T y = 1) (hR : R (x + 1) = s.1) (hw : WfSt b ch s) (hp : ∀ R', frO (x + 1) (x + 2) R R' → R' (x + 1) = (noiF (S y) s.1).2.2 → post (some (vb (noiF (S y) s.1).1)) (T, N, R', P, up S y (noiF (S y) s.1).2.1, cn, un)) : Cm G (AP G F) yX7_disturb cX7_disturb 4 (some .boolean) (d + 3) [.ref x, .ref y] (T, N, R, P, S, cn, un) post := by
  obtain ⟨t0, t1, t2, t3, t4, t5⟩ := id hS
  have hl := hw.1
  have hb := hw.2.1
  have hd3 := dv_rg (D := dn (S y)) (m := 3) (by omega)
  unfold noiF at hp
  refine Cm_intro (L := [some (.ref x), some (.ref y), none, none]) (by decide +kernel) (Nat.le_of_ble_eq_true rfl) rfl ?_
  refine s_aload_n 1 dX7_disturb_0 rfl rfl ?_
  refine s_iconst 2 dX7_disturb_1 rfl ?_
  refine s_V1i 5 dX7_disturb_2 rfl km_X0_draw ml_X7_113 ds_X0_draw (Nat.le_of_ble_eq_true rfl) (q_rec (by assumption)) rfl (q_draw hy (by omega) ?_)
  refine ⟨_, rfl, ?_⟩
  have e1 : dn (up S y (dn (S y)) y) = dn (dn (S y)) := by rw [up_s]
  generalize dv (dn (S y)) 3 = d3 at *
  refine s_istore_n 6 dX7_disturb_5 rfl (Nat.le_of_ble_eq_true rfl) rfl ?_
  refine s_iload_n 7 dX7_disturb_6 rfl rfl ?_
  refine s_iconst 8 dX7_disturb_7 rfl ?_
  refine s_icmp_ne 11 59 dX7_disturb_8 rfl rfl (fun g1 => ?_) (fun g1 => ?_)
  rotate_left
  · rw [if_pos g1] at hp
    refine s_aload_n 12 dX7_disturb_11 rfl rfl ?_
    refine g_X7_wire 15 dX7_disturb_12 rfl fl_X7_14 ?_
    refine g_X5_size 18 dX7_disturb_15 rfl fl_X7_97 ?_
    rw [hR]
    refine s_sipush 21 dX7_disturb_18 rfl (k := ?_)
    refine s_icmp_lt 24 26 dX7_disturb_21 rfl rfl (fun g2 => ?_) (fun g2 => ?_)
    rotate_left
    · refine s_iconst 25 dX7_disturb_24 rfl ?_
      first | refine s_zreturn rfl dX7_disturb_25 ?_ | refine s_zreturn1 rfl dX7_disturb_25 ?_ | refine s_zreturn0 rfl dX7_disturb_25 ?_
      rw [if_pos (by omega)] at hp
      exact hp R frO.rf hR
    rw [if_neg (by omega)] at hp
    have hd1 := dv_rg (D := dn (dn (S y))) (m := (s.1.length : Int) + 1) (by omega)
    have hd2 := dv_rg (D := dn (dn (dn (S y)))) (m := 255) (by omega)
    refine s_aload_n 27 dX7_disturb_26 rfl rfl ?_
    refine s_aload_n 28 dX7_disturb_27 rfl rfl ?_
    refine g_X7_wire 31 dX7_disturb_28 rfl fl_X7_14 ?_
    refine g_X5_size 34 dX7_disturb_31 rfl fl_X7_97 ?_
    rw [hR]
    refine s_iconst 35 dX7_disturb_34 rfl ?_
    refine s_iadd 36 dX7_disturb_35 rfl ?_
    refine s_V1i 39 dX7_disturb_36 rfl km_X0_draw ml_X7_113 ds_X0_draw (Nat.le_of_ble_eq_true rfl) (q_rec (by assumption)) rfl (q_draw hy (by omega) ?_)
    refine ⟨_, rfl, ?_⟩
    rw [up_s, up_up]
    generalize dv (dn (dn (S y))) ((s.1.length : Int) + 1) = d1 at *
    refine s_istore_n 40 dX7_disturb_39 rfl (Nat.le_of_ble_eq_true rfl) rfl ?_
    refine s_aload_n 41 dX7_disturb_40 rfl rfl ?_
    refine g_X7_wire 44 dX7_disturb_41 rfl fl_X7_14 ?_
    refine s_iload_n 45 dX7_disturb_44 rfl rfl ?_
    refine s_aload_n 46 dX7_disturb_45 rfl rfl ?_
    refine s_sipush 49 dX7_disturb_46 rfl (k := ?_)
    refine s_V1i 52 dX7_disturb_49 rfl km_X0_draw ml_X7_113 ds_X0_draw (Nat.le_of_ble_eq_true rfl) (q_rec (by assumption)) rfl (q_draw hy (by omega) ?_)
    refine ⟨_, rfl, ?_⟩
    rw [up_s, up_up]
    generalize dv (dn (dn (dn (S y)))) 255 = d2 at *
    refine s_iconst 53 dX7_disturb_52 rfl ?_
    refine s_iadd 54 dX7_disturb_53 rfl ?_
    refine s_V2v 57 dX7_disturb_54 rfl km_X5_insertAt ml_X7_119 ds_X5_insertAt (Nat.le_of_ble_eq_true rfl) (q_recR (by assumption)) rfl (r_insertAt t1 (by constructor <;> omega) (by constructor <;> omega) ?_)
    refine ⟨rfl, ?_⟩
    rw [hR, if_pos ⟨by omega, by omega, by omega⟩]
    refine s_iconst 58 dX7_disturb_57 rfl ?_
    first | refine s_zreturn rfl dX7_disturb_58 ?_ | refine s_zreturn1 rfl dX7_disturb_58 ?_ | refine s_zreturn0 rfl dX7_disturb_58 ?_
    exact hp _ (frO.rf.up (by omega)) (up_s _ _ _)
  rw [if_neg g1] at hp
  refine s_aload_n 60 dX7_disturb_59 rfl rfl ?_
  refine g_X7_wire 63 dX7_disturb_60 rfl fl_X7_14 ?_
  refine g_X5_size 66 dX7_disturb_63 rfl fl_X7_97 ?_
  rw [hR]
  refine s_if_ne 69 71 dX7_disturb_66 rfl rfl (fun g2 => ?_) (fun g2 => ?_)
  rotate_left
  · refine s_iconst 70 dX7_disturb_69 rfl ?_
    first | refine s_zreturn rfl dX7_disturb_70 ?_ | refine s_zreturn1 rfl dX7_disturb_70 ?_ | refine s_zreturn0 rfl dX7_disturb_70 ?_
    rw [if_pos (by omega)] at hp
    exact hp R frO.rf hR
  rw [if_neg (by omega)] at hp
  have hd1 := dv_rg (D := dn (dn (S y))) (m := (s.1.length : Int)) (by omega)
  refine s_aload_n 72 dX7_disturb_71 rfl rfl ?_
  refine s_aload_n 73 dX7_disturb_72 rfl rfl ?_
  refine g_X7_wire 76 dX7_disturb_73 rfl fl_X7_14 ?_
  refine g_X5_size 79 dX7_disturb_76 rfl fl_X7_97 ?_
  rw [hR]
  refine s_V1i 82 dX7_disturb_79 rfl km_X0_draw ml_X7_113 ds_X0_draw (Nat.le_of_ble_eq_true rfl) (q_rec (by assumption)) rfl (q_draw hy (by omega) ?_)
  refine ⟨_, rfl, ?_⟩
  rw [up_s, up_up]
  generalize dv (dn (dn (S y))) (s.1.length : Int) = d1 at *
  obtain ⟨i, rfl⟩ := Int.eq_ofNat_of_zero_le hd1.1
  refine s_istore_n 83 dX7_disturb_82 rfl (Nat.le_of_ble_eq_true rfl) rfl ?_
  refine s_iload_n 84 dX7_disturb_83 rfl rfl ?_
  refine s_if_ne 87 116 dX7_disturb_84 rfl rfl (fun g3 => ?_) (fun g3 => ?_)
  · rw [if_pos (by omega)] at hp
    refine s_aload_n 117 dX7_disturb_116 rfl rfl ?_
    refine g_X7_wire 120 dX7_disturb_117 rfl fl_X7_14 ?_
    refine s_iload_n 121 dX7_disturb_120 rfl rfl ?_
    refine s_V1v 124 dX7_disturb_121 rfl km_X5_removeAt ml_X7_129 ds_X5_removeAt (Nat.le_of_ble_eq_true rfl) (q_recR (by assumption)) rfl (r_removeAt t1 (by constructor <;> omega) ?_)
    refine ⟨rfl, ?_⟩
    rw [hR, if_pos ⟨by omega, by omega⟩]
    refine s_iconst 125 dX7_disturb_124 rfl ?_
    first | refine s_zreturn rfl dX7_disturb_125 ?_ | refine s_zreturn1 rfl dX7_disturb_125 ?_ | refine s_zreturn0 rfl dX7_disturb_125 ?_
    exact hp _ (frO.rf.up (by omega)) (up_s _ _ _)
  · rw [if_neg (by omega)] at hp
    have hd2 := dv_rg (D := dn (dn (dn (S y)))) (m := 255) (by omega)
    have hby := byt_at hb i
    refine s_aload_n 88 dX7_disturb_87 rfl rfl ?_
    refine g_X7_wire 91 dX7_disturb_88 rfl fl_X7_14 ?_
    refine s_iload_n 92 dX7_disturb_91 rfl rfl ?_
    refine s_aload_n 93 dX7_disturb_92 rfl rfl ?_
    refine g_X7_wire 96 dX7_disturb_93 rfl fl_X7_14 ?_
    refine s_iload_n 97 dX7_disturb_96 rfl rfl ?_
    refine s_V1i 100 dX7_disturb_97 rfl km_X5_at ml_X7_123 ds_X5_at (Nat.le_of_ble_eq_true rfl) (q_recR (by assumption)) rfl (r_atK t1 hR (by constructor <;> omega) (fun hr => ?_))
    refine ⟨_, rfl, ?_⟩
    rw [atF_in (by omega)] at hr ⊢
    refine s_aload_n 101 dX7_disturb_100 rfl rfl ?_
    refine s_sipush 104 dX7_disturb_101 rfl (k := ?_)
    refine s_V1i 107 dX7_disturb_104 rfl km_X0_draw ml_X7_113 ds_X0_draw (Nat.le_of_ble_eq_true rfl) (q_rec (by assumption)) rfl (q_draw hy (by omega) ?_)
    refine ⟨_, rfl, ?_⟩
    rw [up_s, up_up]
    generalize dv (dn (dn (dn (S y)))) 255 = d2 at *
    have hxr := xr_rg hby (show 0 ≤ d2 + 1 ∧ d2 + 1 ≤ 255 by omega)
    refine s_iconst 108 dX7_disturb_107 rfl ?_
    refine s_iadd 109 dX7_disturb_108 rfl ?_
    refine s_ixor 110 ((xr (s.1.getD i 0) (d2 + 1))) dX7_disturb_109 rfl ((xor_xr hby.1 (by omega))) ?_
    refine s_V2v 113 dX7_disturb_110 rfl km_X5_set ml_X7_126 ds_X5_set (Nat.le_of_ble_eq_true rfl) (q_recR (by assumption)) rfl (r_setK t1 hR (by omega) (by constructor <;> omega) (by constructor <;> omega) ?_)
    refine ⟨rfl, ?_⟩
    refine s_goto 124 dX7_disturb_113 rfl ?_
    refine s_iconst 125 dX7_disturb_124 rfl ?_
    first | refine s_zreturn rfl dX7_disturb_125 ?_ | refine s_zreturn1 rfl dX7_disturb_125 ?_ | refine s_zreturn0 rfl dX7_disturb_125 ?_
    exact hp _ (frO.rf.up (by omega)) (up_s _ _ _)
/-- sums over ports -/
theorem q_there (hS : StS T x) (hR : StR N R x ch tl s) (hw : WfSt b ch s) (hc4 : ch ≤ 4) (hp : post (some (vi (theF s ch))) (T, N, R, P, S, cn, un)) : Cm G (AP G F) yX7_messagesThere cX7_messagesThere 3 (some .int) (d + 1) [.ref x] (T, N, R, P, S, cn, un) post := by
  obtain ⟨t0, t1, t2, t3, t4, t5⟩ := id hS
  obtain ⟨q1, q2, q3, ⟨q4, q5, q6, q7⟩, q8⟩ := id hR
  refine Cm_intro (L := [some (.ref x), none, none]) (by decide +kernel) (Nat.le_of_ble_eq_true rfl) rfl ?_
  refine s_iconst 1 dX7_messagesThere_0 rfl ?_
  refine s_istore_n 2 dX7_messagesThere_1 rfl (Nat.le_of_ble_eq_true rfl) rfl ?_
  refine s_iconst 3 dX7_messagesThere_2 rfl ?_
  refine s_istore_n 4 dX7_messagesThere_3 rfl (Nat.le_of_ble_eq_true rfl) rfl ?_
  have key : ∀ (m k : Nat), k + m = ch → V G (AP G F) yX7_messagesThere cX7_messagesThere 3 (some .int) (d + 1) (T, N, R, P, S, cn, un) 4 [some (.ref x), some (vi (sumC (fun c => ((s.2.2.2.2 c).2.2.1.length : Int)) k)), some (vi k)] [] post := by
    intro m
    induction m with
    | zero =>
      intro k hk
      refine s_iload_n 5 dX7_messagesThere_4 rfl rfl ?_
      refine s_aload_n 6 dX7_messagesThere_5 rfl rfl ?_
      refine g_X7_portCount 9 dX7_messagesThere_6 rfl fl_X7_51 (fun hr6 => ?_)
      rw [q6]
      refine s_icmp_ge 12 33 dX7_messagesThere_9 rfl rfl (fun g => ?_) (fun g => ?_)
      rotate_left
      · omega
      refine s_iload_n 34 dX7_messagesThere_33 rfl rfl ?_
      refine s_ireturn rfl dX7_messagesThere_34 ?_
      rw [show k = ch by omega]
      exact hp
    | succ m ih =>
      intro k hk
      obtain ⟨a0, a1, a2, a3⟩ := t5 k (by omega)
      have b2 := a2.1
      refine s_iload_n 5 dX7_messagesThere_4 rfl rfl ?_
      refine s_aload_n 6 dX7_messagesThere_5 rfl rfl ?_
      refine g_X7_portCount 9 dX7_messagesThere_6 rfl fl_X7_51 (fun hr6 => ?_)
      rw [q6]
      refine s_icmp_ge 12 33 dX7_messagesThere_9 rfl rfl (fun g => ?_) (fun g => ?_)
      · omega
      refine s_iload_n 13 dX7_messagesThere_12 rfl rfl ?_
      refine s_aload_n 14 dX7_messagesThere_13 rfl rfl ?_
      refine g_X7_ports 17 dX7_messagesThere_14 rfl fl_X7_32 ?_
      refine s_iload_n 18 dX7_messagesThere_17 rfl rfl ?_
      refine q_port 19 dX7_messagesThere_18 rfl ?_
      rw [show ((k : Int)).toNat = k from rfl]
      refine g_X4_there 22 dX7_messagesThere_19 rfl fl_X7_162 ?_
      refine s_V0i 25 dX7_messagesThere_22 rfl km_X2_many ml_X7_72 ds_X2_many (Nat.le_of_ble_eq_true rfl) (q_rec (by assumption)) rfl (q_many a2 (q8 k (by omega)).2.2.1 ?_)
      refine ⟨_, rfl, ?_⟩
      refine s_iadd 26 dX7_messagesThere_25 rfl ?_
      refine s_istore_n 27 dX7_messagesThere_26 rfl (Nat.le_of_ble_eq_true rfl) rfl ?_
      refine s_iinc 30 dX7_messagesThere_27 rfl rfl (Nat.le_of_ble_eq_true rfl) rfl ?_
      refine s_goto 4 dX7_messagesThere_30 rfl ?_
      exact ih (k + 1) (by omega)
  exact key ch 0 (by omega)
theorem q_waiting (hS : StS T x) (hR : StR N R x ch tl s) (hw : WfSt b ch s) (hc4 : ch ≤ 4) (hp : post (some (vi (sumC (fun c => ((s.2.2.2.2 c).2.1.length : Int)) ch))) (T, N, R, P, S, cn, un)) : Cm G (AP G F) yX7_messagesWaiting cX7_messagesWaiting 3 (some .int) (d + 1) [.ref x] (T, N, R, P, S, cn, un) post := by
  obtain ⟨t0, t1, t2, t3, t4, t5⟩ := id hS
  obtain ⟨q1, q2, q3, ⟨q4, q5, q6, q7⟩, q8⟩ := id hR
  refine Cm_intro (L := [some (.ref x), none, none]) (by decide +kernel) (Nat.le_of_ble_eq_true rfl) rfl ?_
  refine s_iconst 1 dX7_messagesWaiting_0 rfl ?_
  refine s_istore_n 2 dX7_messagesWaiting_1 rfl (Nat.le_of_ble_eq_true rfl) rfl ?_
  refine s_iconst 3 dX7_messagesWaiting_2 rfl ?_
  refine s_istore_n 4 dX7_messagesWaiting_3 rfl (Nat.le_of_ble_eq_true rfl) rfl ?_
  have key : ∀ (m k : Nat), k + m = ch → V G (AP G F) yX7_messagesWaiting cX7_messagesWaiting 3 (some .int) (d + 1) (T, N, R, P, S, cn, un) 4 [some (.ref x), some (vi (sumC (fun c => ((s.2.2.2.2 c).2.1.length : Int)) k)), some (vi k)] [] post := by
    intro m
    induction m with
    | zero =>
      intro k hk
      refine s_iload_n 5 dX7_messagesWaiting_4 rfl rfl ?_
      refine s_aload_n 6 dX7_messagesWaiting_5 rfl rfl ?_
      refine g_X7_portCount 9 dX7_messagesWaiting_6 rfl fl_X7_51 (fun hr6 => ?_)
      rw [q6]
      refine s_icmp_ge 12 33 dX7_messagesWaiting_9 rfl rfl (fun g => ?_) (fun g => ?_)
      rotate_left
      · omega
      refine s_iload_n 34 dX7_messagesWaiting_33 rfl rfl ?_
      refine s_ireturn rfl dX7_messagesWaiting_34 ?_
      rw [show k = ch by omega]
      exact hp
    | succ m ih =>
      intro k hk
      obtain ⟨a0, a1, a2, a3⟩ := t5 k (by omega)
      have b2 := a1.1
      refine s_iload_n 5 dX7_messagesWaiting_4 rfl rfl ?_
      refine s_aload_n 6 dX7_messagesWaiting_5 rfl rfl ?_
      refine g_X7_portCount 9 dX7_messagesWaiting_6 rfl fl_X7_51 (fun hr6 => ?_)
      rw [q6]
      refine s_icmp_ge 12 33 dX7_messagesWaiting_9 rfl rfl (fun g => ?_) (fun g => ?_)
      · omega
      refine s_iload_n 13 dX7_messagesWaiting_12 rfl rfl ?_
      refine s_aload_n 14 dX7_messagesWaiting_13 rfl rfl ?_
      refine g_X7_ports 17 dX7_messagesWaiting_14 rfl fl_X7_32 ?_
      refine s_iload_n 18 dX7_messagesWaiting_17 rfl rfl ?_
      refine q_port 19 dX7_messagesWaiting_18 rfl ?_
      rw [show ((k : Int)).toNat = k from rfl]
      refine g_X4_waits 22 dX7_messagesWaiting_19 rfl fl_X7_68 ?_
      refine s_V0i 25 dX7_messagesWaiting_22 rfl km_X2_many ml_X7_72 ds_X2_many (Nat.le_of_ble_eq_true rfl) (q_rec (by assumption)) rfl (q_many a1 (q8 k (by omega)).2.1 ?_)
      refine ⟨_, rfl, ?_⟩
      rw [wai0_len]
      refine s_iadd 26 dX7_messagesWaiting_25 rfl ?_
      refine s_istore_n 27 dX7_messagesWaiting_26 rfl (Nat.le_of_ble_eq_true rfl) rfl ?_
      refine s_iinc 30 dX7_messagesWaiting_27 rfl rfl (Nat.le_of_ble_eq_true rfl) rfl ?_
      refine s_goto 4 dX7_messagesWaiting_30 rfl ?_
      exact ih (k + 1) (by omega)
  exact key ch 0 (by omega)
theorem q_lostAll (hS : StS T x) (hR : StR N R x ch tl s) (hc4 : ch ≤ 4) (hp : post (some (vi (sumC (fun c => (s.2.2.2.2 c).1 4) ch))) (T, N, R, P, S, cn, un)) : Cm G (AP G F) yX7_lostInAll cX7_lostInAll 3 (some .int) (d + 1) [.ref x] (T, N, R, P, S, cn, un) post := by
  obtain ⟨t0, t1, t2, t3, t4, t5⟩ := id hS
  obtain ⟨q1, q2, q3, ⟨q4, q5, q6, q7⟩, q8⟩ := id hR
  refine Cm_intro (L := [some (.ref x), none, none]) (by decide +kernel) (Nat.le_of_ble_eq_true rfl) rfl ?_
  refine s_iconst 1 dX7_lostInAll_0 rfl ?_
  refine s_istore_n 2 dX7_lostInAll_1 rfl (Nat.le_of_ble_eq_true rfl) rfl ?_
  refine s_iconst 3 dX7_lostInAll_2 rfl ?_
  refine s_istore_n 4 dX7_lostInAll_3 rfl (Nat.le_of_ble_eq_true rfl) rfl ?_
  have key : ∀ (m k : Nat), k + m = ch → V G (AP G F) yX7_lostInAll cX7_lostInAll 3 (some .int) (d + 1) (T, N, R, P, S, cn, un) 4 [some (.ref x), some (vi (sumC (fun c => (s.2.2.2.2 c).1 4) k)), some (vi k)] [] post := by
    intro m
    induction m with
    | zero =>
      intro k hk
      refine s_iload_n 5 dX7_lostInAll_4 rfl rfl ?_
      refine s_aload_n 6 dX7_lostInAll_5 rfl rfl ?_
      refine g_X7_portCount 9 dX7_lostInAll_6 rfl fl_X7_51 (fun hr6 => ?_)
      rw [q6]
      refine s_icmp_ge 12 30 dX7_lostInAll_9 rfl rfl (fun g => ?_) (fun g => ?_)
      rotate_left
      · omega
      refine s_iload_n 31 dX7_lostInAll_30 rfl rfl ?_
      refine s_ireturn rfl dX7_lostInAll_31 ?_
      rw [show k = ch by omega]
      exact hp
    | succ m ih =>
      intro k hk
      obtain ⟨a0, a1, a2, a3⟩ := t5 k (by omega)
      have ec : N (x + 7 + 1 + 17 * k) 8 = (s.2.2.2.2 k).1 4 := (q8 k (by omega)).1.2 4 (by decide)
      refine s_iload_n 5 dX7_lostInAll_4 rfl rfl ?_
      refine s_aload_n 6 dX7_lostInAll_5 rfl rfl ?_
      refine g_X7_portCount 9 dX7_lostInAll_6 rfl fl_X7_51 (fun hr6 => ?_)
      rw [q6]
      refine s_icmp_ge 12 30 dX7_lostInAll_9 rfl rfl (fun g => ?_) (fun g => ?_)
      · omega
      refine s_iload_n 13 dX7_lostInAll_12 rfl rfl ?_
      refine s_aload_n 14 dX7_lostInAll_13 rfl rfl ?_
      refine g_X7_ports 17 dX7_lostInAll_14 rfl fl_X7_32 ?_
      refine s_iload_n 18 dX7_lostInAll_17 rfl rfl ?_
      refine q_port 19 dX7_lostInAll_18 rfl ?_
      rw [show ((k : Int)).toNat = k from rfl]
      refine g_X4_lost 22 dX7_lostInAll_19 rfl fl_X7_171 (fun hr19 => ?_)
      rw [ec]
      refine s_iadd 23 dX7_lostInAll_22 rfl ?_
      refine s_istore_n 24 dX7_lostInAll_23 rfl (Nat.le_of_ble_eq_true rfl) rfl ?_
      refine s_iinc 27 dX7_lostInAll_24 rfl rfl (Nat.le_of_ble_eq_true rfl) rfl ?_
      refine s_goto 4 dX7_lostInAll_27 rfl ?_
      exact ih (k + 1) (by omega)
  exact key ch 0 (by omega)
theorem q_tornAll (hS : StS T x) (hR : StR N R x ch tl s) (hc4 : ch ≤ 4) (hp : post (some (vi (sumC (fun c => (s.2.2.2.2 c).1 5) ch))) (T, N, R, P, S, cn, un)) : Cm G (AP G F) yX7_tornInAll cX7_tornInAll 3 (some .int) (d + 1) [.ref x] (T, N, R, P, S, cn, un) post := by
  obtain ⟨t0, t1, t2, t3, t4, t5⟩ := id hS
  obtain ⟨q1, q2, q3, ⟨q4, q5, q6, q7⟩, q8⟩ := id hR
  refine Cm_intro (L := [some (.ref x), none, none]) (by decide +kernel) (Nat.le_of_ble_eq_true rfl) rfl ?_
  refine s_iconst 1 dX7_tornInAll_0 rfl ?_
  refine s_istore_n 2 dX7_tornInAll_1 rfl (Nat.le_of_ble_eq_true rfl) rfl ?_
  refine s_iconst 3 dX7_tornInAll_2 rfl ?_
  refine s_istore_n 4 dX7_tornInAll_3 rfl (Nat.le_of_ble_eq_true rfl) rfl ?_
  have key : ∀ (m k : Nat), k + m = ch → V G (AP G F) yX7_tornInAll cX7_tornInAll 3 (some .int) (d + 1) (T, N, R, P, S, cn, un) 4 [some (.ref x), some (vi (sumC (fun c => (s.2.2.2.2 c).1 5) k)), some (vi k)] [] post := by
    intro m
    induction m with
    | zero =>
      intro k hk
      refine s_iload_n 5 dX7_tornInAll_4 rfl rfl ?_
      refine s_aload_n 6 dX7_tornInAll_5 rfl rfl ?_
      refine g_X7_portCount 9 dX7_tornInAll_6 rfl fl_X7_51 (fun hr6 => ?_)
      rw [q6]
      refine s_icmp_ge 12 30 dX7_tornInAll_9 rfl rfl (fun g => ?_) (fun g => ?_)
      rotate_left
      · omega
      refine s_iload_n 31 dX7_tornInAll_30 rfl rfl ?_
      refine s_ireturn rfl dX7_tornInAll_31 ?_
      rw [show k = ch by omega]
      exact hp
    | succ m ih =>
      intro k hk
      obtain ⟨a0, a1, a2, a3⟩ := t5 k (by omega)
      have ec : N (x + 7 + 1 + 17 * k) 9 = (s.2.2.2.2 k).1 5 := (q8 k (by omega)).1.2 5 (by decide)
      refine s_iload_n 5 dX7_tornInAll_4 rfl rfl ?_
      refine s_aload_n 6 dX7_tornInAll_5 rfl rfl ?_
      refine g_X7_portCount 9 dX7_tornInAll_6 rfl fl_X7_51 (fun hr6 => ?_)
      rw [q6]
      refine s_icmp_ge 12 30 dX7_tornInAll_9 rfl rfl (fun g => ?_) (fun g => ?_)
      · omega
      refine s_iload_n 13 dX7_tornInAll_12 rfl rfl ?_
      refine s_aload_n 14 dX7_tornInAll_13 rfl rfl ?_
      refine g_X7_ports 17 dX7_tornInAll_14 rfl fl_X7_32 ?_
      refine s_iload_n 18 dX7_tornInAll_17 rfl rfl ?_
      refine q_port 19 dX7_tornInAll_18 rfl ?_
      rw [show ((k : Int)).toNat = k from rfl]
      refine g_X4_torn 22 dX7_tornInAll_19 rfl fl_X7_174 (fun hr19 => ?_)
      rw [ec]
      refine s_iadd 23 dX7_tornInAll_22 rfl ?_
      refine s_istore_n 24 dX7_tornInAll_23 rfl (Nat.le_of_ble_eq_true rfl) rfl ?_
      refine s_iinc 27 dX7_tornInAll_24 rfl rfl (Nat.le_of_ble_eq_true rfl) rfl ?_
      refine s_goto 4 dX7_tornInAll_27 rfl ?_
      exact ih (k + 1) (by omega)
  exact key ch 0 (by omega)
end STATE2
