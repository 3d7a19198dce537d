section U5
variable {G : GT} {F : HS} {d : Nat} {T : Nat → Nat} {N : Nat → Nat → Int} {R : Nat → List Int} {P : Nat → Nat → Option Nat} {S : Nat → Int64} {cn un : Nat} {post : Option Value → PT → Prop} {q c0 u0 : Nat} {Y : SY} {b : Int}
theorem u_noise {n : Int} {D : Int64} (hn : rg n) (hm : RepP q c0 u0 (T, N, R, P, S, cn, un) Y) (hw : WfSy b Y) (hb : b ≤ 80000000) (hc : c0 ≤ gN G) (hu : u0 ≤ gU G) (hp : ∀ a', RepP q c0 u0 a' (oNoise Y n D).2 → post (some (vi (oNoise Y n D).1)) a') : Cm G (AP G F) yX11_noise cX11_noise 6 (some .int) (d + 7) [.ref q, vi n, .long D] (T, N, R, P, S, cn, un) post := by
  obtain ⟨tp, bx, hd, rf, il, ru, tl, s, ps, im⟩ := Y
  obtain ⟨nw, nx, h⟩ := hm
  obtain ⟨⟨t0, t1, t2, t3, t4⟩, ⟨t5, t6, t7, t8, t9, t10⟩, ⟨t11, t12, t13, t14⟩, v0, v1, v2, v3, v4, v5⟩ := h.cx
  have hw0 := hw
  obtain ⟨⟨wt1, wt2⟩, -, -, -, wil, -, -, w12, w1⟩ := hw0
  refine Cm_intro (L := [some (.ref q), some (vi n), some (.long D), none, none, none]) (by decide +kernel) (Nat.le_of_ble_eq_true rfl) rfl ?_
  refine s_aload_n 1 dX11_noise_0 rfl rfl ?_
  refine g_X11_hasLine 4 dX11_noise_1 rfl fl_X11_112 (fun hr1 => ?_)
  rw [h.il']
  rcases wil with rfl | rfl
  · refine s_if_ne 7 13 dX11_noise_4 rfl rfl (fun g => ?_) (fun g => ?_)
    · exact absurd rfl g
    refine s_aload_n 8 dX11_noise_7 rfl rfl ?_
    refine s_iconst 9 dX11_noise_8 rfl ?_
    refine s_V1i 12 dX11_noise_9 rfl km_X11_refuse ml_X11_168 ds_X11_refuse (Nat.le_of_ble_eq_true rfl) (q_rec (by assumption)) rfl (u_refuse (k := 0) (by omega) h hw (by omega) (fun N' h' => ?_))
    refine ⟨_, rfl, ?_⟩
    refine s_ireturn rfl dX11_noise_12 ?_
    have eo : oNoise (tp, bx, hd, rf, 0, ru, tl, s, ps, im) n D = (-1, tp, bx, hd, rfF rf 0, 0, ru, tl, s, ps, im) := rfl
    rw [eo] at hp
    exact hp _ h'.out
  obtain ⟨wr, wtl, ⟨ws, wtc⟩, wps, wim⟩ := w1 rfl
  have hru := h.ru' rfl
  have hS1 : R (nw + 1) = s.1 := h.pa.nr.1
  have h600 := ws.1
  refine s_if_ne 7 13 dX11_noise_4 rfl rfl (fun g => ?_) (fun g => ?_)
  rotate_left
  · exact absurd (show (1 : Int) = 0 by omega) (by decide)
  have no : ¬ (1 ≤ n ∧ n ≤ 40) → V G (AP G F) yX11_noise cX11_noise 6 (some .int) (d + 7) (T, N, R, P, S, cn, un) 24 [some (.ref q), some (vi n), some (.long D), none, none, none] [] post := fun hy => by
    refine s_aload_n 25 dX11_noise_24 rfl rfl ?_
    refine s_iconst 26 dX11_noise_25 rfl ?_
    refine s_V1i 29 dX11_noise_26 rfl km_X11_refuse ml_X11_168 ds_X11_refuse (Nat.le_of_ble_eq_true rfl) (q_rec (by assumption)) rfl (u_refuse (k := 2) (by omega) h hw (by omega) (fun N' h' => ?_))
    refine ⟨_, rfl, ?_⟩
    refine s_ireturn rfl dX11_noise_29 ?_
    have eo : oNoise (tp, bx, hd, rf, 1, ru, tl, s, ps, im) n D = (-1, tp, bx, hd, rfF rf 2, 1, ru, tl, s, ps, im) := if_pos hy
    rw [eo] at hp
    exact hp _ h'.out
  refine s_iload_n 14 dX11_noise_13 rfl rfl ?_
  refine s_iconst 15 dX11_noise_14 rfl ?_
  refine s_icmp_lt 18 24 dX11_noise_15 rfl rfl (fun g1 => ?_) (fun g1 => ?_)
  · exact no (by omega)
  refine s_iload_n 19 dX11_noise_18 rfl rfl ?_
  refine s_bipush 21 dX11_noise_19 rfl (k := ?_)
  refine s_icmp_le 24 30 dX11_noise_21 rfl rfl (fun g2 => ?_) (fun g2 => ?_)
  rotate_left
  · exact no (by omega)
  have hy : 1 ≤ n ∧ n ≤ 40 := by omega
  refine s_aload_n 31 dX11_noise_30 rfl rfl ?_
  refine g_X11_past 34 dX11_noise_31 rfl fl_X11_52 ?_
  refine s_aload_n 35 dX11_noise_34 rfl rfl ?_
  refine u_now 38 dX11_noise_35 rfl fl_X11_70 ?_
  refine s_V1v 41 dX11_noise_38 rfl km_X3_stage ml_X11_186 ds_X3_stage (Nat.le_of_ble_eq_true rfl) (q_rec (by assumption)) rfl (u_stage (d := d) h ws (by omega) hc hu (fun T1 N1 R1 P1 S1 cn1 un1 h1 hg => ?_))
  refine ⟨rfl, ?_⟩
  clear t0 t1 t2 t3 t4 t5 t6 t7 t8 t9 t10 t11 t12 t13 t14 v0 v1 v2 v3 v4 hru
  obtain ⟨⟨t0, t1, t2, t3, t4⟩, ⟨t5, t6, t7, t8, t9, t10⟩, ⟨t11, t12, t13, t14⟩, v0, v1, v2, v3, v4, -⟩ := h1.cx
  have hru := h1.ru' rfl
  have hR1 : R1 (nw + 1) = s.1 := h1.pa.nr.1
  have hok := noiN_ok n.toNat D s.1 ws.2.1 ws.1
  have key : ∀ (m k : Nat) (dk : Int) (Sk : Nat → Int64) (w : List Int) (R2 : Nat → List Int), k + m = n.toNat → (0 ≤ dk ∧ dk ≤ k) → frO (nw + 1) (nw + 2) R1 R2 → R2 (nw + 1) = w → byt w → w.length ≤ 600 → noiN n.toNat D s.1 = (dk + (noiN m (Sk (q + 22)) w).1, (noiN m (Sk (q + 22)) w).2) → V G (AP G F) yX11_noise cX11_noise 6 (some .int) (d + 7) (T1, N1, R2, P1, Sk, cn1, un1) 55 [some (.ref q), some (vi n), some (.long D), none, some (vi dk), some (vi (k : Int))] [] post := by
    intro m
    induction m with
    | zero =>
      intro k dk Sk w R2 hk hdk f2 e2 hbw hlw hN
      have hN1 : (noiN n.toNat D s.1).1 = dk := by rw [hN]; exact Int.add_zero dk
      have hN2 : (noiN n.toNat D s.1).2 = w := by rw [hN]; rfl
      have hs2 : StR N1 R2 nw (chOf 1 ru) tl (w, s.2) := by
        have := h1.pa.nr.wire (w := w)
        exact this.ag h1.pa.c4 (fun _ _ _ => rfl) (fun y hy1 hy2 => by
          by_cases e : y = nw + 1
          · rw [e, up_s]; exact e2
          · rw [up_n e]; exact f2 y (by omega))
      have h2 := h1.fr (N' := N1) (fun _ _ _ => rfl) (fun y hy1 hy2 => f2 y (by omega)) hs2
      have hg2 := hg.fr h1.pa (N' := N1) (R' := R2) (fun _ _ _ => rfl) (fun y hy1 hy2 => f2 y (by omega))
      refine s_iload 57 dX11_noise_55 rfl rfl ?_
      refine s_iload_n 58 dX11_noise_57 rfl rfl ?_
      refine s_icmp_ge 61 84 dX11_noise_58 rfl rfl (fun g3 => ?_) (fun g3 => ?_)
      rotate_left
      · omega
      refine s_iload 86 dX11_noise_84 rfl rfl ?_
      refine s_if_le 89 96 dX11_noise_86 rfl rfl (fun g4 => ?_) (fun g4 => ?_)
      · refine s_iload 98 dX11_noise_96 rfl rfl ?_
        refine s_ireturn rfl dX11_noise_98 ?_
        have h0 : dk = 0 := by omega
        have eo : oNoise (tp, bx, hd, rf, 1, ru, tl, s, ps, im) n D = (0, tp, bx, hd, rf, 1, ru, tl, s, ps, im) := (if_neg (not_not_intro hy)).trans (if_pos (show (noiN n.toNat D s.1).1 = 0 by omega))
        rw [eo] at hp
        have e9 := hok.2.1 (by omega)
        rw [hN2] at e9
        rw [e9] at h2
        rw [h0]
        exact hp _ h2.out
      · refine s_aload_n 90 dX11_noise_89 rfl rfl ?_
        refine g_X11_past 93 dX11_noise_90 rfl fl_X11_52 ?_
        refine s_V0v 96 dX11_noise_93 rfl km_X3_commit ml_X11_194 ds_X3_commit (Nat.le_of_ble_eq_true rfl) (q_rec (by assumption)) rfl (u_commit h2 hg2 (fun N3 f3 h4 => ?_))
        refine ⟨rfl, ?_⟩
        refine s_iload 98 dX11_noise_96 rfl rfl ?_
        refine s_ireturn rfl dX11_noise_98 ?_
        have eo : oNoise (tp, bx, hd, rf, 1, ru, tl, s, ps, im) n D = ((noiN n.toNat D s.1).1, tp, bx, hd, rf, 1, ru, tl, ((noiN n.toNat D s.1).2, s.2), kpF ps s, im) := (if_neg (not_not_intro hy)).trans (if_neg (show ¬ (noiN n.toNat D s.1).1 = 0 by omega))
        rw [eo, hN1, hN2] at hp
        exact hp _ h4.out
    | succ m ih =>
      intro k dk Sk w R2 hk hdk f2 e2 hbw hlw hN
      rw [noiN_s] at hN
      have hw2 : WfSt b (chOf 1 ru) (w, s.2) := ⟨hlw, hbw, ws.2.2⟩
      obtain ⟨n1, n2⟩ := noiF_ok (D := Sk (q + 22)) hbw hlw
      refine s_iload 57 dX11_noise_55 rfl rfl ?_
      refine s_iload_n 58 dX11_noise_57 rfl rfl ?_
      refine s_icmp_ge 61 84 dX11_noise_58 rfl rfl (fun g3 => ?_) (fun g3 => ?_)
      · omega
      refine s_aload_n 62 dX11_noise_61 rfl rfl ?_
      refine u_now 65 dX11_noise_62 rfl fl_X11_70 ?_
      refine s_aload_n 66 dX11_noise_65 rfl rfl ?_
      refine g_X11_draws 69 dX11_noise_66 rfl fl_X11_45 ?_
      refine s_V1b 72 dX11_noise_69 rfl km_X7_disturb ml_X11_225 ds_X7_disturb (Nat.le_of_ble_eq_true rfl) (q_rec (by assumption)) rfl (q_disturb (d := d + 3) h1.pa.ns t9 (s := (w, s.2)) e2 hw2 (fun R3 f3 e3 => ?_))
      refine ⟨_, rfl, ?_⟩
      have f4 : frO (nw + 1) (nw + 2) R1 R3 := f2.trans f3 (by omega)
      cases e : (noiF (Sk (q + 22)) w).1 with
      | true =>
        refine s_if_eqb 75 78 dX11_noise_72 rfl rfl (fun g5 => ?_) (fun g5 => ?_)
        · exact absurd g5 (by decide)
        refine s_iinc 78 dX11_noise_75 rfl rfl (Nat.le_of_ble_eq_true rfl) rfl ?_
        refine s_iinc 81 dX11_noise_78 rfl rfl (Nat.le_of_ble_eq_true rfl) rfl ?_
        refine s_goto 55 dX11_noise_81 rfl ?_
        refine ih (k + 1) (dk + 1) _ _ R3 (by omega) (by omega) f4 e3 n1 n2 ?_
        rw [hN, up_s, e, if_pos rfl]
        refine Prod.ext ?_ rfl
        exact (Int.add_assoc dk 1 _).symm
      | false =>
        refine s_if_eqb 75 78 dX11_noise_72 rfl rfl (fun g5 => ?_) (fun g5 => ?_)
        rotate_left
        · exact absurd g5 (by decide)
        refine s_iinc 81 dX11_noise_78 rfl rfl (Nat.le_of_ble_eq_true rfl) rfl ?_
        refine s_goto 55 dX11_noise_81 rfl ?_
        refine ih (k + 1) dk _ _ R3 (by omega) (by omega) f4 e3 n1 n2 ?_
        rw [hN, up_s, e, if_neg (by decide)]
        refine Prod.ext ?_ rfl
        exact congrArg (fun z => dk + z) (Int.zero_add _)
  refine s_aload_n 42 dX11_noise_41 rfl rfl ?_
  refine g_X11_draws 45 dX11_noise_42 rfl fl_X11_45 ?_
  refine s_lload_n 46 dX11_noise_45 rfl rfl ?_
  refine p_X0_seed 49 dX11_noise_46 rfl fl_X11_221 ?_
  refine s_iconst 50 dX11_noise_49 rfl ?_
  refine s_istore 52 dX11_noise_50 rfl (Nat.le_of_ble_eq_true rfl) rfl ?_
  refine s_iconst 53 dX11_noise_52 rfl ?_
  refine s_istore 55 dX11_noise_53 rfl (Nat.le_of_ble_eq_true rfl) rfl ?_
  refine key n.toNat 0 0 _ s.1 R1 (by omega) (by omega) frO.rf hR1 ws.2.1 ws.1 ?_
  rw [up_s]
  refine Prod.ext ?_ rfl
  show _ = 0 + _
  omega
theorem u_event {z w : Int} (hz : rg z) (hv : rg w) (hm : RepP q c0 u0 (T, N, R, P, S, cn, un) Y) (hw : WfSy b Y) (hp : ∀ a', RepP q c0 u0 a' Y → post (some (vi (aEvent Y.2.2.2.2.2.2.2.1 z w))) a') : Cm G (AP G F) yX11_event cX11_event 3 (some .int) (d + 2) [.ref q, vi z, vi w] (T, N, R, P, S, cn, un) post := by
  obtain ⟨tp, bx, hd, rf, il, ru, tl, s, ps, im⟩ := Y
  obtain ⟨nw, nx, h⟩ := hm
  obtain ⟨⟨t0, t1, t2, t3, t4⟩, ⟨t5, t6, t7, t8, t9, t10⟩, ⟨t11, t12, t13, t14⟩, v0, v1, v2, v3, v4, v5⟩ := h.cx
  have hR5 : R (nw + 5) = evR s.2.2.2.1 := h.pa.nr.2.2.1
  have hev : (∀ e ∈ s.2.2.2.1, e.length = 5 ∧ ∀ x ∈ e, -1 ≤ x ∧ x ≤ 600) ∧ s.2.2.2.1.length ≤ 40 := by
    obtain ⟨-, -, -, -, wil, -, w0, -, w1⟩ := hw
    rcases wil with rfl | rfl
    · obtain ⟨-, -, -, e⟩ := w0 rfl
      rw [e]
      exact ⟨fun e he => absurd he List.not_mem_nil, Nat.zero_le _⟩
    · obtain ⟨-, -, ⟨ws, -⟩, -⟩ := w1 rfl
      exact ⟨ws.2.2.2.2.2.2.2.2.2.1, by have := ws.2.2.2.2.2.2.2.2.1; omega⟩
  have hel := evR_len (fun e he => (hev.1 e he).1)
  have hp := hp _ (h.out (S := S))
  have no : ¬ (0 ≤ z ∧ z < s.2.2.2.1.length ∧ 0 ≤ w ∧ w ≤ 4) → V G (AP G F) yX11_event cX11_event 3 (some .int) (d + 2) (T, N, R, P, S, cn, un) 19 [some (.ref q), some (vi z), some (vi w)] [] post := fun hy => by
    refine s_iconst 20 dX11_event_19 rfl ?_
    refine s_ireturn rfl dX11_event_20 ?_
    rw [show aEvent s z w = -1 from if_neg hy] at hp
    exact hp
  refine Cm_intro (L := [some (.ref q), some (vi z), some (vi w)]) (by decide +kernel) (Nat.le_of_ble_eq_true rfl) rfl ?_
  refine s_iload_n 1 dX11_event_0 rfl rfl ?_
  refine s_if_lt 4 19 dX11_event_1 rfl rfl (fun g1 => ?_) (fun g1 => ?_)
  · exact no (by omega)
  refine s_iload_n 5 dX11_event_4 rfl rfl ?_
  refine s_bipush 7 dX11_event_5 rfl (k := ?_)
  refine s_icmp_ge 10 19 dX11_event_7 rfl rfl (fun g2 => ?_) (fun g2 => ?_)
  · exact no (by omega)
  refine s_iload_n 11 dX11_event_10 rfl rfl ?_
  refine s_if_lt 14 19 dX11_event_11 rfl rfl (fun g3 => ?_) (fun g3 => ?_)
  · exact no (by omega)
  refine s_iload_n 15 dX11_event_14 rfl rfl ?_
  refine s_iconst 16 dX11_event_15 rfl ?_
  refine s_icmp_lt 19 21 dX11_event_16 rfl rfl (fun g4 => ?_) (fun g4 => ?_)
  rotate_left
  · exact no (by omega)
  refine s_aload_n 22 dX11_event_21 rfl rfl ?_
  refine u_now 25 dX11_event_22 rfl fl_X11_70 ?_
  refine g_X7_events 28 dX11_event_25 rfl fl_X11_277 ?_
  refine s_aload_n 29 dX11_event_28 rfl rfl ?_
  refine u_now 32 dX11_event_29 rfl fl_X11_70 ?_
  refine g_X7_events 35 dX11_event_32 rfl fl_X11_277 ?_
  refine g_X5_size 38 dX11_event_35 rfl fl_X11_76 ?_
  rw [hR5, hel]
  refine s_iconst 39 dX11_event_38 rfl ?_
  refine s_iload_n 40 dX11_event_39 rfl rfl ?_
  refine s_iconst 41 dX11_event_40 rfl ?_
  refine s_iadd 42 dX11_event_41 rfl ?_
  refine s_imul 43 dX11_event_42 rfl ?_
  refine s_isub 44 dX11_event_43 rfl ?_
  refine s_iload_n 45 dX11_event_44 rfl rfl ?_
  refine s_iadd 46 dX11_event_45 rfl ?_
  refine s_V1i 49 dX11_event_46 rfl km_X5_at ml_X11_201 ds_X5_at (Nat.le_of_ble_eq_true rfl) (q_recR (by assumption)) rfl (r_atK v3 hR5 (by unfold rg; omega) (fun _ => ?_))
  refine ⟨_, rfl, ?_⟩
  refine s_ireturn rfl dX11_event_49 ?_
  have e9 : atF (evR s.2.2.2.1) (((5 * s.2.2.2.1.length : Nat) : Int) - 5 * (z + 1) + w) = aEvent s z w := by
    unfold aEvent
    by_cases hy : z < s.2.2.2.1.length
    · rw [if_pos (by omega)]
      unfold atF
      rw [if_pos (by omega)]
      have hj : (((5 * s.2.2.2.1.length : Nat) : Int) - 5 * (z + 1) + w).toNat = 5 * (s.2.2.2.1.length - 1 - z.toNat) + w.toNat := by omega
      rw [hj]
      unfold evR
      rw [flat5_at (fun e he => (hev.1 e (List.mem_reverse.mp he)).1) (by rw [List.length_reverse]; omega) (by omega)]
      congr 1
      rw [List.getD_eq_getElem?_getD, List.getElem?_reverse (by omega), List.getD_eq_getElem?_getD, show s.2.2.2.1.length - 1 - (s.2.2.2.1.length - 1 - z.toNat) = z.toNat by omega]
    · rw [if_neg (by omega)]
      exact if_neg (by omega)
  rw [e9]
  exact hp
end U5
