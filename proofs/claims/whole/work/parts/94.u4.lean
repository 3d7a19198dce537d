section U4
variable {G : GT} {F : HS} {d : Nat} {T : Nat → Nat} {N : Nat → Nat → Int} {R : Nat → List Int} {P : Nat → Nat → Option Nat} {S : Nat → Int64} {cn un : Nat} {post : Option Value → PT → Prop} {q c0 u0 : Nat} {Y : SY} {b : Int}
theorem PaG.rows {R' : Nat → List Int} {nw ch nx : Nat} {tl : Nat → Int} {s s0 : ST} {ps : List ST} (hg : PaG q N R P ch nx tl s0) (h : PaP q T N R P nw ch nx tl s ps) (f2 : ∀ y, q + 101 ≤ y → R' y = R y) : PaG q N R' P ch nx tl s0 := by
  obtain ⟨w, a1, a2⟩ := hg
  obtain ⟨b1, b2, b3⟩ := h.own _ w h.hnx a1
  exact ⟨w, a1, a2.ag h.c4 (fun _ _ _ => rfl) (fun y h3 h4 => f2 y (by omega))⟩
theorem u_send {z : Int} (hz : rg z) (hm : RepP q c0 u0 (T, N, R, P, S, cn, un) Y) (hw : WfSy b Y) (hb : b ≤ 80000000) (hc : c0 ≤ gN G) (hu : u0 ≤ gU G) (hp : ∀ a', RepP q c0 u0 a' (oSend Y z).2 → post (some (vi (oSend Y z).1)) a') : Cm G (AP G F) yX11_send cX11_send 3 (some .int) (d + 7) [.ref q, vi z] (T, N, R, P, S, cn, un) post := by
  obtain ⟨tp, bx, hd, rf, il, ru, tl, s, ps, im⟩ := Y
  obtain ⟨nw, nx, h⟩ := hm
  obtain ⟨⟨t0, t1, t2, t3, t4⟩, ⟨t5, t6, t7, t8, t9, t10⟩, ⟨t11, t12, t13, t14⟩, v0, v1, v2, v3, v4, v5⟩ := h.cx
  have hw0 := hw
  obtain ⟨⟨wt1, wt2⟩, -, -, -, wil, -, -, w12, w1⟩ := hw0
  refine Cm_intro (L := [some (.ref q), some (vi z), none]) (by decide +kernel) (Nat.le_of_ble_eq_true rfl) rfl ?_
  refine s_aload_n 1 dX11_send_0 rfl rfl ?_
  refine g_X11_hasLine 4 dX11_send_1 rfl fl_X11_112 (fun hr1 => ?_)
  rw [h.il']
  rcases wil with rfl | rfl
  · refine s_if_ne 7 13 dX11_send_4 rfl rfl (fun g => ?_) (fun g => ?_)
    · exact absurd rfl g
    refine s_aload_n 8 dX11_send_7 rfl rfl ?_
    refine s_iconst 9 dX11_send_8 rfl ?_
    refine s_V1i 12 dX11_send_9 rfl km_X11_refuse ml_X11_168 ds_X11_refuse (Nat.le_of_ble_eq_true rfl) (q_rec (by assumption)) rfl (u_refuse (k := 0) (by omega) h hw (by omega) (fun N' h' => ?_))
    refine ⟨_, rfl, ?_⟩
    refine s_ireturn rfl dX11_send_12 ?_
    have eo : oSend (tp, bx, hd, rf, 0, ru, tl, s, ps, im) z = (-1, tp, bx, hd, rfF rf 0, 0, ru, tl, s, ps, im) := rfl
    rw [eo] at hp
    exact hp _ h'.out
  obtain ⟨wr, wtl, ⟨ws, wtc⟩, wps, wim⟩ := w1 rfl
  have hru := h.ru' rfl
  have hS1 : R (nw + 1) = s.1 := h.pa.nr.1
  have h600 := ws.1
  refine s_if_ne 7 13 dX11_send_4 rfl rfl (fun g => ?_) (fun g => ?_)
  rotate_left
  · exact absurd (show (1 : Int) = 0 by omega) (by decide)
  have w5 := wr.2.2.2.2.2
  have hch : chOf 1 ru = (ru 5).toNat := rfl
  refine s_aload_n 14 dX11_send_13 rfl rfl ?_
  refine u_now 17 dX11_send_14 rfl fl_X11_70 ?_
  refine s_iload_n 18 dX11_send_17 rfl rfl ?_
  refine s_V1n 21 dX11_send_18 rfl km_X7_portAt ml_X11_171 ds_X7_portAt (Nat.le_of_ble_eq_true rfl) (q_rec (by assumption)) rfl (q_portAt h.pa.ns h.pa.nr.2.2.2.1.2.2.1 h.pa.c4 hz (fun g1 g2 => ?_) (fun g2 => ?_))
  refine ⟨_, rfl, ?_⟩
  rotate_left
  · refine ⟨_, rfl, ?_⟩
    rw [hch] at g2
    have hy : ¬ (0 ≤ z ∧ z < ru 5) := by omega
    refine s_astore_nN 22 dX11_send_21 rfl (Nat.le_of_ble_eq_true rfl) rfl ?_
    refine s_aload_nN 23 dX11_send_22 rfl rfl ?_
    refine s_ifnonnullN 26 dX11_send_23 rfl ?_
    refine s_aload_n 27 dX11_send_26 rfl rfl ?_
    refine s_iconst 28 dX11_send_27 rfl ?_
    refine s_V1i 31 dX11_send_28 rfl km_X11_refuse ml_X11_168 ds_X11_refuse (Nat.le_of_ble_eq_true rfl) (q_rec (by assumption)) rfl (u_refuse (k := 1) (by omega) h hw (by omega) (fun N' h' => ?_))
    refine ⟨_, rfl, ?_⟩
    refine s_ireturn rfl dX11_send_31 ?_
    have eo : oSend (tp, bx, hd, rf, 1, ru, tl, s, ps, im) z = (-1, tp, bx, hd, rfF rf 1, 1, ru, tl, s, ps, im) := if_pos hy
    rw [eo] at hp
    exact hp _ h'.out
  rw [hch] at g2
  have hy : 0 ≤ z ∧ z < ru 5 := by omega
  have hk : z.toNat < chOf 1 ru := by omega
  have hk4 : z.toNat < 4 := by omega
  have hpo := h.pa.ns.2.2.2.2.2 z.toNat hk4
  have m0 := hpo.1
  have m1 := hpo.2.1.1
  have m2 := hpo.2.2.1.1
  have hpr := h.pa.nr.2.2.2.2 z.toNat hk
  have hwc := ws.2.2.2.2.2.2.2.2.2.2 z.toNat hk
  refine s_astore_n 22 dX11_send_21 rfl (Nat.le_of_ble_eq_true rfl) rfl ?_
  refine s_aload_n 23 dX11_send_22 rfl rfl ?_
  refine s_ifnonnull 32 dX11_send_23 rfl ?_
  refine s_aload_n 33 dX11_send_32 rfl rfl ?_
  refine g_X11_tape 36 dX11_send_33 rfl fl_X11_12 ?_
  refine g_X9_bytes 39 dX11_send_36 rfl fl_X11_73 ?_
  refine g_X5_size 42 dX11_send_39 rfl fl_X11_76 ?_
  rw [h.tp']
  refine s_bipush 44 dX11_send_42 rfl (k := ?_)
  refine s_icmp_le 47 53 dX11_send_44 rfl rfl (fun g3 => ?_) (fun g3 => ?_)
  rotate_left
  · refine s_aload_n 48 dX11_send_47 rfl rfl ?_
    refine s_iconst 49 dX11_send_48 rfl ?_
    refine s_V1i 52 dX11_send_49 rfl km_X11_refuse ml_X11_168 ds_X11_refuse (Nat.le_of_ble_eq_true rfl) (q_rec (by assumption)) rfl (u_refuse (k := 2) (by omega) h hw (by omega) (fun N' h' => ?_))
    refine ⟨_, rfl, ?_⟩
    refine s_ireturn rfl dX11_send_52 ?_
    have eo : oSend (tp, bx, hd, rf, 1, ru, tl, s, ps, im) z = (-1, tp, bx, hd, rfF rf 2, 1, ru, tl, s, ps, im) := (if_neg (not_not_intro hy)).trans (if_pos (by omega))
    rw [eo] at hp
    exact hp _ h'.out
  have h8 := hwc.2.2.2.2.2.2.2.2.1
  refine s_aload_n 54 dX11_send_53 rfl rfl ?_
  refine g_X4_waits 57 dX11_send_54 rfl fl_X11_175 ?_
  refine s_V0i 60 dX11_send_57 rfl km_X2_many ml_X11_181 ds_X2_many (Nat.le_of_ble_eq_true rfl) (q_rec (by assumption)) rfl (q_many hpo.2.1 hpr.2.1 ?_)
  refine ⟨_, rfl, ?_⟩
  rw [wai0_len]
  refine s_bipush 62 dX11_send_60 rfl (k := ?_)
  refine s_icmp_lt 65 71 dX11_send_62 rfl rfl (fun g4 => ?_) (fun g4 => ?_)
  rotate_left
  · refine s_aload_n 66 dX11_send_65 rfl rfl ?_
    refine s_iconst 67 dX11_send_66 rfl ?_
    refine s_V1i 70 dX11_send_67 rfl km_X11_refuse ml_X11_168 ds_X11_refuse (Nat.le_of_ble_eq_true rfl) (q_rec (by assumption)) rfl (u_refuse (k := 3) (by omega) h hw (by omega) (fun N' h' => ?_))
    refine ⟨_, rfl, ?_⟩
    refine s_ireturn rfl dX11_send_70 ?_
    have eo : oSend (tp, bx, hd, rf, 1, ru, tl, s, ps, im) z = (-1, tp, bx, hd, rfF rf 3, 1, ru, tl, s, ps, im) := (if_neg (not_not_intro hy)).trans ((if_neg (by omega)).trans (if_pos (by omega)))
    rw [eo] at hp
    exact hp _ h'.out
  refine s_aload_n 72 dX11_send_71 rfl rfl ?_
  refine g_X11_past 75 dX11_send_72 rfl fl_X11_52 ?_
  refine s_aload_n 76 dX11_send_75 rfl rfl ?_
  refine u_now 79 dX11_send_76 rfl fl_X11_70 ?_
  refine s_V1v 82 dX11_send_79 rfl km_X3_stage ml_X11_186 ds_X3_stage (Nat.le_of_ble_eq_true rfl) (q_rec (by assumption)) rfl (u_stage (d := d) h ws (by omega) hc hu (fun T1 N1 R1 P1 S1 cn1 un1 h1 hg => ?_))
  refine ⟨rfl, ?_⟩
  clear t0 t1 t2 t3 t4 t5 t6 t7 t8 t9 t10 t11 t12 t13 t14 v0 v1 v2 v3 v4 hru
  obtain ⟨⟨t0, t1, t2, t3, t4⟩, ⟨t5, t6, t7, t8, t9, t10⟩, ⟨t11, t12, t13, t14⟩, v0, v1, v2, v3, v4, -⟩ := h1.cx
  have hru := h1.ru' rfl
  have hR1 : R1 (nw + 1) = s.1 := h1.pa.nr.1
  clear m0 m1 m2 hpo hpr
  have hpo := h1.pa.ns.2.2.2.2.2 z.toNat hk4
  have m0 := hpo.1
  have m1 := hpo.2.1.1
  have m2 := hpo.2.2.1.1
  have hpr := h1.pa.nr.2.2.2.2 z.toNat hk
  refine s_aload_n 83 dX11_send_82 rfl rfl ?_
  refine g_X4_waits 86 dX11_send_83 rfl fl_X11_175 ?_
  refine s_aload_n 87 dX11_send_86 rfl rfl ?_
  refine g_X11_tape 90 dX11_send_87 rfl fl_X11_12 ?_
  refine g_X9_bytes 93 dX11_send_90 rfl fl_X11_73 ?_
  refine s_iconst 94 dX11_send_93 rfl ?_
  refine s_V2v 97 dX11_send_94 rfl km_X2_push ml_X11_190 ds_X2_push (Nat.le_of_ble_eq_true rfl) (q_rec (by assumption)) rfl (q_push (d := d + 3) hpo.2.1 (by rw [t2]; decide) (by omega) hpr.2.1 (wai0_mem hwc.2.2.2.2.2.2.2.2.2.1) (by rw [wai0_len]; omega) h1.tp' (by omega) (by decide) (fun R2 r1 r2 => ?_))
  refine ⟨rfl, ?_⟩
  have e0 : wai0 (s.2.2.2.2 z.toNat).2.1 ++ [(tp, 0)] = wai0 ((s.2.2.2.2 z.toNat).2.1 ++ [tp]) := by
    unfold wai0
    rw [List.map_append]
    rfl
  rw [e0] at r1
  have hc2 : PoR N1 R2 (nw + 7 + 1 + 17 * z.toNat) (tl z.toNat) ((s.2.2.2.2 z.toNat).1, (s.2.2.2.2 z.toNat).2.1 ++ [tp], (s.2.2.2.2 z.toNat).2.2) := ⟨hpr.1, r1, hpr.2.2.1.fr r2 (by omega), by rw [r2 _ (by omega)]; exact hpr.2.2.2⟩
  have hs2 := h1.pa.nr.port hk frO.rf (r2.wk (by omega)) hc2
  have h2 := h1.fr (N' := N1) (fun _ _ _ => rfl) (fun y hy1 hy2 => r2 y (by omega)) hs2
  have h3 := h2.rows (tp' := []) (bx' := bx) (hd' := hd) (R' := up R2 (q + 1 + 1) []) (fun y hy => up_n (by omega)) (up_s _ _ _) (by rw [up_n (by omega)]; exact h2.bx') (by rw [up_n (by omega)]; exact h2.hd')
  have hg2 := (hg.fr h1.pa (N' := N1) (R' := R2) (fun _ _ _ => rfl) (fun y hy1 hy2 => r2 y (by omega))).rows h2.pa (R' := up R2 (q + 1 + 1) []) (fun y hy => up_n (by omega))
  refine s_aload_n 98 dX11_send_97 rfl rfl ?_
  refine g_X11_tape 101 dX11_send_98 rfl fl_X11_12 ?_
  refine g_X9_bytes 104 dX11_send_101 rfl fl_X11_73 ?_
  refine s_V0v 107 dX11_send_104 rfl km_X5_clear ml_X11_103 ds_X5_clear (Nat.le_of_ble_eq_true rfl) (q_recR (by assumption)) rfl (r_clear t2 ?_)
  refine ⟨rfl, ?_⟩
  refine s_aload_n 108 dX11_send_107 rfl rfl ?_
  refine g_X11_past 111 dX11_send_108 rfl fl_X11_52 ?_
  refine s_V0v 114 dX11_send_111 rfl km_X3_commit ml_X11_194 ds_X3_commit (Nat.le_of_ble_eq_true rfl) (q_rec (by assumption)) rfl (u_commit h3 hg2 (fun N2 f2 h4 => ?_))
  refine ⟨rfl, ?_⟩
  refine s_aload_n 115 dX11_send_114 rfl rfl ?_
  refine g_X4_waits 118 dX11_send_115 rfl fl_X11_175 ?_
  refine s_V0i 121 dX11_send_118 rfl km_X2_many ml_X11_181 ds_X2_many (Nat.le_of_ble_eq_true rfl) (q_rec (by assumption)) rfl (q_many hpo.2.1 (r1.fr (lo := q + 1 + 1) (hi := q + 3) (frO.rf.up (by omega)) (by omega)) ?_)
  refine ⟨_, rfl, ?_⟩
  rw [wai0_len, List.length_append, List.length_singleton]
  refine s_ireturn rfl dX11_send_121 ?_
  have eo : oSend (tp, bx, hd, rf, 1, ru, tl, s, ps, im) z = (((s.2.2.2.2 z.toNat).2.1.length : Int) + 1, ([] : List Int), bx, hd, rf, 1, ru, tl, chS s z.toNat ((s.2.2.2.2 z.toNat).1, (s.2.2.2.2 z.toNat).2.1 ++ [tp], (s.2.2.2.2 z.toNat).2.2), kpF ps s, im) := (if_neg (not_not_intro hy)).trans ((if_neg (by omega)).trans (if_neg (by omega)))
  rw [eo] at hp
  exact hp _ h4.out
theorem u_take {z : Int} (hz : rg z) (hm : RepP q c0 u0 (T, N, R, P, S, cn, un) Y) (hw : WfSy b Y) (hb : b ≤ 80000000) (hc : c0 ≤ gN G) (hu : u0 ≤ gU G) (hp : ∀ a', RepP q c0 u0 a' (oTake Y z).2 → post (some (vi (oTake Y z).1)) a') : Cm G (AP G F) yX11_take cX11_take 3 (some .int) (d + 7) [.ref q, vi z] (T, N, R, P, S, cn, un) post := by
  obtain ⟨tp, bx, hd, rf, il, ru, tl, s, ps, im⟩ := Y
  obtain ⟨nw, nx, h⟩ := hm
  obtain ⟨⟨t0, t1, t2, t3, t4⟩, ⟨t5, t6, t7, t8, t9, t10⟩, ⟨t11, t12, t13, t14⟩, v0, v1, v2, v3, v4, v5⟩ := h.cx
  have hw0 := hw
  obtain ⟨⟨wt1, wt2⟩, -, -, -, wil, -, -, w12, w1⟩ := hw0
  refine Cm_intro (L := [some (.ref q), some (vi z), none]) (by decide +kernel) (Nat.le_of_ble_eq_true rfl) rfl ?_
  refine s_aload_n 1 dX11_take_0 rfl rfl ?_
  refine g_X11_hasLine 4 dX11_take_1 rfl fl_X11_112 (fun hr1 => ?_)
  rw [h.il']
  rcases wil with rfl | rfl
  · refine s_if_ne 7 13 dX11_take_4 rfl rfl (fun g => ?_) (fun g => ?_)
    · exact absurd rfl g
    refine s_aload_n 8 dX11_take_7 rfl rfl ?_
    refine s_iconst 9 dX11_take_8 rfl ?_
    refine s_V1i 12 dX11_take_9 rfl km_X11_refuse ml_X11_168 ds_X11_refuse (Nat.le_of_ble_eq_true rfl) (q_rec (by assumption)) rfl (u_refuse (k := 0) (by omega) h hw (by omega) (fun N' h' => ?_))
    refine ⟨_, rfl, ?_⟩
    refine s_ireturn rfl dX11_take_12 ?_
    have eo : oTake (tp, bx, hd, rf, 0, ru, tl, s, ps, im) z = (-1, tp, bx, hd, rfF rf 0, 0, ru, tl, s, ps, im) := rfl
    rw [eo] at hp
    exact hp _ h'.out
  obtain ⟨wr, wtl, ⟨ws, wtc⟩, wps, wim⟩ := w1 rfl
  have hru := h.ru' rfl
  have hS1 : R (nw + 1) = s.1 := h.pa.nr.1
  have h600 := ws.1
  refine s_if_ne 7 13 dX11_take_4 rfl rfl (fun g => ?_) (fun g => ?_)
  rotate_left
  · exact absurd (show (1 : Int) = 0 by omega) (by decide)
  have w5 := wr.2.2.2.2.2
  have hch : chOf 1 ru = (ru 5).toNat := rfl
  refine s_aload_n 14 dX11_take_13 rfl rfl ?_
  refine u_now 17 dX11_take_14 rfl fl_X11_70 ?_
  refine s_iload_n 18 dX11_take_17 rfl rfl ?_
  refine s_V1n 21 dX11_take_18 rfl km_X7_portAt ml_X11_171 ds_X7_portAt (Nat.le_of_ble_eq_true rfl) (q_rec (by assumption)) rfl (q_portAt h.pa.ns h.pa.nr.2.2.2.1.2.2.1 h.pa.c4 hz (fun g1 g2 => ?_) (fun g2 => ?_))
  refine ⟨_, rfl, ?_⟩
  rotate_left
  · refine ⟨_, rfl, ?_⟩
    rw [hch] at g2
    have hy : ¬ (0 ≤ z ∧ z < ru 5) := by omega
    refine s_astore_nN 22 dX11_take_21 rfl (Nat.le_of_ble_eq_true rfl) rfl ?_
    refine s_aload_nN 23 dX11_take_22 rfl rfl ?_
    refine s_ifnullN 36 dX11_take_23 rfl ?_
    refine s_aload_n 37 dX11_take_36 rfl rfl ?_
    refine s_iconst 38 dX11_take_37 rfl ?_
    refine s_V1i 41 dX11_take_38 rfl km_X11_refuse ml_X11_168 ds_X11_refuse (Nat.le_of_ble_eq_true rfl) (q_rec (by assumption)) rfl (u_refuse (k := 1) (by omega) h hw (by omega) (fun N' h' => ?_))
    refine ⟨_, rfl, ?_⟩
    refine s_ireturn rfl dX11_take_41 ?_
    have eo : oTake (tp, bx, hd, rf, 1, ru, tl, s, ps, im) z = (-1, tp, bx, hd, rfF rf 1, 1, ru, tl, s, ps, im) := if_pos (Or.inl hy)
    rw [eo] at hp
    exact hp _ h'.out
  rw [hch] at g2
  have hy : 0 ≤ z ∧ z < ru 5 := by omega
  have hk : z.toNat < chOf 1 ru := by omega
  have hk4 : z.toNat < 4 := by omega
  have hpo := h.pa.ns.2.2.2.2.2 z.toNat hk4
  have m0 := hpo.1
  have m1 := hpo.2.1.1
  have m2 := hpo.2.2.1.1
  have hpr := h.pa.nr.2.2.2.2 z.toNat hk
  have hwc := ws.2.2.2.2.2.2.2.2.2.2 z.toNat hk
  have h8 := hwc.2.2.2.2.2.2.2.2.2.2.1
  refine s_astore_n 22 dX11_take_21 rfl (Nat.le_of_ble_eq_true rfl) rfl ?_
  refine s_aload_n 23 dX11_take_22 rfl rfl ?_
  refine s_ifnull 26 dX11_take_23 rfl ?_
  refine s_aload_n 27 dX11_take_26 rfl rfl ?_
  refine g_X4_there 30 dX11_take_27 rfl fl_X11_232 ?_
  refine s_V0i 33 dX11_take_30 rfl km_X2_many ml_X11_181 ds_X2_many (Nat.le_of_ble_eq_true rfl) (q_rec (by assumption)) rfl (q_many hpo.2.2.1 hpr.2.2.1 ?_)
  refine ⟨_, rfl, ?_⟩
  refine s_if_ne 36 42 dX11_take_33 rfl rfl (fun g4 => ?_) (fun g4 => ?_)
  rotate_left
  · refine s_aload_n 37 dX11_take_36 rfl rfl ?_
    refine s_iconst 38 dX11_take_37 rfl ?_
    refine s_V1i 41 dX11_take_38 rfl km_X11_refuse ml_X11_168 ds_X11_refuse (Nat.le_of_ble_eq_true rfl) (q_rec (by assumption)) rfl (u_refuse (k := 1) (by omega) h hw (by omega) (fun N' h' => ?_))
    refine ⟨_, rfl, ?_⟩
    refine s_ireturn rfl dX11_take_41 ?_
    have eo : oTake (tp, bx, hd, rf, 1, ru, tl, s, ps, im) z = (-1, tp, bx, hd, rfF rf 1, 1, ru, tl, s, ps, im) := if_pos (Or.inr (by omega))
    rw [eo] at hp
    exact hp _ h'.out
  refine s_aload_n 43 dX11_take_42 rfl rfl ?_
  refine g_X11_past 46 dX11_take_43 rfl fl_X11_52 ?_
  refine s_aload_n 47 dX11_take_46 rfl rfl ?_
  refine u_now 50 dX11_take_47 rfl fl_X11_70 ?_
  refine s_V1v 53 dX11_take_50 rfl km_X3_stage ml_X11_186 ds_X3_stage (Nat.le_of_ble_eq_true rfl) (q_rec (by assumption)) rfl (u_stage (d := d) h ws (by omega) hc hu (fun T1 N1 R1 P1 S1 cn1 un1 h1 hg => ?_))
  refine ⟨rfl, ?_⟩
  clear t0 t1 t2 t3 t4 t5 t6 t7 t8 t9 t10 t11 t12 t13 t14 v0 v1 v2 v3 v4 hru
  obtain ⟨⟨t0, t1, t2, t3, t4⟩, ⟨t5, t6, t7, t8, t9, t10⟩, ⟨t11, t12, t13, t14⟩, v0, v1, v2, v3, v4, -⟩ := h1.cx
  have hru := h1.ru' rfl
  have hR1 : R1 (nw + 1) = s.1 := h1.pa.nr.1
  clear m0 m1 m2 hpo hpr
  have hpo := h1.pa.ns.2.2.2.2.2 z.toNat hk4
  have m0 := hpo.1
  have m1 := hpo.2.1.1
  have m2 := hpo.2.2.1.1
  have hpr := h1.pa.nr.2.2.2.2 z.toNat hk
  have htl : rg (tl z.toNat) := by
    have := wtl z.toNat hk
    unfold rg
    omega
  refine s_aload_n 54 dX11_take_53 rfl rfl ?_
  refine s_aload_n 55 dX11_take_54 rfl rfl ?_
  refine g_X11_inHand 58 dX11_take_55 rfl fl_X11_25 ?_
  refine s_V1v 61 dX11_take_58 rfl km_X4_giveInto ml_X11_235 ds_X4_giveInto (Nat.le_of_ble_eq_true rfl) (q_rec (by assumption)) rfl (q_giveInto (d := d + 2) hpo t4 (by omega) hpr hwc (by omega) (by omega) htl (fun N2 R2 a1 a2 a3 a4 => ?_))
  refine ⟨rfl, ?_⟩
  generalize hms : ((s.2.2.2.2 z.toNat).2.2.1.getD 0 ([], 0)) = ms at *
  have h2 := h1.rows (tp' := tp) (bx' := bx) (hd' := ms.1) (R' := up R1 (q + 9) ms.1) (fun y hy => up_n (by omega)) (by rw [up_n (by omega)]; exact h1.tp') (by rw [up_n (by omega)]; exact h1.bx') (up_s _ _ _)
  have fR : ∀ y, (y < nw + 7 + 1 + 17 * z.toNat ∨ nw + 7 + 1 + 17 * z.toNat + 17 ≤ y) → R2 y = up R1 (q + 9) ms.1 y := fun y hy => by
    by_cases e : y = q + 9
    · rw [e, up_s]; exact a3
    · rw [up_n e]; exact a2 y e (by omega)
  have hs2 := h2.pa.nr.port hk a1 fR a4
  have h3 := h2.fr (fun y hy1 hy2 => a1 y (by omega)) (fun y hy1 hy2 => fR y (by omega)) hs2
  have hg2 := (hg.rows h1.pa (R' := up R1 (q + 9) ms.1) (fun y hy => up_n (by omega))).fr h2.pa (N' := N2) (R' := R2) (fun y hy1 hy2 => a1 y (by omega)) (fun y hy1 hy2 => fR y (by omega))
  refine s_aload_n 62 dX11_take_61 rfl rfl ?_
  refine g_X11_past 65 dX11_take_62 rfl fl_X11_52 ?_
  refine s_V0v 68 dX11_take_65 rfl km_X3_commit ml_X11_194 ds_X3_commit (Nat.le_of_ble_eq_true rfl) (q_rec (by assumption)) rfl (u_commit h3 hg2 (fun N3 f2 h4 => ?_))
  refine ⟨rfl, ?_⟩
  refine s_aload_n 69 dX11_take_68 rfl rfl ?_
  refine g_X11_inHand 72 dX11_take_69 rfl fl_X11_25 ?_
  refine g_X5_size 75 dX11_take_72 rfl fl_X11_76 ?_
  refine s_ireturn rfl dX11_take_75 ?_
  rw [a3]
  have eo : oTake (tp, bx, hd, rf, 1, ru, tl, s, ps, im) z = ((ms.1.length : Int), tp, bx, ms.1, rf, 1, ru, tl, chS s z.toNat (up (up (s.2.2.2.2 z.toNat).1 0 (min (tl z.toNat) ((s.2.2.2.2 z.toNat).1 0 + ms.2))) 7 ((s.2.2.2.2 z.toNat).1 7 + 1), (s.2.2.2.2 z.toNat).2.1, (s.2.2.2.2 z.toNat).2.2.1.drop 1, (s.2.2.2.2 z.toNat).2.2.2), kpF ps s, im) := by
    rw [← hms]
    exact if_neg (by omega)
  rw [eo] at hp
  exact hp _ h4.out
theorem u_renew {z : Int} (hz : rg z) (hm : RepP q c0 u0 (T, N, R, P, S, cn, un) Y) (hw : WfSy b Y) (hb : b ≤ 80000000) (hc : c0 ≤ gN G) (hu : u0 ≤ gU G) (hp : ∀ a', RepP q c0 u0 a' (oRenew Y z).2 → post (some (vi (oRenew Y z).1)) a') : Cm G (AP G F) yX11_renew cX11_renew 3 (some .int) (d + 7) [.ref q, vi z] (T, N, R, P, S, cn, un) post := by
  obtain ⟨tp, bx, hd, rf, il, ru, tl, s, ps, im⟩ := Y
  obtain ⟨nw, nx, h⟩ := hm
  obtain ⟨⟨t0, t1, t2, t3, t4⟩, ⟨t5, t6, t7, t8, t9, t10⟩, ⟨t11, t12, t13, t14⟩, v0, v1, v2, v3, v4, v5⟩ := h.cx
  have hw0 := hw
  obtain ⟨⟨wt1, wt2⟩, -, -, -, wil, -, -, w12, w1⟩ := hw0
  refine Cm_intro (L := [some (.ref q), some (vi z), none]) (by decide +kernel) (Nat.le_of_ble_eq_true rfl) rfl ?_
  refine s_aload_n 1 dX11_renew_0 rfl rfl ?_
  refine g_X11_hasLine 4 dX11_renew_1 rfl fl_X11_112 (fun hr1 => ?_)
  rw [h.il']
  rcases wil with rfl | rfl
  · refine s_if_ne 7 13 dX11_renew_4 rfl rfl (fun g => ?_) (fun g => ?_)
    · exact absurd rfl g
    refine s_aload_n 8 dX11_renew_7 rfl rfl ?_
    refine s_iconst 9 dX11_renew_8 rfl ?_
    refine s_V1i 12 dX11_renew_9 rfl km_X11_refuse ml_X11_168 ds_X11_refuse (Nat.le_of_ble_eq_true rfl) (q_rec (by assumption)) rfl (u_refuse (k := 0) (by omega) h hw (by omega) (fun N' h' => ?_))
    refine ⟨_, rfl, ?_⟩
    refine s_ireturn rfl dX11_renew_12 ?_
    have eo : oRenew (tp, bx, hd, rf, 0, ru, tl, s, ps, im) z = (-1, tp, bx, hd, rfF rf 0, 0, ru, tl, s, ps, im) := rfl
    rw [eo] at hp
    exact hp _ h'.out
  obtain ⟨wr, wtl, ⟨ws, wtc⟩, wps, wim⟩ := w1 rfl
  have hru := h.ru' rfl
  have hS1 : R (nw + 1) = s.1 := h.pa.nr.1
  have h600 := ws.1
  refine s_if_ne 7 13 dX11_renew_4 rfl rfl (fun g => ?_) (fun g => ?_)
  rotate_left
  · exact absurd (show (1 : Int) = 0 by omega) (by decide)
  have w5 := wr.2.2.2.2.2
  have hch : chOf 1 ru = (ru 5).toNat := rfl
  refine s_aload_n 14 dX11_renew_13 rfl rfl ?_
  refine u_now 17 dX11_renew_14 rfl fl_X11_70 ?_
  refine s_iload_n 18 dX11_renew_17 rfl rfl ?_
  refine s_V1n 21 dX11_renew_18 rfl km_X7_portAt ml_X11_171 ds_X7_portAt (Nat.le_of_ble_eq_true rfl) (q_rec (by assumption)) rfl (q_portAt h.pa.ns h.pa.nr.2.2.2.1.2.2.1 h.pa.c4 hz (fun g1 g2 => ?_) (fun g2 => ?_))
  refine ⟨_, rfl, ?_⟩
  rotate_left
  · refine ⟨_, rfl, ?_⟩
    rw [hch] at g2
    have hy : ¬ (0 ≤ z ∧ z < ru 5) := by omega
    refine s_astore_nN 22 dX11_renew_21 rfl (Nat.le_of_ble_eq_true rfl) rfl ?_
    refine s_aload_nN 23 dX11_renew_22 rfl rfl ?_
    refine s_ifnonnullN 26 dX11_renew_23 rfl ?_
    refine s_aload_n 27 dX11_renew_26 rfl rfl ?_
    refine s_iconst 28 dX11_renew_27 rfl ?_
    refine s_V1i 31 dX11_renew_28 rfl km_X11_refuse ml_X11_168 ds_X11_refuse (Nat.le_of_ble_eq_true rfl) (q_rec (by assumption)) rfl (u_refuse (k := 1) (by omega) h hw (by omega) (fun N' h' => ?_))
    refine ⟨_, rfl, ?_⟩
    refine s_ireturn rfl dX11_renew_31 ?_
    have eo : oRenew (tp, bx, hd, rf, 1, ru, tl, s, ps, im) z = (-1, tp, bx, hd, rfF rf 1, 1, ru, tl, s, ps, im) := if_pos hy
    rw [eo] at hp
    exact hp _ h'.out
  rw [hch] at g2
  have hy : 0 ≤ z ∧ z < ru 5 := by omega
  have hk : z.toNat < chOf 1 ru := by omega
  have hk4 : z.toNat < 4 := by omega
  have hpo := h.pa.ns.2.2.2.2.2 z.toNat hk4
  have m0 := hpo.1
  have m1 := hpo.2.1.1
  have m2 := hpo.2.2.1.1
  have hpr := h.pa.nr.2.2.2.2 z.toNat hk
  have hwc := ws.2.2.2.2.2.2.2.2.2.2 z.toNat hk
  have e3 : N (nw + 7 + 1 + 17 * z.toNat) 3 = tl z.toNat := hpr.1.1
  have e4 : N (nw + 7 + 1 + 17 * z.toNat) 4 = (s.2.2.2.2 z.toNat).1 0 := hpr.1.2 0 (by decide)
  have hle := wtc z.toNat hk
  have htl := wtl z.toNat hk
  have hcr := hwc.1
  refine s_astore_n 22 dX11_renew_21 rfl (Nat.le_of_ble_eq_true rfl) rfl ?_
  refine s_aload_n 23 dX11_renew_22 rfl rfl ?_
  refine s_ifnonnull 32 dX11_renew_23 rfl ?_
  refine s_aload_n 33 dX11_renew_32 rfl rfl ?_
  refine g_X4_credits 36 dX11_renew_33 rfl fl_X11_239 (fun hr33 => ?_)
  refine s_aload_n 37 dX11_renew_36 rfl rfl ?_
  refine g_X4_told 40 dX11_renew_37 rfl fl_X11_242 (fun hr37 => ?_)
  rw [e3, e4]
  refine s_icmp_lt 43 49 dX11_renew_40 rfl rfl (fun g4 => ?_) (fun g4 => ?_)
  rotate_left
  · refine s_aload_n 44 dX11_renew_43 rfl rfl ?_
    refine s_iconst 45 dX11_renew_44 rfl ?_
    refine s_V1i 48 dX11_renew_45 rfl km_X11_refuse ml_X11_168 ds_X11_refuse (Nat.le_of_ble_eq_true rfl) (q_rec (by assumption)) rfl (u_refuse (k := 2) (by omega) h hw (by omega) (fun N' h' => ?_))
    refine ⟨_, rfl, ?_⟩
    refine s_ireturn rfl dX11_renew_48 ?_
    have eo : oRenew (tp, bx, hd, rf, 1, ru, tl, s, ps, im) z = (-1, tp, bx, hd, rfF rf 2, 1, ru, tl, s, ps, im) := (if_neg (not_not_intro hy)).trans (if_pos (show (s.2.2.2.2 z.toNat).1 0 = tl z.toNat by omega))
    rw [eo] at hp
    exact hp _ h'.out
  refine s_aload_n 50 dX11_renew_49 rfl rfl ?_
  refine g_X11_past 53 dX11_renew_50 rfl fl_X11_52 ?_
  refine s_aload_n 54 dX11_renew_53 rfl rfl ?_
  refine u_now 57 dX11_renew_54 rfl fl_X11_70 ?_
  refine s_V1v 60 dX11_renew_57 rfl km_X3_stage ml_X11_186 ds_X3_stage (Nat.le_of_ble_eq_true rfl) (q_rec (by assumption)) rfl (u_stage (d := d) h ws (by omega) hc hu (fun T1 N1 R1 P1 S1 cn1 un1 h1 hg => ?_))
  refine ⟨rfl, ?_⟩
  clear t0 t1 t2 t3 t4 t5 t6 t7 t8 t9 t10 t11 t12 t13 t14 v0 v1 v2 v3 v4 hru
  obtain ⟨⟨t0, t1, t2, t3, t4⟩, ⟨t5, t6, t7, t8, t9, t10⟩, ⟨t11, t12, t13, t14⟩, v0, v1, v2, v3, v4, -⟩ := h1.cx
  have hru := h1.ru' rfl
  have hR1 : R1 (nw + 1) = s.1 := h1.pa.nr.1
  clear m0 m1 m2 hpo hpr
  have hpo := h1.pa.ns.2.2.2.2.2 z.toNat hk4
  have m0 := hpo.1
  have m1 := hpo.2.1.1
  have m2 := hpo.2.2.1.1
  have hpr := h1.pa.nr.2.2.2.2 z.toNat hk
  have e3 : N1 (nw + 7 + 1 + 17 * z.toNat) 3 = tl z.toNat := hpr.1.1
  refine s_aload_n 61 dX11_renew_60 rfl rfl ?_
  refine s_aload_n 62 dX11_renew_61 rfl rfl ?_
  refine g_X4_told 65 dX11_renew_62 rfl fl_X11_242 (fun hr62 => ?_)
  rw [e3]
  refine p_X4_credits 68 dX11_renew_65 rfl fl_X11_239 ?_
  generalize hN2 : up N1 (nw + 7 + 1 + 17 * z.toNat) (up (N1 (nw + 7 + 1 + 17 * z.toNat)) 4 (tl z.toNat)) = N2
  have f2 : frO (nw + 7 + 1 + 17 * z.toNat) (nw + 7 + 1 + 17 * z.toNat + 1) N1 N2 := by rw [← hN2]; exact frO.rf.up (by omega)
  have e5 : N2 (nw + 7 + 1 + 17 * z.toNat) = up (N1 (nw + 7 + 1 + 17 * z.toNat)) 4 (tl z.toNat) := by rw [← hN2, up_s]
  have hc2 : PoR N2 R1 (nw + 7 + 1 + 17 * z.toNat) (tl z.toNat) (up (s.2.2.2.2 z.toNat).1 0 (tl z.toNat), (s.2.2.2.2 z.toNat).2) := ⟨by rw [e5]; exact hpr.1.up 0, hpr.2.1, hpr.2.2.1, hpr.2.2.2⟩
  have hs2 := h1.pa.nr.port hk f2 frO.rf hc2
  have h2 := h1.fr (R' := R1) (fun y hy1 hy2 => f2 y (by omega)) (fun _ _ _ => rfl) hs2
  have hg2 := hg.fr h1.pa (N' := N2) (R' := R1) (fun y hy1 hy2 => f2 y (by omega)) (fun _ _ _ => rfl)
  refine s_aload_n 69 dX11_renew_68 rfl rfl ?_
  refine g_X11_past 72 dX11_renew_69 rfl fl_X11_52 ?_
  refine s_V0v 75 dX11_renew_72 rfl km_X3_commit ml_X11_194 ds_X3_commit (Nat.le_of_ble_eq_true rfl) (q_rec (by assumption)) rfl (u_commit h2 hg2 (fun N3 f3 h4 => ?_))
  refine ⟨rfl, ?_⟩
  refine s_aload_n 76 dX11_renew_75 rfl rfl ?_
  refine g_X4_credits 79 dX11_renew_76 rfl fl_X11_239 (fun hr76 => ?_)
  rw [f3 _ (by omega), e5, up_s]
  refine s_ireturn rfl dX11_renew_79 ?_
  have eo : oRenew (tp, bx, hd, rf, 1, ru, tl, s, ps, im) z = (tl z.toNat, tp, bx, hd, rf, 1, ru, tl, chS s z.toNat (up (s.2.2.2.2 z.toNat).1 0 (tl z.toNat), (s.2.2.2.2 z.toNat).2), kpF ps s, im) := (if_neg (not_not_intro hy)).trans (if_neg (show ¬ (s.2.2.2.2 z.toNat).1 0 = tl z.toNat by omega))
  rw [eo] at hp
  exact hp _ h4.out
end U4
