/-! ===== QuietLine: the acts ===== -/
theorem putN_no {ru : RU} {k : Nat} {s : ST} (h : (putN ru k s).1 = 0) : (putN ru k s).2 = s := by
  by_cases hc : canF ru s
  · cases k with
    | zero => rfl
    | succ k => rw [putN_y hc] at h; exact absurd h (by show ¬ (_ + 1 = 0); omega)
  · rw [putN_n hc]
theorem putN_le {ru : RU} : ∀ (k : Nat) (s : ST), (putN ru k s).1 ≤ k := by
  intro k
  induction k with
  | zero => intro s; exact Nat.le_refl _
  | succ k ih =>
    intro s
    by_cases hc : canF ru s
    · rw [putN_y hc]; exact Nat.succ_le_succ (ih _)
    · rw [putN_n hc]; exact Nat.zero_le _
section U3
variable {G : GT} {F : HS} {d : Nat} {T : Nat → Nat} {N : Nat → Nat → Int} {R : Nat → List Int} {P : Nat → Nat → Option Nat} {S : Nat → Int64} {cn un : Nat} {post : Option Value → PT → Prop} {q c0 u0 : Nat} {Y : SY} {b : Int}
theorem u_isFlip {z : Int} (hz : rg z) (hp : post (some (vb (decide (1 ≤ z ∧ z ≤ 255)))) (T, N, R, P, S, cn, un)) : Cm G (AP G F) yX11_isFlip cX11_isFlip 1 (some .boolean) d [vi z] (T, N, R, P, S, cn, un) post := by
  have no : ¬ (1 ≤ z ∧ z ≤ 255) → V G (AP G F) yX11_isFlip cX11_isFlip 1 (some .boolean) d (T, N, R, P, S, cn, un) 16 [some (vi z)] [] post := fun hy => by
    refine s_iconst 17 dX11_isFlip_16 rfl ?_
    first | refine s_zreturn rfl dX11_isFlip_17 ?_ | refine s_zreturn1 rfl dX11_isFlip_17 ?_ | refine s_zreturn0 rfl dX11_isFlip_17 ?_
    rw [decide_eq_false hy] at hp
    exact hp
  refine Cm_intro (L := [some (vi z)]) (by decide +kernel) (Nat.le_of_ble_eq_true rfl) rfl ?_
  refine s_iload_n 1 dX11_isFlip_0 rfl rfl ?_
  refine s_iconst 2 dX11_isFlip_1 rfl ?_
  refine s_icmp_lt 5 16 dX11_isFlip_2 rfl rfl (fun g1 => ?_) (fun g1 => ?_)
  · exact no (by omega)
  refine s_iload_n 6 dX11_isFlip_5 rfl rfl ?_
  refine s_sipush 9 dX11_isFlip_6 rfl (k := ?_)
  refine s_icmp_gt 12 16 dX11_isFlip_9 rfl rfl (fun g2 => ?_) (fun g2 => ?_)
  · exact no (by omega)
  refine s_iconst 13 dX11_isFlip_12 rfl ?_
  refine s_goto 17 dX11_isFlip_13 rfl ?_
  first | refine s_zreturn rfl dX11_isFlip_17 ?_ | refine s_zreturn1 rfl dX11_isFlip_17 ?_ | refine s_zreturn0 rfl dX11_isFlip_17 ?_
  rw [decide_eq_true (by omega)] at hp
  exact hp
theorem u_flip {i v : Int} (hi : rg i) (hv : rg v) (hm : RepP q c0 u0 (T, N, R, P, S, cn, un) Y) (hw : WfSy b Y) (hb : b ≤ 80000000) (hc : c0 ≤ gN G) (hu : u0 ≤ gU G) (hp : ∀ a', RepP q c0 u0 a' (oFlip Y i v).2 → post (some (vi (oFlip Y i v).1)) a') : Cm G (AP G F) yX11_flip cX11_flip 3 (some .int) (d + 7) [.ref q, vi i, vi v] (T, N, R, P, S, cn, un) post := by
  obtain ⟨tp, bx, hd, rf, il, ru, tl, s, ps, im⟩ := Y
  obtain ⟨nw, nx, h⟩ := hm
  obtain ⟨⟨t0, t1, t2, t3, t4⟩, ⟨t5, t6, t7, t8, t9, t10⟩, ⟨t11, t12, t13, t14⟩, v0, v1, v2, v3, v4, v5⟩ := h.cx
  have hw0 := hw
  obtain ⟨⟨wt1, wt2⟩, -, -, -, wil, -, -, w12, w1⟩ := hw0
  refine Cm_intro (L := [some (.ref q), some (vi i), some (vi v)]) (by decide +kernel) (Nat.le_of_ble_eq_true rfl) rfl ?_
  refine s_aload_n 1 dX11_flip_0 rfl rfl ?_
  refine g_X11_hasLine 4 dX11_flip_1 rfl fl_X11_112 (fun hr1 => ?_)
  rw [h.il']
  rcases wil with rfl | rfl
  · refine s_if_ne 7 13 dX11_flip_4 rfl rfl (fun g => ?_) (fun g => ?_)
    · exact absurd rfl g
    refine s_aload_n 8 dX11_flip_7 rfl rfl ?_
    refine s_iconst 9 dX11_flip_8 rfl ?_
    refine s_V1i 12 dX11_flip_9 rfl km_X11_refuse ml_X11_168 ds_X11_refuse (Nat.le_of_ble_eq_true rfl) (q_rec (by assumption)) rfl (u_refuse (k := 0) (by omega) h hw (by omega) (fun N' h' => ?_))
    refine ⟨_, rfl, ?_⟩
    refine s_ireturn rfl dX11_flip_12 ?_
    have eo : oFlip (tp, bx, hd, rf, 0, ru, tl, s, ps, im) i v = (-1, tp, bx, hd, rfF rf 0, 0, ru, tl, s, ps, im) := rfl
    rw [eo] at hp
    exact hp _ h'.out
  obtain ⟨wr, wtl, ⟨ws, wtc⟩, wps, wim⟩ := w1 rfl
  have hru := h.ru' rfl
  have hS1 : R (nw + 1) = s.1 := h.pa.nr.1
  have h600 := ws.1
  refine s_if_ne 7 13 dX11_flip_4 rfl rfl (fun g => ?_) (fun g => ?_)
  rotate_left
  · exact absurd (show (1 : Int) = 0 by omega) (by decide)
  refine s_aload_n 14 dX11_flip_13 rfl rfl ?_
  refine u_now 17 dX11_flip_14 rfl fl_X11_70 ?_
  refine g_X7_wire 20 dX11_flip_17 rfl fl_X11_142 ?_
  refine s_iload_n 21 dX11_flip_20 rfl rfl ?_
  refine s_V1b 24 dX11_flip_21 rfl km_X5_has ml_X11_204 ds_X5_has (Nat.le_of_ble_eq_true rfl) (q_recR (by assumption)) rfl (r_has v1 hi ?_)
  refine ⟨_, rfl, ?_⟩
  rw [hS1]
  by_cases hy : 0 ≤ i ∧ i < s.1.length
  rotate_left
  · rw [decide_eq_false hy]
    refine s_if_neb 27 33 dX11_flip_24 rfl rfl (fun g2 => ?_) (fun g2 => ?_)
    · exact absurd g2 (by decide)
    refine s_aload_n 28 dX11_flip_27 rfl rfl ?_
    refine s_iconst 29 dX11_flip_28 rfl ?_
    refine s_V1i 32 dX11_flip_29 rfl km_X11_refuse ml_X11_168 ds_X11_refuse (Nat.le_of_ble_eq_true rfl) (q_rec (by assumption)) rfl (u_refuse (k := 1) (by omega) h hw (by omega) (fun N' h' => ?_))
    refine ⟨_, rfl, ?_⟩
    refine s_ireturn rfl dX11_flip_32 ?_
    have eo : oFlip (tp, bx, hd, rf, 1, ru, tl, s, ps, im) i v = (-1, tp, bx, hd, rfF rf 1, 1, ru, tl, s, ps, im) := (if_pos hy)
    rw [eo] at hp
    exact hp _ h'.out
  rw [decide_eq_true hy]
  refine s_if_neb 27 33 dX11_flip_24 rfl rfl (fun g2 => ?_) (fun g2 => ?_)
  rotate_left
  · exact absurd g2 (by decide)
  refine s_iload_n 34 dX11_flip_33 rfl rfl ?_
  refine s_S1b 37 dX11_flip_34 rfl km_X11_isFlip rfl ml_X11_208 ds_X11_isFlip (Nat.le_of_ble_eq_true rfl) (u_isFlip hv ?_)
  refine ⟨_, rfl, ?_⟩
  by_cases hy2 : 1 ≤ v ∧ v ≤ 255
  rotate_left
  · rw [decide_eq_false hy2]
    refine s_if_neb 40 46 dX11_flip_37 rfl rfl (fun g3 => ?_) (fun g3 => ?_)
    · exact absurd g3 (by decide)
    refine s_aload_n 41 dX11_flip_40 rfl rfl ?_
    refine s_iconst 42 dX11_flip_41 rfl ?_
    refine s_V1i 45 dX11_flip_42 rfl km_X11_refuse ml_X11_168 ds_X11_refuse (Nat.le_of_ble_eq_true rfl) (q_rec (by assumption)) rfl (u_refuse (k := 2) (by omega) h hw (by omega) (fun N' h' => ?_))
    refine ⟨_, rfl, ?_⟩
    refine s_ireturn rfl dX11_flip_45 ?_
    have eo : oFlip (tp, bx, hd, rf, 1, ru, tl, s, ps, im) i v = (-1, tp, bx, hd, rfF rf 2, 1, ru, tl, s, ps, im) := ((if_neg (not_not_intro hy)).trans (if_pos hy2))
    rw [eo] at hp
    exact hp _ h'.out
  rw [decide_eq_true hy2]
  refine s_if_neb 40 46 dX11_flip_37 rfl rfl (fun g3 => ?_) (fun g3 => ?_)
  rotate_left
  · exact absurd g3 (by decide)
  refine s_aload_n 47 dX11_flip_46 rfl rfl ?_
  refine g_X11_past 50 dX11_flip_47 rfl fl_X11_52 ?_
  refine s_aload_n 51 dX11_flip_50 rfl rfl ?_
  refine u_now 54 dX11_flip_51 rfl fl_X11_70 ?_
  refine s_V1v 57 dX11_flip_54 rfl km_X3_stage ml_X11_186 ds_X3_stage (Nat.le_of_ble_eq_true rfl) (q_rec (by assumption)) rfl (u_stage (d := d) h ws (by omega) hc hu (fun T1 N1 R1 P1 S1 cn1 un1 h1 hg => ?_))
  refine ⟨rfl, ?_⟩
  clear t0 t1 t2 t3 t4 t5 t6 t7 t8 t9 t10 t11 t12 t13 t14 v0 v1 v2 v3 v4 hru
  obtain ⟨⟨t0, t1, t2, t3, t4⟩, ⟨t5, t6, t7, t8, t9, t10⟩, ⟨t11, t12, t13, t14⟩, v0, v1, v2, v3, v4, -⟩ := h1.cx
  have hru := h1.ru' rfl
  have hR1 : R1 (nw + 1) = s.1 := h1.pa.nr.1
  have ha : atF s.1 i = s.1.getD i.toNat 0 := if_pos hy
  have hby := byt_at ws.2.1 i.toNat
  have hxr := xr_rg hby (b := v) (by omega)
  refine s_aload_n 58 dX11_flip_57 rfl rfl ?_
  refine u_now 61 dX11_flip_58 rfl fl_X11_70 ?_
  refine g_X7_wire 64 dX11_flip_61 rfl fl_X11_142 ?_
  refine s_iload_n 65 dX11_flip_64 rfl rfl ?_
  refine s_aload_n 66 dX11_flip_65 rfl rfl ?_
  refine u_now 69 dX11_flip_66 rfl fl_X11_70 ?_
  refine g_X7_wire 72 dX11_flip_69 rfl fl_X11_142 ?_
  refine s_iload_n 73 dX11_flip_72 rfl rfl ?_
  refine s_V1i 76 dX11_flip_73 rfl km_X5_at ml_X11_201 ds_X5_at (Nat.le_of_ble_eq_true rfl) (q_recR (by assumption)) rfl (r_atK v1 hR1 hi (fun _ => ?_))
  refine ⟨_, rfl, ?_⟩
  rw [ha]
  refine s_iload_n 77 dX11_flip_76 rfl rfl ?_
  refine s_ixor 78 (xr (s.1.getD i.toNat 0) v) dX11_flip_77 rfl ((xor_xr hby.1 (by omega))) ?_
  refine s_V2v 81 dX11_flip_78 rfl km_X5_set ml_X11_211 ds_X5_set (Nat.le_of_ble_eq_true rfl) (q_recR (by assumption)) rfl (r_setK v1 hR1 hy hi (by unfold rg; omega) ?_)
  refine ⟨rfl, ?_⟩
  have h2 := h1.fr (N' := N1) (fun _ _ _ => rfl) (fun y hy1 hy2 => up_n (by omega)) (h1.pa.nr.wire (w := s.1.set i.toNat (xr (s.1.getD i.toNat 0) v)))
  have hg2 := hg.fr h1.pa (N' := N1) (R' := up R1 (nw + 1) (s.1.set i.toNat (xr (s.1.getD i.toNat 0) v))) (fun _ _ _ => rfl) (fun y hy1 hy2 => up_n (by omega))
  refine s_aload_n 82 dX11_flip_81 rfl rfl ?_
  refine g_X11_past 85 dX11_flip_82 rfl fl_X11_52 ?_
  refine s_V0v 88 dX11_flip_85 rfl km_X3_commit ml_X11_194 ds_X3_commit (Nat.le_of_ble_eq_true rfl) (q_rec (by assumption)) rfl (u_commit h2 hg2 (fun N2 f2 h3 => ?_))
  refine ⟨rfl, ?_⟩
  refine s_aload_n 89 dX11_flip_88 rfl rfl ?_
  refine u_now 92 dX11_flip_89 rfl fl_X11_70 ?_
  refine g_X7_wire 95 dX11_flip_92 rfl fl_X11_142 ?_
  refine s_iload_n 96 dX11_flip_95 rfl rfl ?_
  refine s_V1i 99 dX11_flip_96 rfl km_X5_at ml_X11_201 ds_X5_at (Nat.le_of_ble_eq_true rfl) (q_recR (by assumption)) rfl (r_atK v1 (up_s _ _ _) hi (fun _ => ?_))
  refine ⟨_, rfl, ?_⟩
  refine s_ireturn rfl dX11_flip_99 ?_
  have e9 : atF (s.1.set i.toNat (xr (s.1.getD i.toNat 0) v)) i = xr (s.1.getD i.toNat 0) v := by
    unfold atF
    rw [List.length_set, if_pos hy, List.getD_eq_getElem?_getD, List.getElem?_set_self (by omega)]
    rfl
  rw [e9]
  have eo : oFlip (tp, bx, hd, rf, 1, ru, tl, s, ps, im) i v = (xr (s.1.getD i.toNat 0) v, tp, bx, hd, rf, 1, ru, tl, (s.1.set i.toNat (xr (s.1.getD i.toNat 0) v), s.2), kpF ps s, im) := ((if_neg (not_not_intro hy)).trans (if_neg (not_not_intro hy2)))
  rw [eo] at hp
  exact hp _ h3.out
theorem u_lose {i : Int} (hi : rg i) (hm : RepP q c0 u0 (T, N, R, P, S, cn, un) Y) (hw : WfSy b Y) (hb : b ≤ 80000000) (hc : c0 ≤ gN G) (hu : u0 ≤ gU G) (hp : ∀ a', RepP q c0 u0 a' (oLose Y i).2 → post (some (vi (oLose Y i).1)) a') : Cm G (AP G F) yX11_lose cX11_lose 3 (some .int) (d + 7) [.ref q, vi i] (T, N, R, P, S, cn, un) post := by
  obtain ⟨tp, bx, hd, rf, il, ru, tl, s, ps, im⟩ := Y
  obtain ⟨nw, nx, h⟩ := hm
  obtain ⟨⟨t0, t1, t2, t3, t4⟩, ⟨t5, t6, t7, t8, t9, t10⟩, ⟨t11, t12, t13, t14⟩, v0, v1, v2, v3, v4, v5⟩ := h.cx
  have hw0 := hw
  obtain ⟨⟨wt1, wt2⟩, -, -, -, wil, -, -, w12, w1⟩ := hw0
  refine Cm_intro (L := [some (.ref q), some (vi i), none]) (by decide +kernel) (Nat.le_of_ble_eq_true rfl) rfl ?_
  refine s_aload_n 1 dX11_lose_0 rfl rfl ?_
  refine g_X11_hasLine 4 dX11_lose_1 rfl fl_X11_112 (fun hr1 => ?_)
  rw [h.il']
  rcases wil with rfl | rfl
  · refine s_if_ne 7 13 dX11_lose_4 rfl rfl (fun g => ?_) (fun g => ?_)
    · exact absurd rfl g
    refine s_aload_n 8 dX11_lose_7 rfl rfl ?_
    refine s_iconst 9 dX11_lose_8 rfl ?_
    refine s_V1i 12 dX11_lose_9 rfl km_X11_refuse ml_X11_168 ds_X11_refuse (Nat.le_of_ble_eq_true rfl) (q_rec (by assumption)) rfl (u_refuse (k := 0) (by omega) h hw (by omega) (fun N' h' => ?_))
    refine ⟨_, rfl, ?_⟩
    refine s_ireturn rfl dX11_lose_12 ?_
    have eo : oLose (tp, bx, hd, rf, 0, ru, tl, s, ps, im) i = (-1, tp, bx, hd, rfF rf 0, 0, ru, tl, s, ps, im) := rfl
    rw [eo] at hp
    exact hp _ h'.out
  obtain ⟨wr, wtl, ⟨ws, wtc⟩, wps, wim⟩ := w1 rfl
  have hru := h.ru' rfl
  have hS1 : R (nw + 1) = s.1 := h.pa.nr.1
  have h600 := ws.1
  refine s_if_ne 7 13 dX11_lose_4 rfl rfl (fun g => ?_) (fun g => ?_)
  rotate_left
  · exact absurd (show (1 : Int) = 0 by omega) (by decide)
  refine s_aload_n 14 dX11_lose_13 rfl rfl ?_
  refine u_now 17 dX11_lose_14 rfl fl_X11_70 ?_
  refine g_X7_wire 20 dX11_lose_17 rfl fl_X11_142 ?_
  refine s_iload_n 21 dX11_lose_20 rfl rfl ?_
  refine s_V1b 24 dX11_lose_21 rfl km_X5_has ml_X11_204 ds_X5_has (Nat.le_of_ble_eq_true rfl) (q_recR (by assumption)) rfl (r_has v1 hi ?_)
  refine ⟨_, rfl, ?_⟩
  rw [hS1]
  by_cases hy : 0 ≤ i ∧ i < s.1.length
  rotate_left
  · rw [decide_eq_false hy]
    refine s_if_neb 27 33 dX11_lose_24 rfl rfl (fun g2 => ?_) (fun g2 => ?_)
    · exact absurd g2 (by decide)
    refine s_aload_n 28 dX11_lose_27 rfl rfl ?_
    refine s_iconst 29 dX11_lose_28 rfl ?_
    refine s_V1i 32 dX11_lose_29 rfl km_X11_refuse ml_X11_168 ds_X11_refuse (Nat.le_of_ble_eq_true rfl) (q_rec (by assumption)) rfl (u_refuse (k := 1) (by omega) h hw (by omega) (fun N' h' => ?_))
    refine ⟨_, rfl, ?_⟩
    refine s_ireturn rfl dX11_lose_32 ?_
    have eo : oLose (tp, bx, hd, rf, 1, ru, tl, s, ps, im) i = (-1, tp, bx, hd, rfF rf 1, 1, ru, tl, s, ps, im) := (if_pos hy)
    rw [eo] at hp
    exact hp _ h'.out
  rw [decide_eq_true hy]
  refine s_if_neb 27 33 dX11_lose_24 rfl rfl (fun g2 => ?_) (fun g2 => ?_)
  rotate_left
  · exact absurd g2 (by decide)
  have ha : atF s.1 i = s.1.getD i.toNat 0 := if_pos hy
  refine s_aload_n 34 dX11_lose_33 rfl rfl ?_
  refine u_now 37 dX11_lose_34 rfl fl_X11_70 ?_
  refine g_X7_wire 40 dX11_lose_37 rfl fl_X11_142 ?_
  refine s_iload_n 41 dX11_lose_40 rfl rfl ?_
  refine s_V1i 44 dX11_lose_41 rfl km_X5_at ml_X11_201 ds_X5_at (Nat.le_of_ble_eq_true rfl) (q_recR (by assumption)) rfl (r_atK v1 hS1 hi (fun _ => ?_))
  refine ⟨_, rfl, ?_⟩
  rw [ha]
  refine s_istore_n 45 dX11_lose_44 rfl (Nat.le_of_ble_eq_true rfl) rfl ?_
  refine s_aload_n 46 dX11_lose_45 rfl rfl ?_
  refine g_X11_past 49 dX11_lose_46 rfl fl_X11_52 ?_
  refine s_aload_n 50 dX11_lose_49 rfl rfl ?_
  refine u_now 53 dX11_lose_50 rfl fl_X11_70 ?_
  refine s_V1v 56 dX11_lose_53 rfl km_X3_stage ml_X11_186 ds_X3_stage (Nat.le_of_ble_eq_true rfl) (q_rec (by assumption)) rfl (u_stage (d := d) h ws (by omega) hc hu (fun T1 N1 R1 P1 S1 cn1 un1 h1 hg => ?_))
  refine ⟨rfl, ?_⟩
  clear t0 t1 t2 t3 t4 t5 t6 t7 t8 t9 t10 t11 t12 t13 t14 v0 v1 v2 v3 v4 hru
  obtain ⟨⟨t0, t1, t2, t3, t4⟩, ⟨t5, t6, t7, t8, t9, t10⟩, ⟨t11, t12, t13, t14⟩, v0, v1, v2, v3, v4, -⟩ := h1.cx
  have hru := h1.ru' rfl
  have hR1 : R1 (nw + 1) = s.1 := h1.pa.nr.1
  refine s_aload_n 57 dX11_lose_56 rfl rfl ?_
  refine u_now 60 dX11_lose_57 rfl fl_X11_70 ?_
  refine g_X7_wire 63 dX11_lose_60 rfl fl_X11_142 ?_
  refine s_iload_n 64 dX11_lose_63 rfl rfl ?_
  refine s_V1v 67 dX11_lose_64 rfl km_X5_removeAt ml_X11_215 ds_X5_removeAt (Nat.le_of_ble_eq_true rfl) (q_recR (by assumption)) rfl (r_removeAt v1 hi ?_)
  refine ⟨rfl, ?_⟩
  rw [hR1, if_pos hy]
  have h2 := h1.fr (N' := N1) (fun _ _ _ => rfl) (fun y hy1 hy2 => up_n (by omega)) (h1.pa.nr.wire (w := losL s.1 i.toNat))
  have hg2 := hg.fr h1.pa (N' := N1) (R' := up R1 (nw + 1) (losL s.1 i.toNat)) (fun _ _ _ => rfl) (fun y hy1 hy2 => up_n (by omega))
  refine s_aload_n 68 dX11_lose_67 rfl rfl ?_
  refine g_X11_past 71 dX11_lose_68 rfl fl_X11_52 ?_
  refine s_V0v 74 dX11_lose_71 rfl km_X3_commit ml_X11_194 ds_X3_commit (Nat.le_of_ble_eq_true rfl) (q_rec (by assumption)) rfl (u_commit h2 hg2 (fun N2 f2 h3 => ?_))
  refine ⟨rfl, ?_⟩
  refine s_iload_n 75 dX11_lose_74 rfl rfl ?_
  refine s_ireturn rfl dX11_lose_75 ?_
  have eo : oLose (tp, bx, hd, rf, 1, ru, tl, s, ps, im) i = (s.1.getD i.toNat 0, tp, bx, hd, rf, 1, ru, tl, (losL s.1 i.toNat, s.2), kpF ps s, im) := (if_neg (not_not_intro hy))
  rw [eo] at hp
  exact hp _ h3.out
theorem u_insert {i v : Int} (hi : rg i) (hv : rg v) (hm : RepP q c0 u0 (T, N, R, P, S, cn, un) Y) (hw : WfSy b Y) (hb : b ≤ 80000000) (hc : c0 ≤ gN G) (hu : u0 ≤ gU G) (hp : ∀ a', RepP q c0 u0 a' (oInsert Y i v).2 → post (some (vi (oInsert Y i v).1)) a') : Cm G (AP G F) yX11_insert cX11_insert 3 (some .int) (d + 7) [.ref q, vi i, vi v] (T, N, R, P, S, cn, un) post := by
  obtain ⟨tp, bx, hd, rf, il, ru, tl, s, ps, im⟩ := Y
  obtain ⟨nw, nx, h⟩ := hm
  obtain ⟨⟨t0, t1, t2, t3, t4⟩, ⟨t5, t6, t7, t8, t9, t10⟩, ⟨t11, t12, t13, t14⟩, v0, v1, v2, v3, v4, v5⟩ := h.cx
  have hw0 := hw
  obtain ⟨⟨wt1, wt2⟩, -, -, -, wil, -, -, w12, w1⟩ := hw0
  refine Cm_intro (L := [some (.ref q), some (vi i), some (vi v)]) (by decide +kernel) (Nat.le_of_ble_eq_true rfl) rfl ?_
  refine s_aload_n 1 dX11_insert_0 rfl rfl ?_
  refine g_X11_hasLine 4 dX11_insert_1 rfl fl_X11_112 (fun hr1 => ?_)
  rw [h.il']
  rcases wil with rfl | rfl
  · refine s_if_ne 7 13 dX11_insert_4 rfl rfl (fun g => ?_) (fun g => ?_)
    · exact absurd rfl g
    refine s_aload_n 8 dX11_insert_7 rfl rfl ?_
    refine s_iconst 9 dX11_insert_8 rfl ?_
    refine s_V1i 12 dX11_insert_9 rfl km_X11_refuse ml_X11_168 ds_X11_refuse (Nat.le_of_ble_eq_true rfl) (q_rec (by assumption)) rfl (u_refuse (k := 0) (by omega) h hw (by omega) (fun N' h' => ?_))
    refine ⟨_, rfl, ?_⟩
    refine s_ireturn rfl dX11_insert_12 ?_
    have eo : oInsert (tp, bx, hd, rf, 0, ru, tl, s, ps, im) i v = (-1, tp, bx, hd, rfF rf 0, 0, ru, tl, s, ps, im) := rfl
    rw [eo] at hp
    exact hp _ h'.out
  obtain ⟨wr, wtl, ⟨ws, wtc⟩, wps, wim⟩ := w1 rfl
  have hru := h.ru' rfl
  have hS1 : R (nw + 1) = s.1 := h.pa.nr.1
  have h600 := ws.1
  refine s_if_ne 7 13 dX11_insert_4 rfl rfl (fun g => ?_) (fun g => ?_)
  rotate_left
  · exact absurd (show (1 : Int) = 0 by omega) (by decide)
  have no : ¬ (0 ≤ i ∧ i ≤ s.1.length) → V G (AP G F) yX11_insert cX11_insert 3 (some .int) (d + 7) (T, N, R, P, S, cn, un) 31 [some (.ref q), some (vi i), some (vi v)] [] post := fun hy => by
    refine s_aload_n 32 dX11_insert_31 rfl rfl ?_
    refine s_iconst 33 dX11_insert_32 rfl ?_
    refine s_V1i 36 dX11_insert_33 rfl km_X11_refuse ml_X11_168 ds_X11_refuse (Nat.le_of_ble_eq_true rfl) (q_rec (by assumption)) rfl (u_refuse (k := 1) (by omega) h hw (by omega) (fun N' h' => ?_))
    refine ⟨_, rfl, ?_⟩
    refine s_ireturn rfl dX11_insert_36 ?_
    have eo : oInsert (tp, bx, hd, rf, 1, ru, tl, s, ps, im) i v = (-1, tp, bx, hd, rfF rf 1, 1, ru, tl, s, ps, im) := (if_pos hy)
    rw [eo] at hp
    exact hp _ h'.out
  have no2 : 0 ≤ i ∧ i ≤ s.1.length → ¬ (0 ≤ v ∧ v ≤ 255) → V G (AP G F) yX11_insert cX11_insert 3 (some .int) (d + 7) (T, N, R, P, S, cn, un) 48 [some (.ref q), some (vi i), some (vi v)] [] post := fun hy hy2 => by
    refine s_aload_n 49 dX11_insert_48 rfl rfl ?_
    refine s_iconst 50 dX11_insert_49 rfl ?_
    refine s_V1i 53 dX11_insert_50 rfl km_X11_refuse ml_X11_168 ds_X11_refuse (Nat.le_of_ble_eq_true rfl) (q_rec (by assumption)) rfl (u_refuse (k := 2) (by omega) h hw (by omega) (fun N' h' => ?_))
    refine ⟨_, rfl, ?_⟩
    refine s_ireturn rfl dX11_insert_53 ?_
    have eo : oInsert (tp, bx, hd, rf, 1, ru, tl, s, ps, im) i v = (-1, tp, bx, hd, rfF rf 2, 1, ru, tl, s, ps, im) := ((if_neg (not_not_intro hy)).trans (if_pos hy2))
    rw [eo] at hp
    exact hp _ h'.out
  refine s_iload_n 14 dX11_insert_13 rfl rfl ?_
  refine s_if_lt 17 31 dX11_insert_14 rfl rfl (fun g1 => ?_) (fun g1 => ?_)
  · exact no (by omega)
  refine s_iload_n 18 dX11_insert_17 rfl rfl ?_
  refine s_aload_n 19 dX11_insert_18 rfl rfl ?_
  refine u_now 22 dX11_insert_19 rfl fl_X11_70 ?_
  refine g_X7_wire 25 dX11_insert_22 rfl fl_X11_142 ?_
  refine g_X5_size 28 dX11_insert_25 rfl fl_X11_76 ?_
  rw [hS1]
  refine s_icmp_le 31 37 dX11_insert_28 rfl rfl (fun g2 => ?_) (fun g2 => ?_)
  rotate_left
  · exact no (by omega)
  refine s_iload_n 38 dX11_insert_37 rfl rfl ?_
  refine s_if_lt 41 48 dX11_insert_38 rfl rfl (fun g3 => ?_) (fun g3 => ?_)
  · exact no2 (by omega) (by omega)
  refine s_iload_n 42 dX11_insert_41 rfl rfl ?_
  refine s_sipush 45 dX11_insert_42 rfl (k := ?_)
  refine s_icmp_le 48 54 dX11_insert_45 rfl rfl (fun g4 => ?_) (fun g4 => ?_)
  rotate_left
  · exact no2 (by omega) (by omega)
  refine s_aload_n 55 dX11_insert_54 rfl rfl ?_
  refine u_now 58 dX11_insert_55 rfl fl_X11_70 ?_
  refine g_X7_wire 61 dX11_insert_58 rfl fl_X11_142 ?_
  refine g_X5_size 64 dX11_insert_61 rfl fl_X11_76 ?_
  rw [hS1]
  refine s_sipush 67 dX11_insert_64 rfl (k := ?_)
  have hy : 0 ≤ i ∧ i ≤ s.1.length := by omega
  have hy2 : 0 ≤ v ∧ v ≤ 255 := by omega
  refine s_icmp_lt 70 76 dX11_insert_67 rfl rfl (fun g5 => ?_) (fun g5 => ?_)
  rotate_left
  · refine s_aload_n 71 dX11_insert_70 rfl rfl ?_
    refine s_iconst 72 dX11_insert_71 rfl ?_
    refine s_V1i 75 dX11_insert_72 rfl km_X11_refuse ml_X11_168 ds_X11_refuse (Nat.le_of_ble_eq_true rfl) (q_rec (by assumption)) rfl (u_refuse (k := 3) (by omega) h hw (by omega) (fun N' h' => ?_))
    refine ⟨_, rfl, ?_⟩
    refine s_ireturn rfl dX11_insert_75 ?_
    have eo : oInsert (tp, bx, hd, rf, 1, ru, tl, s, ps, im) i v = (-1, tp, bx, hd, rfF rf 3, 1, ru, tl, s, ps, im) := ((if_neg (not_not_intro hy)).trans ((if_neg (not_not_intro hy2)).trans (if_pos (by omega))))
    rw [eo] at hp
    exact hp _ h'.out
  refine s_aload_n 77 dX11_insert_76 rfl rfl ?_
  refine g_X11_past 80 dX11_insert_77 rfl fl_X11_52 ?_
  refine s_aload_n 81 dX11_insert_80 rfl rfl ?_
  refine u_now 84 dX11_insert_81 rfl fl_X11_70 ?_
  refine s_V1v 87 dX11_insert_84 rfl km_X3_stage ml_X11_186 ds_X3_stage (Nat.le_of_ble_eq_true rfl) (q_rec (by assumption)) rfl (u_stage (d := d) h ws (by omega) hc hu (fun T1 N1 R1 P1 S1 cn1 un1 h1 hg => ?_))
  refine ⟨rfl, ?_⟩
  clear t0 t1 t2 t3 t4 t5 t6 t7 t8 t9 t10 t11 t12 t13 t14 v0 v1 v2 v3 v4 hru
  obtain ⟨⟨t0, t1, t2, t3, t4⟩, ⟨t5, t6, t7, t8, t9, t10⟩, ⟨t11, t12, t13, t14⟩, v0, v1, v2, v3, v4, -⟩ := h1.cx
  have hru := h1.ru' rfl
  have hR1 : R1 (nw + 1) = s.1 := h1.pa.nr.1
  refine s_aload_n 88 dX11_insert_87 rfl rfl ?_
  refine u_now 91 dX11_insert_88 rfl fl_X11_70 ?_
  refine g_X7_wire 94 dX11_insert_91 rfl fl_X11_142 ?_
  refine s_iload_n 95 dX11_insert_94 rfl rfl ?_
  refine s_iload_n 96 dX11_insert_95 rfl rfl ?_
  refine s_V2v 99 dX11_insert_96 rfl km_X5_insertAt ml_X11_218 ds_X5_insertAt (Nat.le_of_ble_eq_true rfl) (q_recR (by assumption)) rfl (r_insertAt v1 hi hv ?_)
  refine ⟨rfl, ?_⟩
  rw [hR1, if_pos (by omega)]
  have h2 := h1.fr (N' := N1) (fun _ _ _ => rfl) (fun y hy1 hy2 => up_n (by omega)) (h1.pa.nr.wire (w := insL s.1 i.toNat v))
  have hg2 := hg.fr h1.pa (N' := N1) (R' := up R1 (nw + 1) (insL s.1 i.toNat v)) (fun _ _ _ => rfl) (fun y hy1 hy2 => up_n (by omega))
  refine s_aload_n 100 dX11_insert_99 rfl rfl ?_
  refine g_X11_past 103 dX11_insert_100 rfl fl_X11_52 ?_
  refine s_V0v 106 dX11_insert_103 rfl km_X3_commit ml_X11_194 ds_X3_commit (Nat.le_of_ble_eq_true rfl) (q_rec (by assumption)) rfl (u_commit h2 hg2 (fun N2 f2 h3 => ?_))
  refine ⟨rfl, ?_⟩
  refine s_aload_n 107 dX11_insert_106 rfl rfl ?_
  refine u_now 110 dX11_insert_107 rfl fl_X11_70 ?_
  refine g_X7_wire 113 dX11_insert_110 rfl fl_X11_142 ?_
  refine g_X5_size 116 dX11_insert_113 rfl fl_X11_76 ?_
  refine s_ireturn rfl dX11_insert_116 ?_
  have e9 : ((insL s.1 i.toNat v).length : Int) = s.1.length + 1 := by
    unfold insL
    rw [List.length_append, List.length_cons, List.length_take, List.length_drop]
    omega
  rw [up_s, e9]
  have eo : oInsert (tp, bx, hd, rf, 1, ru, tl, s, ps, im) i v = ((s.1.length : Int) + 1, tp, bx, hd, rf, 1, ru, tl, (insL s.1 i.toNat v, s.2), kpF ps s, im) := ((if_neg (not_not_intro hy)).trans ((if_neg (not_not_intro hy2)).trans (if_neg (by omega))))
  rw [eo] at hp
  exact hp _ h3.out
theorem u_put {n : Int} (hn : rg n) (hm : RepP q c0 u0 (T, N, R, P, S, cn, un) Y) (hw : WfSy b Y) (hb : b ≤ 80000000) (hc : c0 ≤ gN G) (hu : u0 ≤ gU G) (hp : ∀ a', RepP q c0 u0 a' (oPut Y n).2 → post (some (vi (oPut Y n).1)) a') : Cm G (AP G F) yX11_put cX11_put 3 (some .int) (d + 7) [.ref q, vi n] (T, N, R, P, S, cn, un) post := by
  obtain ⟨tp, bx, hd, rf, il, ru, tl, s, ps, im⟩ := Y
  obtain ⟨nw, nx, h⟩ := hm
  obtain ⟨⟨t0, t1, t2, t3, t4⟩, ⟨t5, t6, t7, t8, t9, t10⟩, ⟨t11, t12, t13, t14⟩, v0, v1, v2, v3, v4, v5⟩ := h.cx
  have hw0 := hw
  obtain ⟨⟨wt1, wt2⟩, -, -, -, wil, -, -, w12, w1⟩ := hw0
  refine Cm_intro (L := [some (.ref q), some (vi n), none]) (by decide +kernel) (Nat.le_of_ble_eq_true rfl) rfl ?_
  refine s_aload_n 1 dX11_put_0 rfl rfl ?_
  refine g_X11_hasLine 4 dX11_put_1 rfl fl_X11_112 (fun hr1 => ?_)
  rw [h.il']
  rcases wil with rfl | rfl
  · refine s_if_ne 7 13 dX11_put_4 rfl rfl (fun g => ?_) (fun g => ?_)
    · exact absurd rfl g
    refine s_aload_n 8 dX11_put_7 rfl rfl ?_
    refine s_iconst 9 dX11_put_8 rfl ?_
    refine s_V1i 12 dX11_put_9 rfl km_X11_refuse ml_X11_168 ds_X11_refuse (Nat.le_of_ble_eq_true rfl) (q_rec (by assumption)) rfl (u_refuse (k := 0) (by omega) h hw (by omega) (fun N' h' => ?_))
    refine ⟨_, rfl, ?_⟩
    refine s_ireturn rfl dX11_put_12 ?_
    have eo : oPut (tp, bx, hd, rf, 0, ru, tl, s, ps, im) n = (-1, tp, bx, hd, rfF rf 0, 0, ru, tl, s, ps, im) := rfl
    rw [eo] at hp
    exact hp _ h'.out
  obtain ⟨wr, wtl, ⟨ws, wtc⟩, wps, wim⟩ := w1 rfl
  have hru := h.ru' rfl
  have hS1 : R (nw + 1) = s.1 := h.pa.nr.1
  have h600 := ws.1
  refine s_if_ne 7 13 dX11_put_4 rfl rfl (fun g => ?_) (fun g => ?_)
  rotate_left
  · exact absurd (show (1 : Int) = 0 by omega) (by decide)
  have no : ¬ (1 ≤ n ∧ n ≤ 60) → V G (AP G F) yX11_put cX11_put 3 (some .int) (d + 7) (T, N, R, P, S, cn, un) 24 [some (.ref q), some (vi n), none] [] post := fun hy => by
    refine s_aload_n 25 dX11_put_24 rfl rfl ?_
    refine s_iconst 26 dX11_put_25 rfl ?_
    refine s_V1i 29 dX11_put_26 rfl km_X11_refuse ml_X11_168 ds_X11_refuse (Nat.le_of_ble_eq_true rfl) (q_rec (by assumption)) rfl (u_refuse (k := 2) (by omega) h hw (by omega) (fun N' h' => ?_))
    refine ⟨_, rfl, ?_⟩
    refine s_ireturn rfl dX11_put_29 ?_
    have eo : oPut (tp, bx, hd, rf, 1, ru, tl, s, ps, im) n = (-1, tp, bx, hd, rfF rf 2, 1, ru, tl, s, ps, im) := (if_pos hy)
    rw [eo] at hp
    exact hp _ h'.out
  refine s_iload_n 14 dX11_put_13 rfl rfl ?_
  refine s_iconst 15 dX11_put_14 rfl ?_
  refine s_icmp_lt 18 24 dX11_put_15 rfl rfl (fun g1 => ?_) (fun g1 => ?_)
  · exact no (by omega)
  refine s_iload_n 19 dX11_put_18 rfl rfl ?_
  refine s_bipush 21 dX11_put_19 rfl (k := ?_)
  refine s_icmp_le 24 30 dX11_put_21 rfl rfl (fun g2 => ?_) (fun g2 => ?_)
  rotate_left
  · exact no (by omega)
  obtain ⟨k, rfl⟩ := Int.eq_ofNat_of_zero_le (show 0 ≤ n by omega)
  have hy : 1 ≤ (k : Int) ∧ (k : Int) ≤ 60 := by omega
  refine s_aload_n 31 dX11_put_30 rfl rfl ?_
  refine g_X11_past 34 dX11_put_31 rfl fl_X11_52 ?_
  refine s_aload_n 35 dX11_put_34 rfl rfl ?_
  refine u_now 38 dX11_put_35 rfl fl_X11_70 ?_
  refine s_V1v 41 dX11_put_38 rfl km_X3_stage ml_X11_186 ds_X3_stage (Nat.le_of_ble_eq_true rfl) (q_rec (by assumption)) rfl (u_stage (d := d) h ws (by omega) hc hu (fun T1 N1 R1 P1 S1 cn1 un1 h1 hg => ?_))
  refine ⟨rfl, ?_⟩
  clear t0 t1 t2 t3 t4 t5 t6 t7 t8 t9 t10 t11 t12 t13 t14 v0 v1 v2 v3 v4 hru
  obtain ⟨⟨t0, t1, t2, t3, t4⟩, ⟨t5, t6, t7, t8, t9, t10⟩, ⟨t11, t12, t13, t14⟩, v0, v1, v2, v3, v4, -⟩ := h1.cx
  have hru := h1.ru' rfl
  have hR1 : R1 (nw + 1) = s.1 := h1.pa.nr.1
  refine s_aload_n 42 dX11_put_41 rfl rfl ?_
  refine u_now 45 dX11_put_42 rfl fl_X11_70 ?_
  refine s_iload_n 46 dX11_put_45 rfl rfl ?_
  refine s_aload_n 47 dX11_put_46 rfl rfl ?_
  refine g_X11_framing 50 dX11_put_47 rfl fl_X11_31 ?_
  refine s_V2i 53 dX11_put_50 rfl km_X7_putFrames ml_X11_197 ds_X7_putFrames (Nat.le_of_ble_eq_true rfl) (q_rec (by assumption)) rfl (q_putFrames (d := d) (n0 := k) (by omega) h1.pa.ns h1.sh.fr (by omega) hru wr rfl h1.pa.nr ws (fun N2 R2 f1 f2 hs2 => ?_))
  refine ⟨_, rfl, ?_⟩
  have h2 := h1.fr (N' := N2) (R' := R2) (fun y hy1 hy2 => f1 y (by omega) (by omega)) (fun y hy1 hy2 => f2 y (by omega) (by omega)) hs2
  have hg2 := hg.fr h1.pa (N' := N2) (R' := R2) (fun y hy1 hy2 => f1 y (by omega) (by omega)) (fun y hy1 hy2 => f2 y (by omega) (by omega))
  have hpn := putN_le (ru := ru) k s
  refine s_istore_n 54 dX11_put_53 rfl (Nat.le_of_ble_eq_true rfl) rfl ?_
  refine s_iload_n 55 dX11_put_54 rfl rfl ?_
  refine s_if_le 58 65 dX11_put_55 rfl rfl (fun g3 => ?_) (fun g3 => ?_)
  · refine s_iload_n 66 dX11_put_65 rfl rfl ?_
    refine s_ireturn rfl dX11_put_66 ?_
    have h0 : (putN ru k s).1 = 0 := by omega
    have eo : oPut (tp, bx, hd, rf, 1, ru, tl, s, ps, im) k = (0, tp, bx, hd, rf, 1, ru, tl, s, ps, im) := ((if_neg (not_not_intro hy)).trans (if_pos (show (putN ru k s).1 = 0 from h0)))
    rw [eo] at hp
    rw [h0]
    have e9 : (putN ru k s).2 = s := putN_no h0
    rw [e9] at h2
    exact hp _ h2.out
  · refine s_aload_n 59 dX11_put_58 rfl rfl ?_
    refine g_X11_past 62 dX11_put_59 rfl fl_X11_52 ?_
    refine s_V0v 65 dX11_put_62 rfl km_X3_commit ml_X11_194 ds_X3_commit (Nat.le_of_ble_eq_true rfl) (q_rec (by assumption)) rfl (u_commit h2 hg2 (fun N3 f3 h3 => ?_))
    refine ⟨rfl, ?_⟩
    refine s_iload_n 66 dX11_put_65 rfl rfl ?_
    refine s_ireturn rfl dX11_put_66 ?_
    have eo : oPut (tp, bx, hd, rf, 1, ru, tl, s, ps, im) k = (((putN ru k s).1 : Int), tp, bx, hd, rf, 1, ru, tl, (putN ru k s).2, kpF ps s, im) := ((if_neg (not_not_intro hy)).trans (if_neg (show ¬ (putN ru k s).1 = 0 by omega)))
    rw [eo] at hp
    exact hp _ h3.out
theorem u_read {n : Int} (hn : rg n) (hm : RepP q c0 u0 (T, N, R, P, S, cn, un) Y) (hw : WfSy b Y) (hb : b ≤ 80000000) (hc : c0 ≤ gN G) (hu : u0 ≤ gU G) (hp : ∀ a', RepP q c0 u0 a' (oRead Y n).2 → post (some (vi (oRead Y n).1)) a') : Cm G (AP G F) yX11_read cX11_read 3 (some .int) (d + 7) [.ref q, vi n] (T, N, R, P, S, cn, un) post := by
  obtain ⟨tp, bx, hd, rf, il, ru, tl, s, ps, im⟩ := Y
  obtain ⟨nw, nx, h⟩ := hm
  obtain ⟨⟨t0, t1, t2, t3, t4⟩, ⟨t5, t6, t7, t8, t9, t10⟩, ⟨t11, t12, t13, t14⟩, v0, v1, v2, v3, v4, v5⟩ := h.cx
  have hw0 := hw
  obtain ⟨⟨wt1, wt2⟩, -, -, -, wil, -, -, w12, w1⟩ := hw0
  refine Cm_intro (L := [some (.ref q), some (vi n), none]) (by decide +kernel) (Nat.le_of_ble_eq_true rfl) rfl ?_
  refine s_aload_n 1 dX11_read_0 rfl rfl ?_
  refine g_X11_hasLine 4 dX11_read_1 rfl fl_X11_112 (fun hr1 => ?_)
  rw [h.il']
  rcases wil with rfl | rfl
  · refine s_if_ne 7 13 dX11_read_4 rfl rfl (fun g => ?_) (fun g => ?_)
    · exact absurd rfl g
    refine s_aload_n 8 dX11_read_7 rfl rfl ?_
    refine s_iconst 9 dX11_read_8 rfl ?_
    refine s_V1i 12 dX11_read_9 rfl km_X11_refuse ml_X11_168 ds_X11_refuse (Nat.le_of_ble_eq_true rfl) (q_rec (by assumption)) rfl (u_refuse (k := 0) (by omega) h hw (by omega) (fun N' h' => ?_))
    refine ⟨_, rfl, ?_⟩
    refine s_ireturn rfl dX11_read_12 ?_
    have eo : oRead (tp, bx, hd, rf, 0, ru, tl, s, ps, im) n = (-1, tp, bx, hd, rfF rf 0, 0, ru, tl, s, ps, im) := rfl
    rw [eo] at hp
    exact hp _ h'.out
  obtain ⟨wr, wtl, ⟨ws, wtc⟩, wps, wim⟩ := w1 rfl
  have hru := h.ru' rfl
  have hS1 : R (nw + 1) = s.1 := h.pa.nr.1
  have h600 := ws.1
  refine s_if_ne 7 13 dX11_read_4 rfl rfl (fun g => ?_) (fun g => ?_)
  rotate_left
  · exact absurd (show (1 : Int) = 0 by omega) (by decide)
  have no : ¬ (1 ≤ n ∧ n ≤ 600) → V G (AP G F) yX11_read cX11_read 3 (some .int) (d + 7) (T, N, R, P, S, cn, un) 25 [some (.ref q), some (vi n), none] [] post := fun hy => by
    refine s_aload_n 26 dX11_read_25 rfl rfl ?_
    refine s_iconst 27 dX11_read_26 rfl ?_
    refine s_V1i 30 dX11_read_27 rfl km_X11_refuse ml_X11_168 ds_X11_refuse (Nat.le_of_ble_eq_true rfl) (q_rec (by assumption)) rfl (u_refuse (k := 2) (by omega) h hw (by omega) (fun N' h' => ?_))
    refine ⟨_, rfl, ?_⟩
    refine s_ireturn rfl dX11_read_30 ?_
    have eo : oRead (tp, bx, hd, rf, 1, ru, tl, s, ps, im) n = (-1, tp, bx, hd, rfF rf 2, 1, ru, tl, s, ps, im) := (if_pos hy)
    rw [eo] at hp
    exact hp _ h'.out
  refine s_iload_n 14 dX11_read_13 rfl rfl ?_
  refine s_iconst 15 dX11_read_14 rfl ?_
  refine s_icmp_lt 18 25 dX11_read_15 rfl rfl (fun g1 => ?_) (fun g1 => ?_)
  · exact no (by omega)
  refine s_iload_n 19 dX11_read_18 rfl rfl ?_
  refine s_sipush 22 dX11_read_19 rfl (k := ?_)
  refine s_icmp_le 25 31 dX11_read_22 rfl rfl (fun g2 => ?_) (fun g2 => ?_)
  rotate_left
  · exact no (by omega)
  obtain ⟨k, rfl⟩ := Int.eq_ofNat_of_zero_le (show 0 ≤ n by omega)
  have hy : 1 ≤ (k : Int) ∧ (k : Int) ≤ 600 := by omega
  refine s_aload_n 32 dX11_read_31 rfl rfl ?_
  refine u_now 35 dX11_read_32 rfl fl_X11_70 ?_
  refine g_X7_wire 38 dX11_read_35 rfl fl_X11_142 ?_
  refine g_X5_size 41 dX11_read_38 rfl fl_X11_76 ?_
  rw [hS1]
  refine s_if_ne 44 46 dX11_read_41 rfl rfl (fun g3 => ?_) (fun g3 => ?_)
  rotate_left
  · refine s_iconst 45 dX11_read_44 rfl ?_
    refine s_ireturn rfl dX11_read_45 ?_
    have eo : oRead (tp, bx, hd, rf, 1, ru, tl, s, ps, im) k = (0, tp, bx, hd, rf, 1, ru, tl, s, ps, im) := ((if_neg (not_not_intro hy)).trans (if_pos (by omega)))
    rw [eo] at hp
    exact hp _ h.out
  refine s_aload_n 47 dX11_read_46 rfl rfl ?_
  refine g_X11_past 50 dX11_read_47 rfl fl_X11_52 ?_
  refine s_aload_n 51 dX11_read_50 rfl rfl ?_
  refine u_now 54 dX11_read_51 rfl fl_X11_70 ?_
  refine s_V1v 57 dX11_read_54 rfl km_X3_stage ml_X11_186 ds_X3_stage (Nat.le_of_ble_eq_true rfl) (q_rec (by assumption)) rfl (u_stage (d := d) h ws (by omega) hc hu (fun T1 N1 R1 P1 S1 cn1 un1 h1 hg => ?_))
  refine ⟨rfl, ?_⟩
  clear t0 t1 t2 t3 t4 t5 t6 t7 t8 t9 t10 t11 t12 t13 t14 v0 v1 v2 v3 v4 hru
  obtain ⟨⟨t0, t1, t2, t3, t4⟩, ⟨t5, t6, t7, t8, t9, t10⟩, ⟨t11, t12, t13, t14⟩, v0, v1, v2, v3, v4, -⟩ := h1.cx
  have hru := h1.ru' rfl
  have hR1 : R1 (nw + 1) = s.1 := h1.pa.nr.1
  refine s_aload_n 58 dX11_read_57 rfl rfl ?_
  refine u_now 61 dX11_read_58 rfl fl_X11_70 ?_
  refine s_iload_n 62 dX11_read_61 rfl rfl ?_
  refine s_aload_n 63 dX11_read_62 rfl rfl ?_
  refine g_X11_framing 66 dX11_read_63 rfl fl_X11_31 ?_
  refine s_V2i 69 dX11_read_66 rfl km_X7_readBytes ml_X11_229 ds_X7_readBytes (Nat.le_of_ble_eq_true rfl) (q_rec (by assumption)) rfl (q_readBytes (d := d) (n0 := k) (by omega) h1.pa.ns h1.sh.fr (by omega) hru wr rfl h1.pa.nr ws (by omega) (fun N2 R2 f1 f2 hs2 => ?_))
  refine ⟨_, rfl, ?_⟩
  refine s_istore_n 70 dX11_read_69 rfl (Nat.le_of_ble_eq_true rfl) rfl ?_
  have h2 := h1.fr (N' := N2) (R' := R2) (fun y hy1 hy2 => f1 y (by omega) (by omega)) (fun y hy1 hy2 => f2 y (by omega) (by omega)) hs2
  have hg2 := hg.fr h1.pa (N' := N2) (R' := R2) (fun y hy1 hy2 => f1 y (by omega) (by omega)) (fun y hy1 hy2 => f2 y (by omega) (by omega))
  refine s_aload_n 71 dX11_read_70 rfl rfl ?_
  refine g_X11_past 74 dX11_read_71 rfl fl_X11_52 ?_
  refine s_V0v 77 dX11_read_74 rfl km_X3_commit ml_X11_194 ds_X3_commit (Nat.le_of_ble_eq_true rfl) (q_rec (by assumption)) rfl (u_commit h2 hg2 (fun N3 f3 h3 => ?_))
  refine ⟨rfl, ?_⟩
  refine s_iload_n 78 dX11_read_77 rfl rfl ?_
  refine s_ireturn rfl dX11_read_78 ?_
  have eo : oRead (tp, bx, hd, rf, 1, ru, tl, s, ps, im) k = ((readF ru s (min k s.1.length)).2.2.1 2 - s.2.2.1 2, tp, bx, hd, rf, 1, ru, tl, readF ru s (min k s.1.length), kpF ps s, im) := ((if_neg (not_not_intro hy)).trans (if_neg (by omega)))
  rw [eo] at hp
  exact hp _ h3.out
end U3
