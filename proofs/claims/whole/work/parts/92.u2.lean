section U2
variable {G : GT} {F : HS} {d : Nat} {T : Nat → Nat} {N : Nat → Nat → Int} {R : Nat → List Int} {P : Nat → Nat → Option Nat} {S : Nat → Int64} {cn un : Nat} {post : Option Value → PT → Prop} {q c0 u0 : Nat} {Y : SY} {b : Int}
theorem u_stuff {z : Int} (hz : rg z) (hm : RepP q c0 u0 (T, N, R, P, S, cn, un) Y) (hw : WfSy b Y) (hp : ∀ a', RepP q c0 u0 a' (oStuff Y z).2 → post (some (vi (oStuff Y z).1)) a') : Cm G (AP G F) yX11_stuff cX11_stuff 2 (some .int) (d + 4) [.ref q, vi z] (T, N, R, P, S, cn, un) post := by
  obtain ⟨tp, bx, hd, rf, il, ru, tl, s, ps, im⟩ := Y
  obtain ⟨nw, nx, h⟩ := hm
  obtain ⟨⟨t0, t1, t2, t3, t4⟩, ⟨t5, t6, t7, t8, t9, t10⟩, -⟩ := h.cx
  obtain ⟨⟨w1, w2⟩, -, -, -, -, ⟨w3, w4⟩, -⟩ := hw
  refine Cm_intro (L := [some (.ref q), some (vi z)]) (by decide +kernel) (Nat.le_of_ble_eq_true rfl) rfl ?_
  refine s_iload_n 1 dX11_stuff_0 rfl rfl ?_
  refine s_S1b 4 dX11_stuff_1 rfl km_X11_isWay rfl ml_X11_280 ds_X11_isWay (Nat.le_of_ble_eq_true rfl) (u_isWay hz ?_)
  refine ⟨_, rfl, ?_⟩
  by_cases hy : 0 ≤ z ∧ z ≤ 2
  · rw [decide_eq_true hy]
    refine s_if_neb 7 9 dX11_stuff_4 rfl rfl (fun g => ?_) (fun g => ?_)
    rotate_left
    · exact absurd g (by decide)
    refine s_aload_n 10 dX11_stuff_9 rfl rfl ?_
    refine g_X11_framing 13 dX11_stuff_10 rfl fl_X11_31 ?_
    refine g_X1_rules 16 dX11_stuff_13 rfl fl_X11_90 ?_
    refine g_X6_stuffing 19 dX11_stuff_16 rfl fl_X11_126 ?_
    refine s_aload_n 20 dX11_stuff_19 rfl rfl ?_
    refine g_X11_tape 23 dX11_stuff_20 rfl fl_X11_12 ?_
    refine g_X9_bytes 26 dX11_stuff_23 rfl fl_X11_73 ?_
    refine s_iload_n 27 dX11_stuff_26 rfl rfl ?_
    refine s_aload_n 28 dX11_stuff_27 rfl rfl ?_
    refine g_X11_inBox 31 dX11_stuff_28 rfl fl_X11_21 ?_
    refine s_V3v 34 dX11_stuff_31 rfl km_X8_pack ml_X11_283 ds_X8_pack (Nat.le_of_ble_eq_true rfl) (q_rec (by assumption)) rfl (q_pack t7 t2 t3 (by omega) h.tp' w2 w1 (Ln := (ru 1).toNat) (Zn := (ru 2).toNat) (by rw [h.r1]; omega) (by rw [h.r2]; omega) (by omega) (by omega) hy ?_)
    refine ⟨rfl, ?_⟩
    refine s_aload_n 35 dX11_stuff_34 rfl rfl ?_
    refine g_X11_tape 38 dX11_stuff_35 rfl fl_X11_12 ?_
    refine g_X9_bytes 41 dX11_stuff_38 rfl fl_X11_73 ?_
    refine s_V0v 44 dX11_stuff_41 rfl km_X5_clear ml_X11_103 ds_X5_clear (Nat.le_of_ble_eq_true rfl) (q_recR (by assumption)) rfl (r_clear t2 ?_)
    refine ⟨rfl, ?_⟩
    refine s_aload_n 45 dX11_stuff_44 rfl rfl ?_
    refine g_X11_inBox 48 dX11_stuff_45 rfl fl_X11_21 ?_
    refine g_X5_size 51 dX11_stuff_48 rfl fl_X11_76 ?_
    refine s_ireturn rfl dX11_stuff_51 ?_
    rw [up_n (by omega), up_s]
    have eo : oStuff (tp, bx, hd, rf, il, ru, tl, s, ps, im) z = ((((stuffF (ru 1).toNat (ru 2).toNat z tp).length : Nat) : Int), ([] : List Int), stuffF (ru 1).toNat (ru 2).toNat z tp, hd, rf, il, ru, tl, s, ps, im) := if_pos hy
    rw [eo] at hp
    exact hp _ (RepQ.out (h.rows (fun y hy => by rw [up_n (by omega), up_n (by omega)]) (up_s _ _ _) (by rw [up_n (by omega), up_s]) (by rw [up_n (by omega), up_n (by omega)]; exact h.hd')))
  · rw [decide_eq_false hy]
    refine s_if_neb 7 9 dX11_stuff_4 rfl rfl (fun g => ?_) (fun g => ?_)
    · exact absurd g (by decide)
    refine s_iconst 8 dX11_stuff_7 rfl ?_
    refine s_ireturn rfl dX11_stuff_8 ?_
    have eo : oStuff (tp, bx, hd, rf, il, ru, tl, s, ps, im) z = (-1, tp, bx, hd, rf, il, ru, tl, s, ps, im) := if_neg hy
    rw [eo] at hp
    exact hp _ h.out
theorem u_unstuff {z : Int} (hz : rg z) (hm : RepP q c0 u0 (T, N, R, P, S, cn, un) Y) (hw : WfSy b Y) (hp : ∀ a', RepP q c0 u0 a' (oUnstuff Y z).2 → post (some (vi (oUnstuff Y z).1)) a') : Cm G (AP G F) yX11_unstuff cX11_unstuff 4 (some .int) (d + 4) [.ref q, vi z] (T, N, R, P, S, cn, un) post := by
  obtain ⟨tp, bx, hd, rf, il, ru, tl, s, ps, im⟩ := Y
  obtain ⟨nw, nx, h⟩ := hm
  obtain ⟨⟨t0, t1, t2, t3, t4⟩, ⟨t5, t6, t7, t8, t9, t10⟩, -⟩ := h.cx
  have t15 : T (q + 11 + 4) = 100 + 600 := h.sh.fr.2.2.1
  obtain ⟨⟨w1, w2⟩, -, -, -, -, ⟨w3, w4⟩, -⟩ := hw
  refine Cm_intro (L := [some (.ref q), some (vi z), none, none]) (by decide +kernel) (Nat.le_of_ble_eq_true rfl) rfl ?_
  refine s_iload_n 1 dX11_unstuff_0 rfl rfl ?_
  refine s_S1b 4 dX11_unstuff_1 rfl km_X11_isWay rfl ml_X11_280 ds_X11_isWay (Nat.le_of_ble_eq_true rfl) (u_isWay hz ?_)
  refine ⟨_, rfl, ?_⟩
  by_cases hy : 0 ≤ z ∧ z ≤ 2
  · rw [decide_eq_true hy]
    refine s_if_neb 7 9 dX11_unstuff_4 rfl rfl (fun g => ?_) (fun g => ?_)
    rotate_left
    · exact absurd g (by decide)
    refine s_aload_n 10 dX11_unstuff_9 rfl rfl ?_
    refine g_X11_framing 13 dX11_unstuff_10 rfl fl_X11_31 ?_
    refine g_X1_plain 16 dX11_unstuff_13 rfl fl_X11_287 ?_
    refine s_astore_n 17 dX11_unstuff_16 rfl (Nat.le_of_ble_eq_true rfl) rfl ?_
    refine s_aload_n 18 dX11_unstuff_17 rfl rfl ?_
    refine g_X11_framing 21 dX11_unstuff_18 rfl fl_X11_31 ?_
    refine g_X1_rules 24 dX11_unstuff_21 rfl fl_X11_90 ?_
    refine g_X6_stuffing 27 dX11_unstuff_24 rfl fl_X11_126 ?_
    refine s_aload_n 28 dX11_unstuff_27 rfl rfl ?_
    refine g_X11_tape 31 dX11_unstuff_28 rfl fl_X11_12 ?_
    refine g_X9_bytes 34 dX11_unstuff_31 rfl fl_X11_73 ?_
    refine s_iconst 35 dX11_unstuff_34 rfl ?_
    refine s_aload_n 36 dX11_unstuff_35 rfl rfl ?_
    refine g_X11_tape 39 dX11_unstuff_36 rfl fl_X11_12 ?_
    refine g_X9_bytes 42 dX11_unstuff_39 rfl fl_X11_73 ?_
    refine g_X5_size 45 dX11_unstuff_42 rfl fl_X11_76 ?_
    rw [h.tp']
    refine s_iload_n 46 dX11_unstuff_45 rfl rfl ?_
    refine s_aload_n 47 dX11_unstuff_46 rfl rfl ?_
    refine s_V5i 50 dX11_unstuff_47 rfl km_X8_unpack ml_X11_290 ds_X8_unpack (Nat.le_of_ble_eq_true rfl) (q_rec (by assumption)) rfl (q_unpack t7 t2 t15 (by omega) h.tp' w2 (by omega) (fr := 0) (bs := tp) (by rw [List.drop_zero, List.take_length]) (by omega) w1 (Ln := (ru 1).toNat) (Zn := (ru 2).toNat) (by rw [h.r1]; omega) (by rw [h.r2]; omega) (by omega) (by omega) hy (fun l' hl' => ?_))
    refine ⟨_, rfl, ?_⟩
    refine s_istore_n 51 dX11_unstuff_50 rfl (Nat.le_of_ble_eq_true rfl) rfl ?_
    refine s_iload_n 52 dX11_unstuff_51 rfl rfl ?_
    refine s_iconst 53 dX11_unstuff_52 rfl ?_
    have hrg : -1 ≤ (unF (ru 1).toNat (ru 2).toNat z tp).1 ∧ (unF (ru 1).toNat (ru 2).toNat z tp).1 ≤ 1000 := ⟨unF_rg.1, by have := (unF_rg (L := (ru 1).toNat) (Z := (ru 2).toNat) (way := z) (bs := tp)).2; omega⟩
    refine s_icmp_eq 56 61 dX11_unstuff_53 rfl rfl (fun g2 => ?_) (fun g2 => ?_)
    · refine s_aload_n 62 dX11_unstuff_61 rfl rfl ?_
      refine g_X11_inBox 65 dX11_unstuff_62 rfl fl_X11_21 ?_
      refine s_aload_n 66 dX11_unstuff_65 rfl rfl ?_
      refine s_V1v 69 dX11_unstuff_66 rfl km_X5_copyFrom ml_X11_294 ds_X5_copyFrom (Nat.le_of_ble_eq_true rfl) (q_recR (by assumption)) rfl (r_copyFrom t3 (by rw [t15]; decide) (by omega) ?_)
      refine ⟨rfl, ?_⟩
      rw [up_s, hl' g2]
      refine s_aload_n 70 dX11_unstuff_69 rfl rfl ?_
      refine g_X11_tape 73 dX11_unstuff_70 rfl fl_X11_12 ?_
      refine g_X9_bytes 76 dX11_unstuff_73 rfl fl_X11_73 ?_
      refine s_V0v 79 dX11_unstuff_76 rfl km_X5_clear ml_X11_103 ds_X5_clear (Nat.le_of_ble_eq_true rfl) (q_recR (by assumption)) rfl (r_clear t2 ?_)
      refine ⟨rfl, ?_⟩
      refine s_aload_n 80 dX11_unstuff_79 rfl rfl ?_
      refine g_X11_inBox 83 dX11_unstuff_80 rfl fl_X11_21 ?_
      refine g_X5_size 86 dX11_unstuff_83 rfl fl_X11_76 ?_
      refine s_ireturn rfl dX11_unstuff_86 ?_
      have h600 : (unF (ru 1).toNat (ru 2).toNat z tp).2.length ≤ 600 := by have := (unF_byt (L := (ru 1).toNat) (Z := (ru 2).toNat) (way := z) w2).2; omega
      rw [List.take_of_length_le h600, up_n (by omega), up_s]
      have eo : oUnstuff (tp, bx, hd, rf, il, ru, tl, s, ps, im) z = ((((unF (ru 1).toNat (ru 2).toNat z tp).2.length : Nat) : Int), ([] : List Int), (unF (ru 1).toNat (ru 2).toNat z tp).2, hd, rf, il, ru, tl, s, ps, im) := (if_pos hy).trans (if_pos g2)
      rw [eo] at hp
      exact hp _ (RepQ.out (h.rows (fun y hy => by rw [up_n (by omega), up_n (by omega), up_n (by omega)]) (up_s _ _ _) (by rw [up_n (by omega), up_s]) (by rw [up_n (by omega), up_n (by omega), up_n (by omega)]; exact h.hd')))
    · refine s_bipush 58 dX11_unstuff_56 rfl (k := ?_)
      refine s_iload_n 59 dX11_unstuff_58 rfl rfl ?_
      refine s_isub 60 dX11_unstuff_59 rfl ?_
      refine s_ireturn rfl dX11_unstuff_60 ?_
      have eo : oUnstuff (tp, bx, hd, rf, il, ru, tl, s, ps, im) z = (-2 - (unF (ru 1).toNat (ru 2).toNat z tp).1, tp, bx, hd, rf, il, ru, tl, s, ps, im) := (if_pos hy).trans (if_neg g2)
      rw [eo] at hp
      exact hp _ (RepQ.out (h.scr (fun _ _ => rfl) (fun y hy => up_n (by omega))))
  · rw [decide_eq_false hy]
    refine s_if_neb 7 9 dX11_unstuff_4 rfl rfl (fun g => ?_) (fun g => ?_)
    · exact absurd g (by decide)
    refine s_iconst 8 dX11_unstuff_7 rfl ?_
    refine s_ireturn rfl dX11_unstuff_8 ?_
    have eo : oUnstuff (tp, bx, hd, rf, il, ru, tl, s, ps, im) z = (-1, tp, bx, hd, rf, il, ru, tl, s, ps, im) := if_neg hy
    rw [eo] at hp
    exact hp _ h.out
theorem u_stuffedLength {tp : List Int} {z : Int} {Ln Zn : Nat} (t0 : T q = 12) (t1 : T (q + 1) = 10) (t2 : T (q + 1 + 1) = 100 + 300) (hF : FrS T (q + 11)) (hR : R (q + 1 + 1) = tp) (w2 : byt tp) (w1 : tp.length ≤ 300) (h1 : N (q + 11 + 1 + 1) 0 = Ln) (h2 : N (q + 11 + 1 + 1) 1 = Zn) (hL : 2 ≤ Ln ∧ Ln ≤ 60) (hZ : Zn ≤ 60) (hz : 0 ≤ z ∧ z ≤ 2) (hp : post (some (vi ((stuffF Ln Zn z tp).length : Nat))) (T, N, up R (q + 11 + 6) (stuffF Ln Zn z tp), P, S, cn, un)) : Cm G (AP G F) yX11_stuffedLength cX11_stuffedLength 2 (some .int) (d + 4) [.ref q, vi z] (T, N, R, P, S, cn, un) post := by
  have t5 := hF.1
  have t6 := hF.2.1.1
  have t7 := hF.2.1.2.1
  have t16 : T (q + 11 + 6) = 100 + 600 := hF.2.2.2.1
  refine Cm_intro (L := [some (.ref q), some (vi z)]) (by decide +kernel) (Nat.le_of_ble_eq_true rfl) rfl ?_
  refine s_aload_n 1 dX11_stuffedLength_0 rfl rfl ?_
  refine g_X11_framing 4 dX11_stuffedLength_1 rfl fl_X11_31 ?_
  refine g_X1_rules 7 dX11_stuffedLength_4 rfl fl_X11_90 ?_
  refine g_X6_stuffing 10 dX11_stuffedLength_7 rfl fl_X11_126 ?_
  refine s_aload_n 11 dX11_stuffedLength_10 rfl rfl ?_
  refine g_X11_tape 14 dX11_stuffedLength_11 rfl fl_X11_12 ?_
  refine g_X9_bytes 17 dX11_stuffedLength_14 rfl fl_X11_73 ?_
  refine s_iload_n 18 dX11_stuffedLength_17 rfl rfl ?_
  refine s_aload_n 19 dX11_stuffedLength_18 rfl rfl ?_
  refine g_X11_framing 22 dX11_stuffedLength_19 rfl fl_X11_31 ?_
  refine g_X1_packed 25 dX11_stuffedLength_22 rfl fl_X11_299 ?_
  refine s_V3v 28 dX11_stuffedLength_25 rfl km_X8_pack ml_X11_283 ds_X8_pack (Nat.le_of_ble_eq_true rfl) (q_rec (by assumption)) rfl (q_pack t7 t2 t16 (by omega) hR w2 w1 h1 h2 hL hZ hz ?_)
  refine ⟨rfl, ?_⟩
  refine s_aload_n 29 dX11_stuffedLength_28 rfl rfl ?_
  refine g_X11_framing 32 dX11_stuffedLength_29 rfl fl_X11_31 ?_
  refine g_X1_packed 35 dX11_stuffedLength_32 rfl fl_X11_299 ?_
  refine g_X5_size 38 dX11_stuffedLength_35 rfl fl_X11_76 ?_
  refine s_ireturn rfl dX11_stuffedLength_38 ?_
  rw [up_s]
  exact hp
theorem u_shortest (hm : RepP q c0 u0 (T, N, R, P, S, cn, un) Y) (hw : WfSy b Y) (hp : ∀ a', RepP q c0 u0 a' Y → post (some (vi (shoL (Y.2.2.2.2.2.1 1).toNat (Y.2.2.2.2.2.1 2).toNat Y.1))) a') : Cm G (AP G F) yX11_shortest cX11_shortest 5 (some .int) (d + 5) [.ref q] (T, N, R, P, S, cn, un) post := by
  obtain ⟨tp, bx, hd, rf, il, ru, tl, s, ps, im⟩ := Y
  obtain ⟨nw, nx, h⟩ := hm
  obtain ⟨⟨t0, t1, t2, t3, t4⟩, ⟨t5, t6, t7, t8, t9, t10⟩, -⟩ := h.cx
  obtain ⟨⟨w1, w2⟩, -, -, -, -, ⟨w3, w4⟩, -⟩ := hw
  have sc : ∀ l1 l2 l3 : List Int, RepP q c0 u0 (T, N, up (up (up R (q + 11 + 6) l1) (q + 11 + 6) l2) (q + 11 + 6) l3, P, S, cn, un) (tp, bx, hd, rf, il, ru, tl, s, ps, im) := fun l1 l2 l3 => by
    rw [up_up, up_up]
    exact RepQ.out (h.scr (fun _ _ => rfl) (fun y hy => up_n (by omega)))
  have hl : ∀ z, (stuffF (ru 1).toNat (ru 2).toNat z tp).length ≤ 600 := fun z => by
    have := stuffF_len (L := (ru 1).toNat) (Z := (ru 2).toNat) (way := z) (bs := tp) (by omega)
    omega
  have st : ∀ (w best least : Int) (o : Option Value) (l1 : List Int), (w = 1 ∨ w = 2) → (0 ≤ best ∧ best ≤ 2) → (0 ≤ least ∧ least ≤ 600) → V G (AP G F) yX11_shortest cX11_shortest 5 (some .int) (d + 5) (T, N, up R (q + 11 + 6) (stuffF (ru 1).toNat (ru 2).toNat w tp), P, S, cn, un) 10 [some (.ref q), some (vi (if ((stuffF (ru 1).toNat (ru 2).toNat w tp).length : Int) < least then w else best)), some (vi (if ((stuffF (ru 1).toNat (ru 2).toNat w tp).length : Int) < least then ((stuffF (ru 1).toNat (ru 2).toNat w tp).length : Int) else least)), some (vi (w + 1)), some (vi ((stuffF (ru 1).toNat (ru 2).toNat w tp).length : Int))] [] post → V G (AP G F) yX11_shortest cX11_shortest 5 (some .int) (d + 5) (T, N, up R (q + 11 + 6) l1, P, S, cn, un) 10 [some (.ref q), some (vi best), some (vi least), some (vi w), o] [] post := by
    intro w best least o l1 hw1 hb1 hl1 kk
    have hlw := hl w
    refine s_iload_n 11 dX11_shortest_10 rfl rfl ?_
    refine s_iconst 12 dX11_shortest_11 rfl ?_
    refine s_icmp_gt 15 39 dX11_shortest_12 rfl rfl (fun g1 => ?_) (fun g1 => ?_)
    · omega
    refine s_aload_n 16 dX11_shortest_15 rfl rfl ?_
    refine s_iload_n 17 dX11_shortest_16 rfl rfl ?_
    refine s_V1i 20 dX11_shortest_17 rfl km_X11_stuffedLength ml_X11_296 ds_X11_stuffedLength (Nat.le_of_ble_eq_true rfl) (q_rec (by assumption)) rfl (u_stuffedLength t0 t1 t2 h.sh.fr (by rw [up_n (by omega)]; exact h.tp') w2 w1 (Ln := (ru 1).toNat) (Zn := (ru 2).toNat) (by rw [h.r1]; omega) (by rw [h.r2]; omega) (by omega) (by omega) (by omega) ?_)
    refine ⟨_, rfl, ?_⟩
    refine s_istore 22 dX11_shortest_20 rfl (Nat.le_of_ble_eq_true rfl) rfl ?_
    refine s_iload 24 dX11_shortest_22 rfl rfl ?_
    refine s_iload_n 25 dX11_shortest_24 rfl rfl ?_
    rw [up_up]
    refine s_icmp_ge 28 33 dX11_shortest_25 rfl rfl (fun g2 => ?_) (fun g2 => ?_)
    · refine s_iinc 36 dX11_shortest_33 rfl rfl (Nat.le_of_ble_eq_true rfl) rfl ?_
      refine s_goto 10 dX11_shortest_36 rfl ?_
      rw [if_neg (by omega), if_neg (by omega)] at kk
      exact kk
    · refine s_iload_n 29 dX11_shortest_28 rfl rfl ?_
      refine s_istore_n 30 dX11_shortest_29 rfl (Nat.le_of_ble_eq_true rfl) rfl ?_
      refine s_iload 32 dX11_shortest_30 rfl rfl ?_
      refine s_istore_n 33 dX11_shortest_32 rfl (Nat.le_of_ble_eq_true rfl) rfl ?_
      refine s_iinc 36 dX11_shortest_33 rfl rfl (Nat.le_of_ble_eq_true rfl) rfl ?_
      refine s_goto 10 dX11_shortest_36 rfl ?_
      rw [if_pos (by omega), if_pos (by omega)] at kk
      exact kk
  have h0 := hl 0
  have h1 := hl 1
  have h2 := hl 2
  refine Cm_intro (L := [some (.ref q), none, none, none, none]) (by decide +kernel) (Nat.le_of_ble_eq_true rfl) rfl ?_
  refine s_iconst 1 dX11_shortest_0 rfl ?_
  refine s_istore_n 2 dX11_shortest_1 rfl (Nat.le_of_ble_eq_true rfl) rfl ?_
  refine s_aload_n 3 dX11_shortest_2 rfl rfl ?_
  refine s_iconst 4 dX11_shortest_3 rfl ?_
  refine s_V1i 7 dX11_shortest_4 rfl km_X11_stuffedLength ml_X11_296 ds_X11_stuffedLength (Nat.le_of_ble_eq_true rfl) (q_rec (by assumption)) rfl (u_stuffedLength t0 t1 t2 h.sh.fr h.tp' w2 w1 (Ln := (ru 1).toNat) (Zn := (ru 2).toNat) (by rw [h.r1]; omega) (by rw [h.r2]; omega) (by omega) (by omega) (by omega) ?_)
  refine ⟨_, rfl, ?_⟩
  refine s_istore_n 8 dX11_shortest_7 rfl (Nat.le_of_ble_eq_true rfl) rfl ?_
  refine s_iconst 9 dX11_shortest_8 rfl ?_
  refine s_istore_n 10 dX11_shortest_9 rfl (Nat.le_of_ble_eq_true rfl) rfl ?_
  refine st 1 _ _ _ _ (by omega) (by omega) (by omega) ?_
  refine st 2 _ _ _ _ (by omega) (by split <;> omega) (by split <;> omega) ?_
  refine s_iload_n 11 dX11_shortest_10 rfl rfl ?_
  refine s_iconst 12 dX11_shortest_11 rfl ?_
  refine s_icmp_gt 15 39 dX11_shortest_12 rfl rfl (fun g1 => ?_) (fun g1 => ?_)
  rotate_left
  · omega
  refine s_iload_n 40 dX11_shortest_39 rfl rfl ?_
  refine s_ireturn rfl dX11_shortest_40 ?_
  have := hp _ (by have := sc [] [] (stuffF (ru 1).toNat (ru 2).toNat 2 tp); rw [up_up, up_up] at this; exact this)
  have e : shoL (ru 1).toNat (ru 2).toNat tp = (if ((stuffF (ru 1).toNat (ru 2).toNat 2 tp).length : Int) < (if ((stuffF (ru 1).toNat (ru 2).toNat 1 tp).length : Int) < ((stuffF (ru 1).toNat (ru 2).toNat 0 tp).length : Int) then ((stuffF (ru 1).toNat (ru 2).toNat 1 tp).length : Int) else ((stuffF (ru 1).toNat (ru 2).toNat 0 tp).length : Int)) then 2 else if ((stuffF (ru 1).toNat (ru 2).toNat 1 tp).length : Int) < ((stuffF (ru 1).toNat (ru 2).toNat 0 tp).length : Int) then 1 else 0) := by
    unfold shoL
    repeat' split
    all_goals omega
  rw [← e]
  exact this
end U2

