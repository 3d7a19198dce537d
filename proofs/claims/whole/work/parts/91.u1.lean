/-! ===== QuietLine: TAPE and BOX, counts ===== -/
theorem ushr_k (x : Int) (k : Nat) (hk : (((Int32.ofInt (k : Int)).toUInt32 &&& Int32.toUInt32 31).toNat % 32) = k) : ((Int32.ofInt x).toUInt32 >>> ((Int32.ofInt (k : Int)).toUInt32 &&& Int32.toUInt32 31)).toInt32 = Int32.ofInt ((x % 4294967296) / ((2 ^ k : Nat) : Int)) := by
  have e : (Int32.ofInt x).toUInt32 >>> ((Int32.ofInt (k : Int)).toUInt32 &&& Int32.toUInt32 31) = (Int32.ofInt ((x % 4294967296) / ((2 ^ k : Nat) : Int))).toUInt32 := by
    apply UInt32.toNat_inj.mp
    rw [UInt32.toNat_shiftRight, hk]
    have e1 : ∀ z : Int, (Int32.ofInt z).toUInt32.toNat = (z % 4294967296).toNat := fun z => by
      show (BitVec.ofInt 32 z).toNat = _
      rw [BitVec.toNat_ofInt]
      rfl
    rw [e1, e1, Nat.shiftRight_eq_div_pow]
    generalize hy : x % 4294967296 = y
    have h0 : 0 ≤ y ∧ y < 4294967296 := by omega
    obtain ⟨m, rfl⟩ := Int.eq_ofNat_of_zero_le h0.1
    have h1 : ((m : Int) / ((2 ^ k : Nat) : Int)) = ((m / 2 ^ k : Nat) : Int) := rfl
    rw [h1]
    have h2 : m / 2 ^ k ≤ m := Nat.div_le_self _ _
    rw [Int.toNat_natCast]
    generalize m / 2 ^ k = w at *
    omega
  rw [e]
  rfl
section U1
variable {G : GT} {F : HS} {d : Nat} {T : Nat → Nat} {N : Nat → Nat → Int} {R : Nat → List Int} {P : Nat → Nat → Option Nat} {S : Nat → Int64} {cn un : Nat} {post : Option Value → PT → Prop} {q c0 u0 : Nat} {Y : SY} {b : Int}
theorem u_addFour {tp : List Int} {v : Int} (hv : rg v) (t0 : T q = 12) (t1 : T (q + 1) = 10) (t2 : T (q + 1 + 1) = 100 + 300) (hR : R (q + 1 + 1) = tp) (hl : tp.length ≤ 296) (hp : post none (T, N, up R (q + 1 + 1) (tp ++ fouF v), P, S, cn, un)) : Cm G (AP G F) yX11_addFour cX11_addFour 3 none (d + 3) [.ref q, vi v] (T, N, R, P, S, cn, un) post := by
  refine Cm_intro (L := [some (.ref q), some (vi v), none]) (by decide +kernel) (Nat.le_of_ble_eq_true rfl) rfl ?_
  have st : ∀ (k : Nat) (out : List Int) (z : Int), (k = 24 ∨ k = 16 ∨ k = 8 ∨ k = 0) → out.length < 300 → v / ((2 ^ k : Nat) : Int) % 256 = z → V G (AP G F) yX11_addFour cX11_addFour 3 none (d + 3) (T, N, up R (q + 1 + 1) (out ++ [z]), P, S, cn, un) 3 [some (.ref q), some (vi v), some (vi ((k : Int) + -8))] [] post → V G (AP G F) yX11_addFour cX11_addFour 3 none (d + 3) (T, N, up R (q + 1 + 1) out, P, S, cn, un) 3 [some (.ref q), some (vi v), some (vi (k : Int))] [] post := by
    intro k out z hk hlen hz kk
    have hkk : (((Int32.ofInt (k : Int)).toUInt32 &&& Int32.toUInt32 31).toNat % 32) = k := by rcases hk with rfl | rfl | rfl | rfl <;> decide
    have hz2 : (v % 4294967296) / ((2 ^ k : Nat) : Int) % 256 = z := by rcases hk with rfl | rfl | rfl | rfl <;> omega
    refine s_iload_n 4 dX11_addFour_3 rfl rfl ?_
    refine s_if_lt 7 30 dX11_addFour_4 rfl rfl (fun g => ?_) (fun g => ?_)
    · omega
    refine s_aload_n 8 dX11_addFour_7 rfl rfl ?_
    refine g_X11_tape 11 dX11_addFour_8 rfl fl_X11_12 ?_
    refine g_X9_bytes 14 dX11_addFour_11 rfl fl_X11_73 ?_
    refine s_iload_n 15 dX11_addFour_14 rfl rfl ?_
    refine s_iload_n 16 dX11_addFour_15 rfl rfl ?_
    refine s_iushr 17 ((v % 4294967296) / ((2 ^ k : Nat) : Int)) dX11_addFour_16 rfl ((ushr_k v k hkk)) ?_
    refine s_sipush 20 dX11_addFour_17 rfl (k := ?_)
    refine s_iand 21 (z) dX11_addFour_20 rfl ((by rw [and_255, hz2])) ?_
    refine s_V1v 24 dX11_addFour_21 rfl km_X5_add ml_X11_83 ds_X5_add (Nat.le_of_ble_eq_true rfl) (q_recR (by assumption)) rfl (r_addK t2 (up_s _ _ _) hlen (by unfold rg; omega) ?_)
    refine ⟨rfl, ?_⟩
    rw [up_up]
    refine s_iinc 27 dX11_addFour_24 rfl rfl (Nat.le_of_ble_eq_true rfl) rfl ?_
    refine s_goto 3 dX11_addFour_27 rfl ?_
    exact kk
  refine s_bipush 2 dX11_addFour_0 rfl (k := ?_)
  refine s_istore_n 3 dX11_addFour_2 rfl (Nat.le_of_ble_eq_true rfl) rfl ?_
  have st' := st 24 tp _ (by omega) (by omega) rfl
  rw [up_self hR] at st'
  refine st' ?_
  refine st 16 _ _ (by omega) (by rw [List.length_append, List.length_singleton]; omega) rfl ?_
  refine st 8 _ _ (by omega) (by rw [List.length_append, List.length_append, List.length_singleton, List.length_singleton]; omega) rfl ?_
  refine st 0 _ _ (by omega) (by rw [List.length_append, List.length_append, List.length_append, List.length_singleton, List.length_singleton, List.length_singleton]; omega) rfl ?_
  refine s_iload_n 4 dX11_addFour_3 rfl rfl ?_
  refine s_if_lt 7 30 dX11_addFour_4 rfl rfl (fun g => ?_) (fun g => ?_)
  · refine s_return rfl dX11_addFour_30 ?_
    have e : tp ++ [v / ((2 ^ 24 : Nat) : Int) % 256] ++ [v / ((2 ^ 16 : Nat) : Int) % 256] ++ [v / ((2 ^ 8 : Nat) : Int) % 256] ++ [v / ((2 ^ 0 : Nat) : Int) % 256] = tp ++ fouF v := by
      unfold fouF
      simp
    rw [e]
    exact hp
  · omega
theorem u_feed {a1 a2 a3 a4 a5 : Int} (h1 : rg a1) (h2 : rg a2) (h3 : rg a3) (h4 : rg a4) (h5 : rg a5) (hm : RepP q c0 u0 (T, N, R, P, S, cn, un) Y) (hw : WfSy b Y) (hp : ∀ a', RepP q c0 u0 a' (oFeed Y a1 a2 a3 a4 a5).2 → post (some (vi (oFeed Y a1 a2 a3 a4 a5).1)) a') : Cm G (AP G F) yX11_feed cX11_feed 6 (some .int) (d + 4) [.ref q, vi a1, vi a2, vi a3, vi a4, vi a5] (T, N, R, P, S, cn, un) post := by
  obtain ⟨tp, bx, hd, rf, il, ru, tl, s, ps, im⟩ := Y
  obtain ⟨nw, nx, h⟩ := hm
  obtain ⟨⟨t0, t1, t2, t3, t4⟩, -⟩ := h.cx
  obtain ⟨⟨w1, w2⟩, -⟩ := hw
  have hR := h.tp'
  refine Cm_intro (L := [some (.ref q), some (vi a1), some (vi a2), some (vi a3), some (vi a4), some (vi a5)]) (by decide +kernel) (Nat.le_of_ble_eq_true rfl) rfl ?_
  refine s_aload_n 1 dX11_feed_0 rfl rfl ?_
  refine g_X11_tape 4 dX11_feed_1 rfl fl_X11_12 ?_
  refine g_X9_bytes 7 dX11_feed_4 rfl fl_X11_73 ?_
  refine g_X5_size 10 dX11_feed_7 rfl fl_X11_76 ?_
  rw [hR]
  refine s_bipush 12 dX11_feed_10 rfl (k := ?_)
  refine s_iadd 13 dX11_feed_12 rfl ?_
  refine s_sipush 16 dX11_feed_13 rfl (k := ?_)
  refine s_icmp_le 19 21 dX11_feed_16 rfl rfl (fun g => ?_) (fun g => ?_)
  rotate_left
  · refine s_iconst 20 dX11_feed_19 rfl ?_
    refine s_ireturn rfl dX11_feed_20 ?_
    have eo : oFeed (tp, bx, hd, rf, il, ru, tl, s, ps, im) a1 a2 a3 a4 a5 = (-1, tp, bx, hd, rf, il, ru, tl, s, ps, im) := if_pos (by omega)
    rw [eo] at hp
    exact hp _ h.out
  have l4 : ∀ v, (fouF v).length = 4 := fun v => rfl
  refine s_aload_n 22 dX11_feed_21 rfl rfl ?_
  refine s_iload_n 23 dX11_feed_22 rfl rfl ?_
  refine s_V1v 26 dX11_feed_23 rfl km_X11_addFour ml_X11_80 ds_X11_addFour (Nat.le_of_ble_eq_true rfl) (q_rec (by assumption)) rfl (u_addFour h1 t0 t1 t2 hR (by omega) ?_)
  refine ⟨rfl, ?_⟩
  refine s_aload_n 27 dX11_feed_26 rfl rfl ?_
  refine s_iload_n 28 dX11_feed_27 rfl rfl ?_
  refine s_V1v 31 dX11_feed_28 rfl km_X11_addFour ml_X11_80 ds_X11_addFour (Nat.le_of_ble_eq_true rfl) (q_rec (by assumption)) rfl (u_addFour h2 t0 t1 t2 (up_s _ _ _) (by rw [List.length_append, l4]; omega) ?_)
  refine ⟨rfl, ?_⟩
  refine s_aload_n 32 dX11_feed_31 rfl rfl ?_
  refine s_iload_n 33 dX11_feed_32 rfl rfl ?_
  refine s_V1v 36 dX11_feed_33 rfl km_X11_addFour ml_X11_80 ds_X11_addFour (Nat.le_of_ble_eq_true rfl) (q_rec (by assumption)) rfl (u_addFour h3 t0 t1 t2 (up_s _ _ _) (by rw [List.length_append, List.length_append, l4, l4]; omega) ?_)
  refine ⟨rfl, ?_⟩
  refine s_aload_n 37 dX11_feed_36 rfl rfl ?_
  refine s_iload 39 dX11_feed_37 rfl rfl ?_
  refine s_V1v 42 dX11_feed_39 rfl km_X11_addFour ml_X11_80 ds_X11_addFour (Nat.le_of_ble_eq_true rfl) (q_rec (by assumption)) rfl (u_addFour h4 t0 t1 t2 (up_s _ _ _) (by rw [List.length_append, List.length_append, List.length_append, l4, l4, l4]; omega) ?_)
  refine ⟨rfl, ?_⟩
  refine s_aload_n 43 dX11_feed_42 rfl rfl ?_
  refine s_iload 45 dX11_feed_43 rfl rfl ?_
  refine s_V1v 48 dX11_feed_45 rfl km_X11_addFour ml_X11_80 ds_X11_addFour (Nat.le_of_ble_eq_true rfl) (q_rec (by assumption)) rfl (u_addFour h5 t0 t1 t2 (up_s _ _ _) (by rw [List.length_append, List.length_append, List.length_append, List.length_append, l4, l4, l4, l4]; omega) ?_)
  refine ⟨rfl, ?_⟩
  refine s_aload_n 49 dX11_feed_48 rfl rfl ?_
  refine g_X11_tape 52 dX11_feed_49 rfl fl_X11_12 ?_
  refine g_X9_bytes 55 dX11_feed_52 rfl fl_X11_73 ?_
  refine g_X5_size 58 dX11_feed_55 rfl fl_X11_76 ?_
  refine s_ireturn rfl dX11_feed_58 ?_
  rw [up_up, up_up, up_up, up_up, up_s]
  have el : (tp ++ fouF a1 ++ fouF a2 ++ fouF a3 ++ fouF a4 ++ fouF a5).length = tp.length + 20 := by
    rw [List.length_append, List.length_append, List.length_append, List.length_append, List.length_append, l4, l4, l4, l4, l4]
  have eo : oFeed (tp, bx, hd, rf, il, ru, tl, s, ps, im) a1 a2 a3 a4 a5 = ((tp.length : Int) + 20, tp ++ fouF a1 ++ fouF a2 ++ fouF a3 ++ fouF a4 ++ fouF a5, bx, hd, rf, il, ru, tl, s, ps, im) := if_neg (by omega)
  rw [eo] at hp
  rw [el]
  exact hp _ (RepQ.out (h.rows (fun y hy => up_n (by omega)) (up_s _ _ _) (by rw [up_n (by omega)]; exact h.bx') (by rw [up_n (by omega)]; exact h.hd')))
theorem u_end {z : Int} (hz : rg z) (hm : RepP q c0 u0 (T, N, R, P, S, cn, un) Y) (hw : WfSy b Y) (hp : ∀ a', RepP q c0 u0 a' (oEnd Y z).2 → post (some (vb (oEnd Y z).1)) a') : Cm G (AP G F) yX11_end cX11_end 2 (some .boolean) (d + 1) [.ref q, vi z] (T, N, R, P, S, cn, un) post := by
  obtain ⟨tp, bx, hd, rf, il, ru, tl, s, ps, im⟩ := Y
  obtain ⟨nw, nx, h⟩ := hm
  obtain ⟨⟨t0, t1, t2, t3, t4⟩, -⟩ := h.cx
  obtain ⟨⟨w1, w2⟩, -⟩ := hw
  have hR := h.tp'
  have no : ¬ (0 ≤ z ∧ z ≤ tp.length) → V G (AP G F) yX11_end cX11_end 2 (some .boolean) (d + 1) (T, N, R, P, S, cn, un) 18 [some (.ref q), some (vi z)] [] post := fun hn => by
    refine s_iconst 19 dX11_end_18 rfl ?_
    first | refine s_zreturn rfl dX11_end_19 ?_ | refine s_zreturn1 rfl dX11_end_19 ?_ | refine s_zreturn0 rfl dX11_end_19 ?_
    have eo : oEnd (tp, bx, hd, rf, il, ru, tl, s, ps, im) z = (false, tp, bx, hd, rf, il, ru, tl, s, ps, im) := if_neg hn
    rw [eo] at hp
    exact hp _ h.out
  refine Cm_intro (L := [some (.ref q), some (vi z)]) (by decide +kernel) (Nat.le_of_ble_eq_true rfl) rfl ?_
  refine s_iload_n 1 dX11_end_0 rfl rfl ?_
  refine s_if_lt 4 18 dX11_end_1 rfl rfl (fun g1 => ?_) (fun g1 => ?_)
  · exact no (by omega)
  refine s_iload_n 5 dX11_end_4 rfl rfl ?_
  refine s_aload_n 6 dX11_end_5 rfl rfl ?_
  refine g_X11_tape 9 dX11_end_6 rfl fl_X11_12 ?_
  refine g_X9_bytes 12 dX11_end_9 rfl fl_X11_73 ?_
  refine g_X5_size 15 dX11_end_12 rfl fl_X11_76 ?_
  rw [hR]
  refine s_icmp_le 18 20 dX11_end_15 rfl rfl (fun g2 => ?_) (fun g2 => ?_)
  · refine s_aload_n 21 dX11_end_20 rfl rfl ?_
    refine g_X11_tape 24 dX11_end_21 rfl fl_X11_12 ?_
    refine g_X9_bytes 27 dX11_end_24 rfl fl_X11_73 ?_
    refine s_iload_n 28 dX11_end_27 rfl rfl ?_
    refine p_X5_size 31 dX11_end_28 rfl fl_X11_76 ?_ (by rw [hR]; omega)
    refine s_iconst 32 dX11_end_31 rfl ?_
    first | refine s_zreturn rfl dX11_end_32 ?_ | refine s_zreturn1 rfl dX11_end_32 ?_ | refine s_zreturn0 rfl dX11_end_32 ?_
    have eo : oEnd (tp, bx, hd, rf, il, ru, tl, s, ps, im) z = (true, tp.take z.toNat, bx, hd, rf, il, ru, tl, s, ps, im) := if_pos (by omega)
    rw [eo] at hp
    rw [hR]
    exact hp _ (RepQ.out (h.rows (fun y hy => up_n (by omega)) (up_s _ _ _) (by rw [up_n (by omega)]; exact h.bx') (by rw [up_n (by omega)]; exact h.hd')))
  · exact no (by omega)
theorem u_fault (hm : RepP q c0 u0 (T, N, R, P, S, cn, un) Y) (hw : WfSy b Y) (hp : ∀ a', RepP q c0 u0 a' Y → post (some (vi (parF Y.1).1)) a') : Cm G (AP G F) yX11_fault cX11_fault 1 (some .int) (d + 8) [.ref q] (T, N, R, P, S, cn, un) post := by
  obtain ⟨tp, bx, hd, rf, il, ru, tl, s, ps, im⟩ := Y
  obtain ⟨nw, nx, h⟩ := hm
  obtain ⟨⟨t0, t1, t2, t3, t4⟩, -⟩ := h.cx
  obtain ⟨⟨w1, w2⟩, -⟩ := hw
  refine Cm_intro (L := [some (.ref q)]) (by decide +kernel) (Nat.le_of_ble_eq_true rfl) rfl ?_
  refine s_aload_n 1 dX11_fault_0 rfl rfl ?_
  refine g_X11_tape 4 dX11_fault_1 rfl fl_X11_12 ?_
  refine s_V0i 7 dX11_fault_4 rfl km_X9_firstFault ml_X11_86 ds_X9_firstFault (Nat.le_of_ble_eq_true rfl) (q_rec (by assumption)) rfl (q_firstFault h.sh.ta h.tp' w1 w2 (fun N' f1 f2 => ?_))
  refine ⟨_, rfl, ?_⟩
  refine s_ireturn rfl dX11_fault_7 ?_
  exact hp _ (RepQ.out (h.scr (fun y hy => f1 y (by omega)) (fun _ _ => rfl)))
theorem u_box {z : Int} (hz : rg z) (hm : RepP q c0 u0 (T, N, R, P, S, cn, un) Y) (hp : ∀ a', RepP q c0 u0 a' Y → post (some (vi (atF Y.2.1 z))) a') : Cm G (AP G F) yX11_box cX11_box 2 (some .int) (d + 2) [.ref q, vi z] (T, N, R, P, S, cn, un) post := by
  obtain ⟨tp, bx, hd, rf, il, ru, tl, s, ps, im⟩ := Y
  obtain ⟨nw, nx, h⟩ := hm
  obtain ⟨⟨t0, t1, t2, t3, t4⟩, -⟩ := h.cx
  refine Cm_intro (L := [some (.ref q), some (vi z)]) (by decide +kernel) (Nat.le_of_ble_eq_true rfl) rfl ?_
  refine s_aload_n 1 dX11_box_0 rfl rfl ?_
  refine g_X11_inBox 4 dX11_box_1 rfl fl_X11_21 ?_
  refine s_iload_n 5 dX11_box_4 rfl rfl ?_
  refine s_V1i 8 dX11_box_5 rfl km_X5_at ml_X11_201 ds_X5_at (Nat.le_of_ble_eq_true rfl) (q_recR (by assumption)) rfl (r_atK t3 h.bx' hz (fun _ => ?_))
  refine ⟨_, rfl, ?_⟩
  refine s_ireturn rfl dX11_box_8 ?_
  exact hp _ h.out
theorem u_hand {z : Int} (hz : rg z) (hm : RepP q c0 u0 (T, N, R, P, S, cn, un) Y) (hp : ∀ a', RepP q c0 u0 a' Y → post (some (vi (atF Y.2.2.1 z))) a') : Cm G (AP G F) yX11_hand cX11_hand 2 (some .int) (d + 2) [.ref q, vi z] (T, N, R, P, S, cn, un) post := by
  obtain ⟨tp, bx, hd, rf, il, ru, tl, s, ps, im⟩ := Y
  obtain ⟨nw, nx, h⟩ := hm
  obtain ⟨⟨t0, t1, t2, t3, t4⟩, -⟩ := h.cx
  refine Cm_intro (L := [some (.ref q), some (vi z)]) (by decide +kernel) (Nat.le_of_ble_eq_true rfl) rfl ?_
  refine s_aload_n 1 dX11_hand_0 rfl rfl ?_
  refine g_X11_inHand 4 dX11_hand_1 rfl fl_X11_25 ?_
  refine s_iload_n 5 dX11_hand_4 rfl rfl ?_
  refine s_V1i 8 dX11_hand_5 rfl km_X5_at ml_X11_201 ds_X5_at (Nat.le_of_ble_eq_true rfl) (q_recR (by assumption)) rfl (r_atK t4 h.hd' hz (fun _ => ?_))
  refine ⟨_, rfl, ?_⟩
  refine s_ireturn rfl dX11_hand_8 ?_
  exact hp _ h.out
theorem u_byteAt {z : Int} (hz : rg z) (hm : RepP q c0 u0 (T, N, R, P, S, cn, un) Y) (hp : ∀ a', RepP q c0 u0 a' Y → post (some (vi (atF Y.2.2.2.2.2.2.2.1.1 z))) a') : Cm G (AP G F) yX11_byteAt cX11_byteAt 2 (some .int) (d + 2) [.ref q, vi z] (T, N, R, P, S, cn, un) post := by
  obtain ⟨tp, bx, hd, rf, il, ru, tl, s, ps, im⟩ := Y
  obtain ⟨nw, nx, h⟩ := hm
  obtain ⟨⟨t0, t1, t2, t3, t4⟩, -, -, v0, v1, v2, v3, v4, v5⟩ := h.cx
  refine Cm_intro (L := [some (.ref q), some (vi z)]) (by decide +kernel) (Nat.le_of_ble_eq_true rfl) rfl ?_
  refine s_aload_n 1 dX11_byteAt_0 rfl rfl ?_
  refine u_now 4 dX11_byteAt_1 rfl fl_X11_70 ?_
  refine g_X7_wire 7 dX11_byteAt_4 rfl fl_X11_142 ?_
  refine s_iload_n 8 dX11_byteAt_7 rfl rfl ?_
  refine s_V1i 11 dX11_byteAt_8 rfl km_X5_at ml_X11_201 ds_X5_at (Nat.le_of_ble_eq_true rfl) (q_recR (by assumption)) rfl (r_atK v1 h.pa.nr.1 hz (fun _ => ?_))
  refine ⟨_, rfl, ?_⟩
  refine s_ireturn rfl dX11_byteAt_11 ?_
  exact hp _ h.out
theorem u_bound {z : Int} (hz : rg z) (hm : RepP q c0 u0 (T, N, R, P, S, cn, un) Y) (hw : WfSy b Y) (hp : ∀ a', RepP q c0 u0 a' Y → post (some (vi (aBound (Y.2.2.2.2.2.1 1) z))) a') : Cm G (AP G F) yX11_bound cX11_bound 2 (some .int) (d + 2) [.ref q, vi z] (T, N, R, P, S, cn, un) post := by
  obtain ⟨tp, bx, hd, rf, il, ru, tl, s, ps, im⟩ := Y
  obtain ⟨nw, nx, h⟩ := hm
  obtain ⟨⟨t0, t1, t2, t3, t4⟩, ⟨t5, t6, t7, t8, t9, t10⟩, -⟩ := h.cx
  obtain ⟨-, -, -, -, -, ⟨w1, w2⟩, -⟩ := hw
  have hr1 := h.r1
  have no : ¬ (0 ≤ z ∧ z ≤ 300) → V G (AP G F) yX11_bound cX11_bound 2 (some .int) (d + 2) (T, N, R, P, S, cn, un) 11 [some (.ref q), some (vi z)] [] post := fun hn => by
    refine s_iconst 12 dX11_bound_11 rfl ?_
    refine s_ireturn rfl dX11_bound_12 ?_
    have := hp _ (h.out (S := S))
    rw [show aBound (ru 1) z = -1 from if_neg hn] at this
    exact this
  refine Cm_intro (L := [some (.ref q), some (vi z)]) (by decide +kernel) (Nat.le_of_ble_eq_true rfl) rfl ?_
  refine s_iload_n 1 dX11_bound_0 rfl rfl ?_
  refine s_if_lt 4 11 dX11_bound_1 rfl rfl (fun g1 => ?_) (fun g1 => ?_)
  · exact no (by omega)
  refine s_iload_n 5 dX11_bound_4 rfl rfl ?_
  refine s_sipush 8 dX11_bound_5 rfl (k := ?_)
  refine s_icmp_le 11 13 dX11_bound_8 rfl rfl (fun g2 => ?_) (fun g2 => ?_)
  · refine s_aload_n 14 dX11_bound_13 rfl rfl ?_
    refine g_X11_framing 17 dX11_bound_14 rfl fl_X11_31 ?_
    refine g_X1_rules 20 dX11_bound_17 rfl fl_X11_90 ?_
    refine g_X6_stuffing 23 dX11_bound_20 rfl fl_X11_126 ?_
    refine s_iload_n 24 dX11_bound_23 rfl rfl ?_
    refine s_V1i 27 dX11_bound_24 rfl km_X8_widest ml_X11_302 ds_X8_widest (Nat.le_of_ble_eq_true rfl) (q_rec (by assumption)) rfl (q_widest t7 (by rw [hr1]; omega) (by omega) ?_)
    refine ⟨_, rfl, ?_⟩
    refine s_ireturn rfl dX11_bound_27 ?_
    have := hp _ (h.out (S := S))
    rw [show aBound (ru 1) z = mstF (ru 1) z from if_pos (by omega)] at this
    rw [hr1]
    exact this
  · exact no (by omega)
theorem u_status {z : Int} (hz : rg z) (hm : RepP q c0 u0 (T, N, R, P, S, cn, un) Y) (hp : ∀ a', RepP q c0 u0 a' Y → post (some (vi (aStatus Y.2.2.2.1 z))) a') : Cm G (AP G F) yX11_status cX11_status 2 (some .int) d [.ref q, vi z] (T, N, R, P, S, cn, un) post := by
  obtain ⟨tp, bx, hd, rf, il, ru, tl, s, ps, im⟩ := Y
  obtain ⟨nw, nx, h⟩ := hm
  obtain ⟨⟨t0, t1, t2, t3, t4⟩, ⟨t5, t6, t7, t8, t9, t10⟩, ⟨t11, t12, t13, t14⟩, -⟩ := h.cx
  have no : ¬ (0 ≤ z ∧ z ≤ 3) → V G (AP G F) yX11_status cX11_status 2 (some .int) d (T, N, R, P, S, cn, un) 22 [some (.ref q), some (vi z)] [] post := fun hn => by
    refine s_iconst 23 dX11_status_22 rfl ?_
    refine s_ireturn rfl dX11_status_23 ?_
    have := hp _ (h.out (S := S))
    rw [show aStatus rf z = -1 from if_neg hn] at this
    exact this
  refine Cm_intro (L := [some (.ref q), some (vi z)]) (by decide +kernel) (Nat.le_of_ble_eq_true rfl) rfl ?_
  refine s_iload_n 1 dX11_status_0 rfl rfl ?_
  refine s_if_lt 4 22 dX11_status_1 rfl rfl (fun g1 => ?_) (fun g1 => ?_)
  · exact no (by omega)
  refine s_iload_n 5 dX11_status_4 rfl rfl ?_
  refine s_aload_n 6 dX11_status_5 rfl rfl ?_
  refine g_X11_refused 9 dX11_status_6 rfl fl_X11_66 ?_
  refine q_alen 10 dX11_status_9 rfl ?_
  refine s_icmp_ge 13 22 dX11_status_10 rfl rfl (fun g2 => ?_) (fun g2 => ?_)
  · exact no (by omega)
  refine s_aload_n 14 dX11_status_13 rfl rfl ?_
  refine g_X11_refused 17 dX11_status_14 rfl fl_X11_66 ?_
  refine s_iload_n 18 dX11_status_17 rfl rfl ?_
  refine q_ald 19 dX11_status_18 rfl (fun hr18 => ?_)
  refine s_goto 23 dX11_status_19 rfl ?_
  refine s_ireturn rfl dX11_status_23 ?_
  have := hp _ (h.out (S := S))
  rw [show aStatus rf z = rf z.toNat from if_pos (by omega)] at this
  rw [h.rf' z.toNat (by omega)]
  exact this
theorem u_count {z : Int} (hz : rg z) (hm : RepP q c0 u0 (T, N, R, P, S, cn, un) Y) (hp : ∀ a', RepP q c0 u0 a' Y → post (some (vi (aCount Y z))) a') : Cm G (AP G F) yX11_count cX11_count 2 (some .int) d [.ref q, vi z] (T, N, R, P, S, cn, un) post := by
  obtain ⟨tp, bx, hd, rf, il, ru, tl, s, ps, im⟩ := Y
  obtain ⟨nw, nx, h⟩ := hm
  obtain ⟨⟨t0, t1, t2, t3, t4⟩, ⟨t5, t6, t7, t8, t9, t10⟩, ⟨t11, t12, t13, t14⟩, -⟩ := h.cx
  have hp := hp _ (h.out (S := S))
  dsimp only [aCount] at hp
  refine Cm_intro (L := [some (.ref q), some (vi z)]) (by decide +kernel) (Nat.le_of_ble_eq_true rfl) rfl ?_
  refine s_iload_n 1 dX11_count_0 rfl rfl ?_
  refine s_tabL [32, 43, 51, 59] 67 dX11_count_1 rfl rfl rfl (by decide) ⟨fun hc => ?_, fun hc => ?_, fun hc => ?_, fun hc => ?_, trivial⟩ (fun hc => ?_)
  · refine s_aload_n 33 dX11_count_32 rfl rfl ?_
    refine g_X11_tape 36 dX11_count_33 rfl fl_X11_12 ?_
    refine g_X9_bytes 39 dX11_count_36 rfl fl_X11_73 ?_
    refine g_X5_size 42 dX11_count_39 rfl fl_X11_76 ?_
    refine s_ireturn rfl dX11_count_42 ?_
    rw [h.tp']
    rw [if_pos (by omega)] at hp
    exact hp
  · refine s_aload_n 44 dX11_count_43 rfl rfl ?_
    refine g_X11_past 47 dX11_count_44 rfl fl_X11_52 ?_
    refine g_X3_many 50 dX11_count_47 rfl fl_X11_348 (fun hr47 => ?_)
    refine s_ireturn rfl dX11_count_50 ?_
    rw [h.pa.len]
    rw [if_neg (by omega), if_pos (by omega)] at hp
    exact hp
  · refine s_aload_n 52 dX11_count_51 rfl rfl ?_
    refine g_X11_inBox 55 dX11_count_52 rfl fl_X11_21 ?_
    refine g_X5_size 58 dX11_count_55 rfl fl_X11_76 ?_
    refine s_ireturn rfl dX11_count_58 ?_
    rw [h.bx']
    rw [if_neg (by omega), if_neg (by omega), if_pos (by omega)] at hp
    exact hp
  · refine s_aload_n 60 dX11_count_59 rfl rfl ?_
    refine g_X11_inHand 63 dX11_count_60 rfl fl_X11_25 ?_
    refine g_X5_size 66 dX11_count_63 rfl fl_X11_76 ?_
    refine s_ireturn rfl dX11_count_66 ?_
    rw [h.hd']
    rw [if_neg (by omega), if_neg (by omega), if_neg (by omega), if_pos (by omega)] at hp
    exact hp
  · refine s_iconst 68 dX11_count_67 rfl ?_
    refine s_ireturn rfl dX11_count_68 ?_
    rw [if_neg (by omega), if_neg (by omega), if_neg (by omega), if_neg (by omega)] at hp
    exact hp
theorem u_isWay {z : Int} (hz : rg z) (hp : post (some (vb (decide (0 ≤ z ∧ z ≤ 2)))) (T, N, R, P, S, cn, un)) : Cm G (AP G F) yX11_isWay cX11_isWay 1 (some .boolean) d [vi z] (T, N, R, P, S, cn, un) post := by
  have yes : 0 ≤ z ∧ z ≤ 2 → V G (AP G F) yX11_isWay cX11_isWay 1 (some .boolean) d (T, N, R, P, S, cn, un) 14 [some (vi z)] [] post := fun hy => by
    refine s_iconst 15 dX11_isWay_14 rfl ?_
    refine s_goto 19 dX11_isWay_15 rfl ?_
    first | refine s_zreturn rfl dX11_isWay_19 ?_ | refine s_zreturn1 rfl dX11_isWay_19 ?_ | refine s_zreturn0 rfl dX11_isWay_19 ?_
    rw [decide_eq_true hy] at hp
    exact hp
  refine Cm_intro (L := [some (vi z)]) (by decide +kernel) (Nat.le_of_ble_eq_true rfl) rfl ?_
  refine s_iload_n 1 dX11_isWay_0 rfl rfl ?_
  refine s_if_eq 4 14 dX11_isWay_1 rfl rfl (fun g1 => ?_) (fun g1 => ?_)
  · exact yes (by omega)
  refine s_iload_n 5 dX11_isWay_4 rfl rfl ?_
  refine s_iconst 6 dX11_isWay_5 rfl ?_
  refine s_icmp_eq 9 14 dX11_isWay_6 rfl rfl (fun g2 => ?_) (fun g2 => ?_)
  · exact yes (by omega)
  refine s_iload_n 10 dX11_isWay_9 rfl rfl ?_
  refine s_iconst 11 dX11_isWay_10 rfl ?_
  refine s_icmp_ne 14 18 dX11_isWay_11 rfl rfl (fun g3 => ?_) (fun g3 => ?_)
  · refine s_iconst 19 dX11_isWay_18 rfl ?_
    first | refine s_zreturn rfl dX11_isWay_19 ?_ | refine s_zreturn1 rfl dX11_isWay_19 ?_ | refine s_zreturn0 rfl dX11_isWay_19 ?_
    rw [decide_eq_false (by omega)] at hp
    exact hp
  · exact yes (by omega)
end U1
