section M28
variable {G : GT} {m0 n u : Nat} {F : HS} {d : Nat} {I : Nat → Int} {A : Nat → Int → Int} {D : Int64} {post : Option Value → MT → Prop} {S : SY} {b : Int}
theorem o_flip {z v : Int} (hz : rg z) (hv : rg v) (hm : RepM I A S) (hw : WfSy b S) (hb : b ≤ 90000000) (hp : ∀ I' A', RepM I' A' (oFlip S z v).2 → post (some (vi (oFlip S z v).1)) (I', A', D)) : Cm G (AM G m0 F n u) yX12_flip cX12_flip 3 (some .int) (d + 2) [.ref m0, vi z, vi v] (I, A, D) post := by
  obtain ⟨tp, bx, hd, rf, il, ru, tl, s, ps, im⟩ := S
  have hm0 := hm
  have hw0 := hw
  obtain ⟨-, -, -, -, m1, -, -, m3, -, m2⟩ := hm0
  obtain ⟨-, -, -, -, w1, -, w3, w4, w2⟩ := hw0
  refine Cm_intro (L := [some (.ref m0), some (vi z), some (vi v)]) (by decide +kernel) (Nat.le_of_ble_eq_true rfl) rfl ?_
  have e17 : up I 0 0 17 = il := by rw [up_n (by decide)]; exact m1
  have e33 : up I 0 0 33 = ps.length := by rw [up_n (by decide)]; exact m3
  refine s_aload_n 1 dX12_flip_0 rfl rfl ?_
  refine s_iconst 2 dX12_flip_1 rfl ?_
  refine m_putI 5 0 dX12_flip_2 rfl fl_X12_60 (by decide) rfl rfl rfl rfl ?_
  refine s_aload_n 6 dX12_flip_5 rfl rfl ?_
  refine m_getI 9 17 dX12_flip_6 rfl fl_X12_188 (by decide) rfl (fun hr6 => ?_)
  refine s_if_ne 12 18 dX12_flip_9 rfl rfl (fun g => ?_) (fun g => ?_)
  rotate_left
  · rw [show oFlip (tp, bx, hd, rf, il, ru, tl, s, ps, im) z v = (-1, tp, bx, hd, rfF rf 0, il, ru, tl, s, ps, im) from if_pos (by omega)] at hp
    refine s_aload_n 13 dX12_flip_12 rfl rfl ?_
    refine s_iconst 14 dX12_flip_13 rfl ?_
    refine s_V1i 17 dX12_flip_14 rfl km_X12_refuses ml_X12_280 ds_X12_refuses (Nat.le_of_ble_eq_true rfl) m_rec rfl (c_refuses (by omega) (rf_rg hm hw hb 0 (by decide)) ?_)
    refine ⟨_, rfl, ?_⟩
    refine s_ireturn rfl dX12_flip_17 ?_
    exact hp _ _ (hm.rf' 0 (by decide))
  have hil : il = 1 := by omega
  subst hil
  obtain ⟨hru, -, hs, -, -⟩ := m2 rfl
  obtain ⟨hwr, -, ⟨hws, -⟩, -, -⟩ := w2 rfl
  have hl := hws.1
  have eo : oFlip (tp, bx, hd, rf, 1, ru, tl, s, ps, im) z v = if ¬ (0 ≤ z ∧ z < s.1.length) then (-1, tp, bx, hd, rfF rf 1, 1, ru, tl, s, ps, im) else if ¬ (1 ≤ v ∧ v ≤ 255) then (-1, tp, bx, hd, rfF rf 2, 1, ru, tl, s, ps, im) else (xr (s.1.getD z.toNat 0) v, tp, bx, hd, rf, 1, ru, tl, (flpL s.1 z.toNat v, s.2), kpF ps s, im) := by rw [oFlip]; exact if_neg (by decide)
  rw [eo] at hp
  refine s_aload_n 19 dX12_flip_18 rfl rfl ?_
  refine s_iload_n 20 dX12_flip_19 rfl rfl ?_
  refine s_V1b 23 dX12_flip_20 rfl km_X12_isByte ml_X12_315 ds_X12_isByte (Nat.le_of_ble_eq_true rfl) m_rec rfl (c_isByte (s := s) (b := b) (ch := (ru 5).toNat) hz (by rw [e17]; exact w1) (fun h => ⟨hs, hws⟩) ?_)
  refine ⟨_, rfl, ?_⟩
  refine s_if_neb 26 32 dX12_flip_23 rfl rfl (fun g2 => ?_) (fun g2 => ?_)
  rotate_left
  · have g2 := of_decide_eq_false g2
    rw [if_pos (fun h => g2 ⟨e17, h⟩)] at hp
    refine s_aload_n 27 dX12_flip_26 rfl rfl ?_
    refine s_iconst 28 dX12_flip_27 rfl ?_
    refine s_V1i 31 dX12_flip_28 rfl km_X12_refuses ml_X12_280 ds_X12_refuses (Nat.le_of_ble_eq_true rfl) m_rec rfl (c_refuses (by omega) (rf_rg hm hw hb 1 (by decide)) ?_)
    refine ⟨_, rfl, ?_⟩
    refine s_ireturn rfl dX12_flip_31 ?_
    exact hp _ _ (hm.rf' 1 (by decide))
  have g2 := (of_decide_eq_true g2).2
  rw [if_neg (fun h => h g2)] at hp
  refine s_iload_n 33 dX12_flip_32 rfl rfl ?_
  refine s_i2lz 34 dX12_flip_33 rfl ?_
  refine s_lconstz 35 dX12_flip_34 rfl ?_
  refine s_ldc2z 38 (255) dX12_flip_35 rfl kc_X12_318 rfl ?_
  refine s_S3b 41 dX12_flip_38 rfl km_X12_in rfl ml_X12_70 ds_X12_in (Nat.le_of_ble_eq_true rfl) (c_in hv (by decide) (by decide) ?_)
  refine ⟨_, rfl, ?_⟩
  refine s_if_neb 44 50 dX12_flip_41 rfl rfl (fun g3 => ?_) (fun g3 => ?_)
  rotate_left
  · have g3 : ¬ (1 ≤ v ∧ v ≤ 255) := of_decide_eq_false g3
    rw [if_pos g3] at hp
    refine s_aload_n 45 dX12_flip_44 rfl rfl ?_
    refine s_iconst 46 dX12_flip_45 rfl ?_
    refine s_V1i 49 dX12_flip_46 rfl km_X12_refuses ml_X12_280 ds_X12_refuses (Nat.le_of_ble_eq_true rfl) m_rec rfl (c_refuses (by omega) (rf_rg hm hw hb 2 (by decide)) ?_)
    refine ⟨_, rfl, ?_⟩
    refine s_ireturn rfl dX12_flip_49 ?_
    exact hp _ _ (hm.rf' 2 (by decide))
  have g3 : 1 ≤ v ∧ v ≤ 255 := of_decide_eq_true g3
  rw [if_neg (fun h => h g3)] at hp
  have g4 : 1 ≤ v := g3.1
  have g5 : v ≤ 255 := g3.2
  have hby := byt_at hws.2.1 z.toNat
  have ev : A 3 (1 + z) = s.1.getD z.toNat 0 := by
    rw [← hs.2.1 z.toNat (by omega)]
    congr 1
    omega
  have hxr := xr_rg hby (show 0 ≤ v ∧ v ≤ 255 by omega)
  refine s_aload_n 51 dX12_flip_50 rfl rfl ?_
  refine s_V0v 54 dX12_flip_51 rfl km_X12_keeps ml_X12_289 ds_X12_keeps (Nat.le_of_ble_eq_true rfl) m_rec rfl (c_keeps e33 w4 (fun A1 f1 f2 f3 => ?_))
  refine ⟨rfl, ?_⟩
  have ev1 : A1 3 (1 + z) = s.1.getD z.toNat 0 := by rw [f1 3 (by decide)]; exact ev
  refine s_aload_n 55 dX12_flip_54 rfl rfl ?_
  refine m_getV (k := 16) 58 dX12_flip_55 rfl fl_X12_16 (by decide) rfl ?_
  refine s_iconst 59 dX12_flip_58 rfl ?_
  refine s_iload_n 60 dX12_flip_59 rfl rfl ?_
  refine s_iadd 61 dX12_flip_60 rfl ?_
  refine s_dup2 (q := 62) (hd := dX12_flip_61) (hq := rfl) (k := ?_)
  refine m_ald 63 3 9309 dX12_flip_62 rfl (by decide) rfl (fun hr62 => ?_)
  rw [ev1]
  refine s_iload_n 64 dX12_flip_63 rfl rfl ?_
  refine s_ixor 65 ((xr (s.1.getD z.toNat 0) v)) dX12_flip_64 rfl ((xor_xr hby.1 (by omega))) ?_
  refine m_ast 66 3 9309 dX12_flip_65 rfl (by decide) rfl ?_
  refine s_aload_n 67 dX12_flip_66 rfl rfl ?_
  refine m_getV (k := 16) 70 dX12_flip_67 rfl fl_X12_16 (by decide) rfl ?_
  refine s_iconst 71 dX12_flip_70 rfl ?_
  refine s_iload_n 72 dX12_flip_71 rfl rfl ?_
  refine s_iadd 73 dX12_flip_72 rfl ?_
  refine m_ald 74 3 9309 dX12_flip_73 rfl (by decide) rfl (fun hr73 => ?_)
  refine s_ireturn rfl dX12_flip_74 ?_
  rw [up_s, up_s]
  refine hp _ _ (hm.act hw ((frI.rf.up (by decide)).up (by decide)) ((f1.wk (by decide)).up (by decide)) (by rw [up_s]) (fun i x y => by rw [up_n (by decide)]; exact f2 i x y) (fun i x y => by rw [up_n (by decide)]; exact f3 i x y) ?_ (by rw [up_n (by decide), up_n (by decide)]; exact hm.1.1) (Or.inl rfl) (by rw [up_n (by decide), up_n (by decide)]; exact hm.2.2.1.1) (by rw [up_n (by decide), f1 11 (by decide)]; exact hm.2.2.1.2))
  rw [up_s, f1 3 (by decide)]
  refine hs.wire hws ?_ ?_ ?_
  · rw [up_n (by omega), (flpL_ok hws.2.1 (by omega)).2]; exact hs.1
  · exact sg_set hs.2.1 (by omega) (by omega)
  · intro i hi; rw [up_n (by omega)]
theorem o_lose {z : Int} (hz : rg z) (hm : RepM I A S) (hw : WfSy b S) (hb : b ≤ 90000000) (hp : ∀ I' A', RepM I' A' (oLose S z).2 → post (some (vi (oLose S z).1)) (I', A', D)) : Cm G (AM G m0 F n u) yX12_lose cX12_lose 3 (some .int) (d + 2) [.ref m0, vi z] (I, A, D) post := by
  obtain ⟨tp, bx, hd, rf, il, ru, tl, s, ps, im⟩ := S
  have hm0 := hm
  have hw0 := hw
  obtain ⟨-, -, -, -, m1, -, -, m3, -, m2⟩ := hm0
  obtain ⟨-, -, -, -, w1, -, w3, w4, w2⟩ := hw0
  refine Cm_intro (L := [some (.ref m0), some (vi z), none]) (by decide +kernel) (Nat.le_of_ble_eq_true rfl) rfl ?_
  have e17 : up I 0 0 17 = il := by rw [up_n (by decide)]; exact m1
  have e33 : up I 0 0 33 = ps.length := by rw [up_n (by decide)]; exact m3
  refine s_aload_n 1 dX12_lose_0 rfl rfl ?_
  refine s_iconst 2 dX12_lose_1 rfl ?_
  refine m_putI 5 0 dX12_lose_2 rfl fl_X12_60 (by decide) rfl rfl rfl rfl ?_
  refine s_aload_n 6 dX12_lose_5 rfl rfl ?_
  refine m_getI 9 17 dX12_lose_6 rfl fl_X12_188 (by decide) rfl (fun hr6 => ?_)
  refine s_if_ne 12 18 dX12_lose_9 rfl rfl (fun g => ?_) (fun g => ?_)
  rotate_left
  · rw [show oLose (tp, bx, hd, rf, il, ru, tl, s, ps, im) z = (-1, tp, bx, hd, rfF rf 0, il, ru, tl, s, ps, im) from if_pos (by omega)] at hp
    refine s_aload_n 13 dX12_lose_12 rfl rfl ?_
    refine s_iconst 14 dX12_lose_13 rfl ?_
    refine s_V1i 17 dX12_lose_14 rfl km_X12_refuses ml_X12_280 ds_X12_refuses (Nat.le_of_ble_eq_true rfl) m_rec rfl (c_refuses (by omega) (rf_rg hm hw hb 0 (by decide)) ?_)
    refine ⟨_, rfl, ?_⟩
    refine s_ireturn rfl dX12_lose_17 ?_
    exact hp _ _ (hm.rf' 0 (by decide))
  have hil : il = 1 := by omega
  subst hil
  obtain ⟨hru, -, hs, -, -⟩ := m2 rfl
  obtain ⟨hwr, -, ⟨hws, -⟩, -, -⟩ := w2 rfl
  have hl := hws.1
  have eo : oLose (tp, bx, hd, rf, 1, ru, tl, s, ps, im) z = if ¬ (0 ≤ z ∧ z < s.1.length) then (-1, tp, bx, hd, rfF rf 1, 1, ru, tl, s, ps, im) else (s.1.getD z.toNat 0, tp, bx, hd, rf, 1, ru, tl, (losL s.1 z.toNat, s.2), kpF ps s, im) := by rw [oLose]; exact if_neg (by decide)
  rw [eo] at hp
  refine s_aload_n 19 dX12_lose_18 rfl rfl ?_
  refine s_iload_n 20 dX12_lose_19 rfl rfl ?_
  refine s_V1b 23 dX12_lose_20 rfl km_X12_isByte ml_X12_315 ds_X12_isByte (Nat.le_of_ble_eq_true rfl) m_rec rfl (c_isByte (s := s) (b := b) (ch := (ru 5).toNat) hz (by rw [e17]; exact w1) (fun h => ⟨hs, hws⟩) ?_)
  refine ⟨_, rfl, ?_⟩
  refine s_if_neb 26 32 dX12_lose_23 rfl rfl (fun g2 => ?_) (fun g2 => ?_)
  rotate_left
  · have g2 := of_decide_eq_false g2
    rw [if_pos (fun h => g2 ⟨e17, h⟩)] at hp
    refine s_aload_n 27 dX12_lose_26 rfl rfl ?_
    refine s_iconst 28 dX12_lose_27 rfl ?_
    refine s_V1i 31 dX12_lose_28 rfl km_X12_refuses ml_X12_280 ds_X12_refuses (Nat.le_of_ble_eq_true rfl) m_rec rfl (c_refuses (by omega) (rf_rg hm hw hb 1 (by decide)) ?_)
    refine ⟨_, rfl, ?_⟩
    refine s_ireturn rfl dX12_lose_31 ?_
    exact hp _ _ (hm.rf' 1 (by decide))
  have g2 := (of_decide_eq_true g2).2
  rw [if_neg (fun h => h g2)] at hp
  obtain ⟨k, rfl⟩ := Int.eq_ofNat_of_zero_le g2.1
  have ev : A 3 (1 + (k : Int)) = s.1.getD k 0 := hs.2.1 k (by omega)
  refine s_aload_n 33 dX12_lose_32 rfl rfl ?_
  refine s_V0v 36 dX12_lose_33 rfl km_X12_keeps ml_X12_289 ds_X12_keeps (Nat.le_of_ble_eq_true rfl) m_rec rfl (c_keeps e33 w4 (fun A1 f1 f2 f3 => ?_))
  refine ⟨rfl, ?_⟩
  have ev1 : A1 3 (1 + (k : Int)) = s.1.getD k 0 := by rw [f1 3 (by decide)]; exact ev
  have hs1 : RepSt (ru 5).toNat (A1 3) s := by rw [f1 3 (by decide)]; exact hs
  refine s_aload_n 37 dX12_lose_36 rfl rfl ?_
  refine m_getV (k := 16) 40 dX12_lose_37 rfl fl_X12_16 (by decide) rfl ?_
  refine s_iconst 41 dX12_lose_40 rfl ?_
  refine s_iload_n 42 dX12_lose_41 rfl rfl ?_
  refine s_iadd 43 dX12_lose_42 rfl ?_
  refine m_ald 44 3 9309 dX12_lose_43 rfl (by decide) rfl (fun hr43 => ?_)
  rw [ev1]
  refine s_istore_n 45 dX12_lose_44 rfl (Nat.le_of_ble_eq_true rfl) rfl ?_
  refine s_aload_n 46 dX12_lose_45 rfl rfl ?_
  refine s_iload_n 47 dX12_lose_46 rfl rfl ?_
  refine s_V1v 50 dX12_lose_47 rfl km_X12_loses ml_X12_320 ds_X12_loses (Nat.le_of_ble_eq_true rfl) m_rec rfl (c_loses hs1 hws (by omega) (fun A2 y1 y2 => ?_))
  refine ⟨rfl, ?_⟩
  refine s_iload_n 51 dX12_lose_50 rfl rfl ?_
  refine s_ireturn rfl dX12_lose_51 ?_
  exact hp _ _ (hm.act hw ((frI.rf.up (by decide)).up (by decide)) ((f1.wk (by decide)).trans y1 (by decide)) (by rw [up_s]) (fun i x y => by rw [y1 8 (by decide)]; exact f2 i x y) (fun i x y => by rw [y1 8 (by decide)]; exact f3 i x y) y2 (by rw [up_n (by decide), up_n (by decide)]; exact hm.1.1) (Or.inl rfl) (by rw [up_n (by decide), up_n (by decide)]; exact hm.2.2.1.1) (by rw [y1 11 (by decide), f1 11 (by decide)]; exact hm.2.2.1.2))
end M28
