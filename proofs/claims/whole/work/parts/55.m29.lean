section M29
variable {G : GT} {m0 n u : Nat} {F : HS} {d : Nat} {I : Nat → Int} {A : Nat → Int → Int} {D : Int64} {post : Option Value → MT → Prop} {S : SY} {b : Int}
theorem o_insert {z v : Int} (hz : rg z) (hv : rg v) (hm : RepM I A S) (hw : WfSy b S) (hb : b ≤ 90000000) (hp : ∀ I' A', RepM I' A' (oInsert S z v).2 → post (some (vi (oInsert S z v).1)) (I', A', D)) : Cm G (AM G m0 F n u) yX12_insert cX12_insert 3 (some .int) (d + 2) [.ref m0, vi z, vi v] (I, A, D) post := by
  obtain ⟨tp, bx, hd, rf, il, ru, tl, s, ps, im⟩ := S
  have hm0 := hm
  have hw0 := hw
  obtain ⟨-, -, -, -, m1, -, -, m3, -, m2⟩ := hm0
  obtain ⟨-, -, -, -, w1, -, w3, w4, w2⟩ := hw0
  refine Cm_intro (L := [some (.ref m0), some (vi z), some (vi v)]) (by decide +kernel) (Nat.le_of_ble_eq_true rfl) rfl ?_
  have e17 : up I 0 0 17 = il := by rw [up_n (by decide)]; exact m1
  have e33 : up I 0 0 33 = ps.length := by rw [up_n (by decide)]; exact m3
  refine s_aload_n 1 dX12_insert_0 rfl rfl ?_
  refine s_iconst 2 dX12_insert_1 rfl ?_
  refine m_putI 5 0 dX12_insert_2 rfl fl_X12_60 (by decide) rfl rfl rfl rfl ?_
  refine s_aload_n 6 dX12_insert_5 rfl rfl ?_
  refine m_getI 9 17 dX12_insert_6 rfl fl_X12_188 (by decide) rfl (fun hr6 => ?_)
  refine s_if_ne 12 18 dX12_insert_9 rfl rfl (fun g => ?_) (fun g => ?_)
  rotate_left
  · rw [show oInsert (tp, bx, hd, rf, il, ru, tl, s, ps, im) z v = (-1, tp, bx, hd, rfF rf 0, il, ru, tl, s, ps, im) from if_pos (by omega)] at hp
    refine s_aload_n 13 dX12_insert_12 rfl rfl ?_
    refine s_iconst 14 dX12_insert_13 rfl ?_
    refine s_V1i 17 dX12_insert_14 rfl km_X12_refuses ml_X12_280 ds_X12_refuses (Nat.le_of_ble_eq_true rfl) m_rec rfl (c_refuses (by omega) (rf_rg hm hw hb 0 (by decide)) ?_)
    refine ⟨_, rfl, ?_⟩
    refine s_ireturn rfl dX12_insert_17 ?_
    exact hp _ _ (hm.rf' 0 (by decide))
  have hil : il = 1 := by omega
  subst hil
  obtain ⟨hru, -, hs, -, -⟩ := m2 rfl
  obtain ⟨hwr, -, ⟨hws, -⟩, -, -⟩ := w2 rfl
  have hl := hws.1
  have h0 := hs.1
  have eo : oInsert (tp, bx, hd, rf, 1, ru, tl, s, ps, im) z v = if ¬ (0 ≤ z ∧ z ≤ s.1.length) then (-1, tp, bx, hd, rfF rf 1, 1, ru, tl, s, ps, im) else if ¬ (0 ≤ v ∧ v ≤ 255) then (-1, tp, bx, hd, rfF rf 2, 1, ru, tl, s, ps, im) else if s.1.length = 600 then (-1, tp, bx, hd, rfF rf 3, 1, ru, tl, s, ps, im) else ((s.1.length : Int) + 1, tp, bx, hd, rf, 1, ru, tl, (insL s.1 z.toNat v, s.2), kpF ps s, im) := by rw [oInsert]; exact if_neg (by decide)
  rw [eo] at hp
  refine s_iload_n 19 dX12_insert_18 rfl rfl ?_
  refine s_i2lz 20 dX12_insert_19 rfl ?_
  refine s_lconstz 21 dX12_insert_20 rfl ?_
  refine s_aload_n 22 dX12_insert_21 rfl rfl ?_
  refine m_getV (k := 16) 25 dX12_insert_22 rfl fl_X12_16 (by decide) rfl ?_
  refine s_iconst 26 dX12_insert_25 rfl ?_
  refine m_ald 27 3 9309 dX12_insert_26 rfl (by decide) rfl (fun hr26 => ?_)
  rw [h0]
  refine s_i2lz 28 dX12_insert_27 rfl ?_
  refine s_S3b 31 dX12_insert_28 rfl km_X12_in rfl ml_X12_70 ds_X12_in (Nat.le_of_ble_eq_true rfl) (c_in hz (by decide) (by constructor <;> omega) ?_)
  refine ⟨_, rfl, ?_⟩
  refine s_if_neb 34 40 dX12_insert_31 rfl rfl (fun g2 => ?_) (fun g2 => ?_)
  rotate_left
  · have g2 : ¬ (0 ≤ z ∧ z ≤ s.1.length) := of_decide_eq_false g2
    rw [if_pos g2] at hp
    refine s_aload_n 35 dX12_insert_34 rfl rfl ?_
    refine s_iconst 36 dX12_insert_35 rfl ?_
    refine s_V1i 39 dX12_insert_36 rfl km_X12_refuses ml_X12_280 ds_X12_refuses (Nat.le_of_ble_eq_true rfl) m_rec rfl (c_refuses (by omega) (rf_rg hm hw hb 1 (by decide)) ?_)
    refine ⟨_, rfl, ?_⟩
    refine s_ireturn rfl dX12_insert_39 ?_
    exact hp _ _ (hm.rf' 1 (by decide))
  have g2 : 0 ≤ z ∧ z ≤ s.1.length := of_decide_eq_true g2
  rw [if_neg (fun h => h g2)] at hp
  refine s_iload_n 41 dX12_insert_40 rfl rfl ?_
  refine s_i2lz 42 dX12_insert_41 rfl ?_
  refine s_lconstz 43 dX12_insert_42 rfl ?_
  refine s_ldc2z 46 (255) dX12_insert_43 rfl kc_X12_318 rfl ?_
  refine s_S3b 49 dX12_insert_46 rfl km_X12_in rfl ml_X12_70 ds_X12_in (Nat.le_of_ble_eq_true rfl) (c_in hv (by decide) (by decide) ?_)
  refine ⟨_, rfl, ?_⟩
  refine s_if_neb 52 58 dX12_insert_49 rfl rfl (fun g3 => ?_) (fun g3 => ?_)
  rotate_left
  · have g3 : ¬ (0 ≤ v ∧ v ≤ 255) := of_decide_eq_false g3
    rw [if_pos g3] at hp
    refine s_aload_n 53 dX12_insert_52 rfl rfl ?_
    refine s_iconst 54 dX12_insert_53 rfl ?_
    refine s_V1i 57 dX12_insert_54 rfl km_X12_refuses ml_X12_280 ds_X12_refuses (Nat.le_of_ble_eq_true rfl) m_rec rfl (c_refuses (by omega) (rf_rg hm hw hb 2 (by decide)) ?_)
    refine ⟨_, rfl, ?_⟩
    refine s_ireturn rfl dX12_insert_57 ?_
    exact hp _ _ (hm.rf' 2 (by decide))
  have g3 : 0 ≤ v ∧ v ≤ 255 := of_decide_eq_true g3
  rw [if_neg (fun h => h g3)] at hp
  refine s_aload_n 59 dX12_insert_58 rfl rfl ?_
  refine m_getV (k := 16) 62 dX12_insert_59 rfl fl_X12_16 (by decide) rfl ?_
  refine s_iconst 63 dX12_insert_62 rfl ?_
  refine m_ald 64 3 9309 dX12_insert_63 rfl (by decide) rfl (fun hr63 => ?_)
  refine s_sipush 67 dX12_insert_64 rfl (k := ?_)
  refine s_icmp_ne 70 76 dX12_insert_67 rfl rfl (fun g4 => ?_) (fun g4 => ?_)
  rotate_left
  · rw [if_pos (by omega)] at hp
    refine s_aload_n 71 dX12_insert_70 rfl rfl ?_
    refine s_iconst 72 dX12_insert_71 rfl ?_
    refine s_V1i 75 dX12_insert_72 rfl km_X12_refuses ml_X12_280 ds_X12_refuses (Nat.le_of_ble_eq_true rfl) m_rec rfl (c_refuses (by omega) (rf_rg hm hw hb 3 (by decide)) ?_)
    refine ⟨_, rfl, ?_⟩
    refine s_ireturn rfl dX12_insert_75 ?_
    exact hp _ _ (hm.rf' 3 (by decide))
  rw [if_neg (by omega)] at hp
  obtain ⟨k, rfl⟩ := Int.eq_ofNat_of_zero_le g2.1
  refine s_aload_n 77 dX12_insert_76 rfl rfl ?_
  refine s_V0v 80 dX12_insert_77 rfl km_X12_keeps ml_X12_289 ds_X12_keeps (Nat.le_of_ble_eq_true rfl) m_rec rfl (c_keeps e33 w4 (fun A1 f1 f2 f3 => ?_))
  refine ⟨rfl, ?_⟩
  have hs1 : RepSt (ru 5).toNat (A1 3) s := by rw [f1 3 (by decide)]; exact hs
  refine s_aload_n 81 dX12_insert_80 rfl rfl ?_
  refine s_iload_n 82 dX12_insert_81 rfl rfl ?_
  refine s_iload_n 83 dX12_insert_82 rfl rfl ?_
  refine s_V2v 86 dX12_insert_83 rfl km_X12_inserts ml_X12_323 ds_X12_inserts (Nat.le_of_ble_eq_true rfl) m_rec rfl (c_inserts hs1 hws (by omega) (by omega) g3 (fun A2 y1 y2 => ?_))
  refine ⟨rfl, ?_⟩
  refine s_aload_n 87 dX12_insert_86 rfl rfl ?_
  refine m_getV (k := 16) 90 dX12_insert_87 rfl fl_X12_16 (by decide) rfl ?_
  refine s_iconst 91 dX12_insert_90 rfl ?_
  refine m_ald 92 3 9309 dX12_insert_91 rfl (by decide) rfl (fun hr91 => ?_)
  refine s_ireturn rfl dX12_insert_92 ?_
  have hl2 := (insL_ok (i := k) hws.2.1 (by omega) g3).2
  rw [y2.1, show (((insL s.1 k v, s.2) : ST).1.length : Int) = (s.1.length : Int) + 1 by show ((insL s.1 k v).length : Int) = _; rw [hl2]; omega]
  exact hp _ _ (hm.act hw ((frI.rf.up (by decide)).up (by decide)) ((f1.wk (by decide)).trans y1 (by decide)) (by rw [up_s]) (fun i x y => by rw [y1 8 (by decide)]; exact f2 i x y) (fun i x y => by rw [y1 8 (by decide)]; exact f3 i x y) y2 (by rw [up_n (by decide), up_n (by decide)]; exact hm.1.1) (Or.inl rfl) (by rw [up_n (by decide), up_n (by decide)]; exact hm.2.2.1.1) (by rw [y1 11 (by decide), f1 11 (by decide)]; exact hm.2.2.1.2))
end M29
