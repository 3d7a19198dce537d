section M30
variable {G : GT} {m0 n u : Nat} {F : HS} {d : Nat} {I : Nat → Int} {A : Nat → Int → Int} {D : Int64} {post : Option Value → MT → Prop} {S : SY} {b : Int}
theorem o_read {z : Int} (hz : rg z) (hm : RepM I A S) (hw : WfSy b S) (hb : b ≤ 90000000) (hp : ∀ I' A', RepM I' A' (oRead S z).2 → post (some (vi (oRead S z).1)) (I', A', D)) : Cm G (AM G m0 F n u) yX12_read cX12_read 3 (some .int) (d + 8) [.ref m0, vi z] (I, A, D) post := by
  obtain ⟨tp, bx, hd, rf, il, ru, tl, s, ps, im⟩ := S
  have hm0 := hm
  have hw0 := hw
  obtain ⟨-, -, -, -, m1, -, -, m3, -, m2⟩ := hm0
  obtain ⟨-, -, -, -, w1, -, w3, w4, w2⟩ := hw0
  refine Cm_intro (L := [some (.ref m0), some (vi z), none]) (by decide +kernel) (Nat.le_of_ble_eq_true rfl) rfl ?_
  have e17 : up I 0 0 17 = il := by rw [up_n (by decide)]; exact m1
  have e33 : up I 0 0 33 = ps.length := by rw [up_n (by decide)]; exact m3
  refine s_aload_n 1 dX12_read_0 rfl rfl ?_
  refine s_iconst 2 dX12_read_1 rfl ?_
  refine m_putI 5 0 dX12_read_2 rfl fl_X12_60 (by decide) rfl rfl rfl rfl ?_
  refine s_aload_n 6 dX12_read_5 rfl rfl ?_
  refine m_getI 9 17 dX12_read_6 rfl fl_X12_188 (by decide) rfl (fun hr6 => ?_)
  refine s_if_ne 12 18 dX12_read_9 rfl rfl (fun g => ?_) (fun g => ?_)
  rotate_left
  · rw [show oRead (tp, bx, hd, rf, il, ru, tl, s, ps, im) z = (-1, tp, bx, hd, rfF rf 0, il, ru, tl, s, ps, im) from if_pos (by omega)] at hp
    refine s_aload_n 13 dX12_read_12 rfl rfl ?_
    refine s_iconst 14 dX12_read_13 rfl ?_
    refine s_V1i 17 dX12_read_14 rfl km_X12_refuses ml_X12_280 ds_X12_refuses (Nat.le_of_ble_eq_true rfl) m_rec rfl (c_refuses (by omega) (rf_rg hm hw hb 0 (by decide)) ?_)
    refine ⟨_, rfl, ?_⟩
    refine s_ireturn rfl dX12_read_17 ?_
    exact hp _ _ (hm.rf' 0 (by decide))
  have hil : il = 1 := by omega
  subst hil
  obtain ⟨hru, htl, hs, -, -⟩ := m2 rfl
  obtain ⟨hwr, hwt, ⟨hws, hwc⟩, -, -⟩ := w2 rfl
  have hl := hws.1
  have h0 := hs.1
  have eo : oRead (tp, bx, hd, rf, 1, ru, tl, s, ps, im) z = if ¬ (1 ≤ z ∧ z ≤ 600) then (-1, tp, bx, hd, rfF rf 2, 1, ru, tl, s, ps, im) else if s.1.length = 0 then (0, tp, bx, hd, rf, 1, ru, tl, s, ps, im) else ((readF ru s (min z.toNat s.1.length)).2.2.1 2 - s.2.2.1 2, tp, bx, hd, rf, 1, ru, tl, readF ru s (min z.toNat s.1.length), kpF ps s, im) := by rw [oRead]; exact if_neg (by decide)
  rw [eo] at hp
  refine s_iload_n 19 dX12_read_18 rfl rfl ?_
  refine s_i2lz 20 dX12_read_19 rfl ?_
  refine s_lconstz 21 dX12_read_20 rfl ?_
  refine s_ldc2z 24 (600) dX12_read_21 rfl kc_X12_374 rfl ?_
  refine s_S3b 27 dX12_read_24 rfl km_X12_in rfl ml_X12_70 ds_X12_in (Nat.le_of_ble_eq_true rfl) (c_in hz (by decide) (by decide) ?_)
  refine ⟨_, rfl, ?_⟩
  refine s_if_neb 30 36 dX12_read_27 rfl rfl (fun g2 => ?_) (fun g2 => ?_)
  rotate_left
  · have g2 : ¬ (1 ≤ z ∧ z ≤ 600) := of_decide_eq_false g2
    rw [if_pos g2] at hp
    refine s_aload_n 31 dX12_read_30 rfl rfl ?_
    refine s_iconst 32 dX12_read_31 rfl ?_
    refine s_V1i 35 dX12_read_32 rfl km_X12_refuses ml_X12_280 ds_X12_refuses (Nat.le_of_ble_eq_true rfl) m_rec rfl (c_refuses (by omega) (rf_rg hm hw hb 2 (by decide)) ?_)
    refine ⟨_, rfl, ?_⟩
    refine s_ireturn rfl dX12_read_35 ?_
    exact hp _ _ (hm.rf' 2 (by decide))
  have g2 : 1 ≤ z ∧ z ≤ 600 := of_decide_eq_true g2
  rw [if_neg (fun h => h g2)] at hp
  refine s_aload_n 37 dX12_read_36 rfl rfl ?_
  refine m_getV (k := 16) 40 dX12_read_37 rfl fl_X12_16 (by decide) rfl ?_
  refine s_iconst 41 dX12_read_40 rfl ?_
  refine m_ald 42 3 9309 dX12_read_41 rfl (by decide) rfl (fun hr41 => ?_)
  refine s_if_ne 45 47 dX12_read_42 rfl rfl (fun g3 => ?_) (fun g3 => ?_)
  rotate_left
  · rw [if_pos (by omega)] at hp
    refine s_iconst 46 dX12_read_45 rfl ?_
    refine s_ireturn rfl dX12_read_46 ?_
    exact hp _ _ (hm.scr (frI.rf.up (by decide)) frA.rf)
  rw [if_neg (by omega)] at hp
  refine s_aload_n 48 dX12_read_47 rfl rfl ?_
  refine s_V0v 51 dX12_read_48 rfl km_X12_keeps ml_X12_289 ds_X12_keeps (Nat.le_of_ble_eq_true rfl) m_rec rfl (c_keeps e33 w4 (fun A1 f1 f2 f3 => ?_))
  refine ⟨rfl, ?_⟩
  have hs1 : RepSt (ru 5).toNat (A1 3) s := by rw [f1 3 (by decide)]; exact hs
  have e0 : A1 3 0 = s.1.length := hs1.1
  have e4 : A1 3 804 = s.2.2.1 2 := hs1.2.2.2.2.2.2.1
  have hru1 : RuM (up (up I 0 0) 33 (((min ps.length 11 : Nat) : Int) + 1)) ru := hru.fr (ks := [0, 33]) ((frI.rf.up (by decide)).up (by decide)) (by decide)
  refine s_aload_n 52 dX12_read_51 rfl rfl ?_
  refine m_getV (k := 16) 55 dX12_read_52 rfl fl_X12_16 (by decide) rfl ?_
  refine s_sipush 58 dX12_read_55 rfl (k := ?_)
  refine m_ald 59 3 9309 dX12_read_58 rfl (by decide) rfl (fun hr58 => ?_)
  refine s_istore_n 60 dX12_read_59 rfl (Nat.le_of_ble_eq_true rfl) rfl ?_
  refine s_aload_n 61 dX12_read_60 rfl rfl ?_
  refine s_iload_n 62 dX12_read_61 rfl rfl ?_
  refine s_aload_n 63 dX12_read_62 rfl rfl ?_
  refine m_getV (k := 16) 66 dX12_read_63 rfl fl_X12_16 (by decide) rfl ?_
  refine s_iconst 67 dX12_read_66 rfl ?_
  refine m_ald 68 3 9309 dX12_read_67 rfl (by decide) rfl (fun hr67 => ?_)
  refine s_min (q := 71) (hd := dX12_read_68) (hq := rfl) (hw := ml_X12_97) (hrest := Nat.le_of_ble_eq_true rfl) (k := ?_)
  rw [show min z (A1 3 0) = ((min z.toNat s.1.length : Nat) : Int) by omega, e4]
  have hwr2 := readF_wf (k := min z.toNat s.1.length) hws hwr rfl
  refine s_V1v 74 dX12_read_71 rfl km_X12_readsBytes ml_X12_376 ds_X12_readsBytes (Nat.le_of_ble_eq_true rfl) m_rec rfl (c_readsBytes rfl hs1 hws (by omega) hru1 hwr (by omega) (fun I2 A2 y1 y2 y3 => ?_))
  refine ⟨rfl, ?_⟩
  have e5 : A2 3 804 = (readF ru s (min z.toNat s.1.length)).2.2.1 2 := y3.2.2.2.2.2.2.1
  have x7 := hws.2.2.2.2.2.2.2.1
  have x8 := hwr2.2.2.2.2.2.2.2.1
  refine s_aload_n 75 dX12_read_74 rfl rfl ?_
  refine m_getV (k := 16) 78 dX12_read_75 rfl fl_X12_16 (by decide) rfl ?_
  refine s_sipush 81 dX12_read_78 rfl (k := ?_)
  refine m_ald 82 3 9309 dX12_read_81 rfl (by decide) rfl (fun hr81 => ?_)
  refine s_iload_n 83 dX12_read_82 rfl rfl ?_
  refine s_isub 84 dX12_read_83 rfl ?_
  refine s_ireturn rfl dX12_read_84 ?_
  rw [e5]
  exact hp _ _ (hm.act hw (((frI.rf.up (by decide)).up (by decide)).trans y1 (by decide)) ((f1.wk (by decide)).trans y2 (by decide)) (by rw [y1 33 (by decide), up_s]) (fun i x y => by rw [y2 8 (by decide)]; exact f2 i x y) (fun i x y => by rw [y2 8 (by decide)]; exact f3 i x y) y3 (by rw [y1 2 (by decide), up_n (by decide), up_n (by decide)]; exact hm.1.1) (Or.inl rfl) (by rw [y1 38 (by decide), up_n (by decide), up_n (by decide)]; exact hm.2.2.1.1) (by rw [y2 11 (by decide), f1 11 (by decide)]; exact hm.2.2.1.2))
end M30
