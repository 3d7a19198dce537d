section M31
variable {G : GT} {m0 n u : Nat} {F : HS} {d : Nat} {I : Nat → Int} {A : Nat → Int → Int} {D : Int64} {post : Option Value → MT → Prop} {S : SY} {b : Int}
theorem o_renew {z : Int} (hz : rg z) (hm : RepM I A S) (hw : WfSy b S) (hb : b ≤ 90000000) (hp : ∀ I' A', RepM I' A' (oRenew S z).2 → post (some (vi (oRenew S z).1)) (I', A', D)) : Cm G (AM G m0 F n u) yX12_renew cX12_renew 2 (some .int) (d + 2) [.ref m0, vi z] (I, A, D) post := by
  obtain ⟨tp, bx, hd, rf, il, ru, tl, s, ps, im⟩ := S
  have hm0 := hm
  have hw0 := hw
  obtain ⟨-, -, -, -, m1, -, -, m3, -, m2⟩ := hm0
  obtain ⟨-, -, -, -, w1, -, w3, w4, w2⟩ := hw0
  refine Cm_intro (L := [some (.ref m0), some (vi z)]) (by decide +kernel) (Nat.le_of_ble_eq_true rfl) rfl ?_
  have e17 : up I 0 0 17 = il := by rw [up_n (by decide)]; exact m1
  have e33 : up I 0 0 33 = ps.length := by rw [up_n (by decide)]; exact m3
  refine s_aload_n 1 dX12_renew_0 rfl rfl ?_
  refine s_iconst 2 dX12_renew_1 rfl ?_
  refine m_putI 5 0 dX12_renew_2 rfl fl_X12_60 (by decide) rfl rfl rfl rfl ?_
  refine s_aload_n 6 dX12_renew_5 rfl rfl ?_
  refine m_getI 9 17 dX12_renew_6 rfl fl_X12_188 (by decide) rfl (fun hr6 => ?_)
  refine s_if_ne 12 18 dX12_renew_9 rfl rfl (fun g => ?_) (fun g => ?_)
  rotate_left
  · rw [show oRenew (tp, bx, hd, rf, il, ru, tl, s, ps, im) z = (-1, tp, bx, hd, rfF rf 0, il, ru, tl, s, ps, im) from if_pos (by omega)] at hp
    refine s_aload_n 13 dX12_renew_12 rfl rfl ?_
    refine s_iconst 14 dX12_renew_13 rfl ?_
    refine s_V1i 17 dX12_renew_14 rfl km_X12_refuses ml_X12_280 ds_X12_refuses (Nat.le_of_ble_eq_true rfl) m_rec rfl (c_refuses (by omega) (rf_rg hm hw hb 0 (by decide)) ?_)
    refine ⟨_, rfl, ?_⟩
    refine s_ireturn rfl dX12_renew_17 ?_
    exact hp _ _ (hm.rf' 0 (by decide))
  have hil : il = 1 := by omega
  subst hil
  obtain ⟨hru, htl, hs, -, -⟩ := m2 rfl
  obtain ⟨hwr, hwt, ⟨hws, hwc⟩, -, -⟩ := w2 rfl
  have hl := hws.1
  have h0 := hs.1
  have e23 : up I 0 0 23 = ru 5 := by rw [up_n (by decide)]; exact hru.2.2.2.2.2
  have hr5 := hwr.2.2.2.2.2
  have eo : oRenew (tp, bx, hd, rf, 1, ru, tl, s, ps, im) z = if ¬ (0 ≤ z ∧ z < ru 5) then (-1, tp, bx, hd, rfF rf 1, 1, ru, tl, s, ps, im) else if (s.2.2.2.2 z.toNat).1 0 = tl z.toNat then (-1, tp, bx, hd, rfF rf 2, 1, ru, tl, s, ps, im) else (tl z.toNat, tp, bx, hd, rf, 1, ru, tl, chS s z.toNat (up (s.2.2.2.2 z.toNat).1 0 (tl z.toNat), (s.2.2.2.2 z.toNat).2), kpF ps s, im) := by rw [oRenew]; exact if_neg (by decide)
  rw [eo] at hp
  refine s_aload_n 19 dX12_renew_18 rfl rfl ?_
  refine s_iload_n 20 dX12_renew_19 rfl rfl ?_
  refine s_V1b 23 dX12_renew_20 rfl km_X12_isChannel ml_X12_283 ds_X12_isChannel (Nat.le_of_ble_eq_true rfl) m_rec rfl (c_isChannel hz (by rw [e17]; exact w1) (by omega) ?_)
  refine ⟨_, rfl, ?_⟩
  refine s_if_neb 26 32 dX12_renew_23 rfl rfl (fun g2 => ?_) (fun g2 => ?_)
  rotate_left
  · have g2 := of_decide_eq_false g2
    rw [if_pos (fun h => g2 ⟨e17, h.1, by omega⟩)] at hp
    refine s_aload_n 27 dX12_renew_26 rfl rfl ?_
    refine s_iconst 28 dX12_renew_27 rfl ?_
    refine s_V1i 31 dX12_renew_28 rfl km_X12_refuses ml_X12_280 ds_X12_refuses (Nat.le_of_ble_eq_true rfl) m_rec rfl (c_refuses (by omega) (rf_rg hm hw hb 1 (by decide)) ?_)
    refine ⟨_, rfl, ?_⟩
    refine s_ireturn rfl dX12_renew_31 ?_
    exact hp _ _ (hm.rf' 1 (by decide))
  have g2 := (of_decide_eq_true g2).2
  have g3 : 0 ≤ z ∧ z < ru 5 := ⟨g2.1, by omega⟩
  rw [if_neg (fun h => h g3)] at hp
  obtain ⟨c, rfl⟩ := Int.eq_ofNat_of_zero_le g2.1
  have hcc : c < (ru 5).toNat := by omega
  rw [show ((c : Nat) : Int).toNat = c from rfl] at hp
  have hx := hs.2.2.2.2.2.2.2.2 c hcc
  have hwx := hws.2.2.2.2.2.2.2.2.2.2 c hcc
  have ht1 := htl c hcc
  have ht2 := hwt c hcc
  have a0 := hx.1.1
  have wx0 := hwx.1
  refine s_aload_n 33 dX12_renew_32 rfl rfl ?_
  refine s_iload_n 34 dX12_renew_33 rfl rfl ?_
  refine s_iconst 35 dX12_renew_34 rfl ?_
  refine s_V2i 38 dX12_renew_35 rfl km_X12_its ml_X12_286 ds_X12_its (Nat.le_of_ble_eq_true rfl) m_rec rfl (c_itsP (by omega) (by omega) (fun hr => ?_))
  refine ⟨_, rfl, ?_⟩
  rw [a0]
  refine s_aload_n 39 dX12_renew_38 rfl rfl ?_
  refine m_getV (k := 24) 42 dX12_renew_39 rfl fl_X12_26 (by decide) rfl ?_
  refine s_iload_n 43 dX12_renew_42 rfl rfl ?_
  refine m_ald 44 4 4 dX12_renew_43 rfl (by decide) rfl (fun hr43 => ?_)
  rw [ht1]
  refine s_icmp_ne 47 53 dX12_renew_44 rfl rfl (fun g4 => ?_) (fun g4 => ?_)
  rotate_left
  · rw [if_pos g4] at hp
    refine s_aload_n 48 dX12_renew_47 rfl rfl ?_
    refine s_iconst 49 dX12_renew_48 rfl ?_
    refine s_V1i 52 dX12_renew_49 rfl km_X12_refuses ml_X12_280 ds_X12_refuses (Nat.le_of_ble_eq_true rfl) m_rec rfl (c_refuses (by omega) (rf_rg hm hw hb 2 (by decide)) ?_)
    refine ⟨_, rfl, ?_⟩
    refine s_ireturn rfl dX12_renew_52 ?_
    exact hp _ _ (hm.rf' 2 (by decide))
  rw [if_neg g4] at hp
  refine s_aload_n 54 dX12_renew_53 rfl rfl ?_
  refine s_V0v 57 dX12_renew_54 rfl km_X12_keeps ml_X12_289 ds_X12_keeps (Nat.le_of_ble_eq_true rfl) m_rec rfl (c_keeps e33 w4 (fun A1 f1 f2 f3 => ?_))
  refine ⟨rfl, ?_⟩
  have e4 : A1 4 (c : Int) = tl c := by rw [f1 4 (by decide)]; exact ht1
  refine s_aload_n 58 dX12_renew_57 rfl rfl ?_
  refine s_iload_n 59 dX12_renew_58 rfl rfl ?_
  refine s_iconst 60 dX12_renew_59 rfl ?_
  refine s_aload_n 61 dX12_renew_60 rfl rfl ?_
  refine m_getV (k := 24) 64 dX12_renew_61 rfl fl_X12_26 (by decide) rfl ?_
  refine s_iload_n 65 dX12_renew_64 rfl rfl ?_
  refine m_ald 66 4 4 dX12_renew_65 rfl (by decide) rfl (fun hr65 => ?_)
  rw [e4]
  refine s_V3v 69 dX12_renew_66 rfl km_X12_lay ml_X12_201 ds_X12_lay (Nat.le_of_ble_eq_true rfl) m_rec rfl (c_layP (c := c) (by omega) (by omega) (by constructor <;> omega) (fun A2 y1 y2 y3 => ?_))
  refine ⟨rfl, ?_⟩
  have e5 : A2 4 (c : Int) = tl c := by rw [y1 4 (by decide)]; exact e4
  refine s_aload_n 70 dX12_renew_69 rfl rfl ?_
  refine m_getV (k := 24) 73 dX12_renew_70 rfl fl_X12_26 (by decide) rfl ?_
  refine s_iload_n 74 dX12_renew_73 rfl rfl ?_
  refine m_ald 75 4 4 dX12_renew_74 rfl (by decide) rfl (fun hr74 => ?_)
  refine s_ireturn rfl dX12_renew_75 ?_
  rw [e5]
  refine hp _ _ (hm.act hw ((frI.rf.up (by decide)).up (by decide)) ((f1.wk (by decide)).trans y1 (by decide)) (by rw [up_s]) (fun i x y => by rw [y1 8 (by decide)]; exact f2 i x y) (fun i x y => by rw [y1 8 (by decide)]; exact f3 i x y) ?_ (by rw [up_n (by decide), up_n (by decide)]; exact hm.1.1) (Or.inl rfl) (by rw [up_n (by decide), up_n (by decide)]; exact hm.2.2.1.1) (by rw [y1 11 (by decide), f1 11 (by decide)]; exact hm.2.2.1.2))
  rw [f1 3 (by decide)] at y2 y3
  refine hs.port hws y2 ?_
  rw [y3]
  refine hx.hdr hwx (fun k p q => up_n (by omega)) ?_
  obtain ⟨a0, a1, a2, a3, a4, a5, a6, a7, a8, a9, a10, a11⟩ := hx.1
  exact ⟨rfl, a1, a2, a3, a4, a5, a6, a7, a8, a9, a10, a11⟩
end M31
