section M27
variable {G : GT} {m0 n u : Nat} {F : HS} {d : Nat} {I : Nat → Int} {A : Nat → Int → Int} {D : Int64} {post : Option Value → MT → Prop} {S : SY} {b : Int}
theorem rf_rg {I : Nat → Int} {A : Nat → Int → Int} {b : Int} {tp bx hd : List Int} {rf : Nat → Int} {il : Int} {ru : RU} {tl : Nat → Int} {s : ST} {ps : List ST} {im : Option ST} (hm : RepM I A (tp, bx, hd, rf, il, ru, tl, s, ps, im)) (hw : WfSy b (tp, bx, hd, rf, il, ru, tl, s, ps, im)) (hb : b ≤ 90000000) (k : Nat) (hk : k < 4) : rg (A 10 (k : Int) + 1) := by
  have h1 := hm.2.2.2.1 k hk
  have h2 := hw.2.2.2.1 k hk
  rw [h1]
  constructor <;> omega
theorem o_byteAt {z : Int} (hz : rg z) (hm : RepM I A S) (hw : WfSy b S) (hp : ∀ I' A', RepM I' A' S → post (some (vi (atF S.2.2.2.2.2.2.2.1.1 z))) (I', A', D)) : Cm G (AM G m0 F n u) yX12_byteAt cX12_byteAt 2 (some .int) (d + 2) [.ref m0, vi z] (I, A, D) post := by
  obtain ⟨tp, bx, hd, rf, il, ru, tl, s, ps, im⟩ := S
  have hp := hp (up I 0 0) A (hm.scr (frI.rf.up (by decide)) frA.rf)
  have hm0 := hm
  have hw0 := hw
  obtain ⟨-, -, -, -, m1, -, -, -, -, m2⟩ := hm0
  obtain ⟨-, -, -, -, w1, -, w3, -, w2⟩ := hw0
  refine Cm_intro (L := [some (.ref m0), some (vi z)]) (by decide +kernel) (Nat.le_of_ble_eq_true rfl) rfl ?_
  have e17 : up I 0 0 17 = il := by rw [up_n (by decide)]; exact m1
  refine s_aload_n 1 dX12_byteAt_0 rfl rfl ?_
  refine s_iconst 2 dX12_byteAt_1 rfl ?_
  refine m_putI 5 0 dX12_byteAt_2 rfl fl_X12_60 (by decide) rfl rfl rfl rfl ?_
  refine s_aload_n 6 dX12_byteAt_5 rfl rfl ?_
  refine s_iload_n 7 dX12_byteAt_6 rfl rfl ?_
  refine s_V1b 10 dX12_byteAt_7 rfl km_X12_isByte ml_X12_315 ds_X12_isByte (Nat.le_of_ble_eq_true rfl) m_rec rfl (c_isByte (s := s) (b := b) (ch := (ru 5).toNat) hz (by rw [e17]; exact w1) (fun h => ⟨(m2 (by omega)).2.2.1, (w2 (by omega)).2.2.1.1⟩) ?_)
  refine ⟨_, rfl, ?_⟩
  refine s_if_eqb 13 24 dX12_byteAt_10 rfl rfl (fun g => ?_) (fun g => ?_)
  · have g := of_decide_eq_false g
    refine s_iconst 25 dX12_byteAt_24 rfl ?_
    refine s_ireturn rfl dX12_byteAt_25 ?_
    have e : atF s.1 z = -1 := by
      rcases w1 with h0 | h1
      · have := (w3 h0).2.2.2
        rw [this]
        exact if_neg (fun h => by have : z < 0 := h.2; omega)
      · exact if_neg (fun h => g ⟨by omega, h⟩)
    have hp : post (some (vi (atF s.1 z))) (up I 0 0, A, D) := hp
    rw [e] at hp
    exact hp
  · have g := of_decide_eq_true g
    have hs := (m2 (by omega)).2.2.1
    have hws := (w2 (by omega)).2.2.1.1
    have hl := hws.1
    refine s_aload_n 14 dX12_byteAt_13 rfl rfl ?_
    refine m_getV (k := 16) 17 dX12_byteAt_14 rfl fl_X12_16 (by decide) rfl ?_
    refine s_iconst 18 dX12_byteAt_17 rfl ?_
    refine s_iload_n 19 dX12_byteAt_18 rfl rfl ?_
    refine s_iadd 20 dX12_byteAt_19 rfl ?_
    refine m_ald 21 3 9309 dX12_byteAt_20 rfl (by decide) rfl (fun hr20 => ?_)
    refine s_goto 25 dX12_byteAt_21 rfl ?_
    refine s_ireturn rfl dX12_byteAt_25 ?_
    have hp : post (some (vi (atF s.1 z))) (up I 0 0, A, D) := hp
    rw [show atF s.1 z = s.1.getD z.toNat 0 from if_pos g.2] at hp
    have ev : A 3 (1 + z) = s.1.getD z.toNat 0 := by
      rw [← hs.2.1 z.toNat (by omega)]
      congr 1
      omega
    rw [ev]
    exact hp
theorem o_hand {z : Int} (hz : rg z) (hm : RepM I A S) (hw : WfSy b S) (hp : ∀ I' A', RepM I' A' S → post (some (vi (atF S.2.2.1 z))) (I', A', D)) : Cm G (AM G m0 F n u) yX12_hand cX12_hand 2 (some .int) (d + 1) [.ref m0, vi z] (I, A, D) post := by
  obtain ⟨tp, bx, hd, rf, il, ru, tl, s, ps, im⟩ := S
  have hp := hp (up I 0 0) A (hm.scr (frI.rf.up (by decide)) frA.rf)
  have hp : post (some (vi (atF hd z))) (up I 0 0, A, D) := hp
  obtain ⟨-, -, ⟨m3, m4⟩, -, m1, -⟩ := hm
  obtain ⟨-, -, ⟨w4, w5⟩, -, w1, -, w3, -, -⟩ := hw
  refine Cm_intro (L := [some (.ref m0), some (vi z)]) (by decide +kernel) (Nat.le_of_ble_eq_true rfl) rfl ?_
  have e17 : up I 0 0 17 = il := by rw [up_n (by decide)]; exact m1
  have e38 : up I 0 0 38 = hd.length := by rw [up_n (by decide)]; exact m3
  refine s_aload_n 1 dX12_hand_0 rfl rfl ?_
  refine s_iconst 2 dX12_hand_1 rfl ?_
  refine m_putI 5 0 dX12_hand_2 rfl fl_X12_60 (by decide) rfl rfl rfl rfl ?_
  refine s_aload_n 6 dX12_hand_5 rfl rfl ?_
  refine m_getI 9 17 dX12_hand_6 rfl fl_X12_188 (by decide) rfl (fun hr6 => ?_)
  refine s_if_eq 12 37 dX12_hand_9 rfl rfl (fun g => ?_) (fun g => ?_)
  · refine s_iconst 38 dX12_hand_37 rfl ?_
    refine s_ireturn rfl dX12_hand_38 ?_
    rw [(w3 (by omega)).1, show atF [] z = -1 from if_neg (fun h => by have : z < 0 := h.2; omega)] at hp
    exact hp
  refine s_iload_n 13 dX12_hand_12 rfl rfl ?_
  refine s_i2lz 14 dX12_hand_13 rfl ?_
  refine s_lconstz 15 dX12_hand_14 rfl ?_
  refine s_aload_n 16 dX12_hand_15 rfl rfl ?_
  refine m_getI 19 38 dX12_hand_16 rfl fl_X12_211 (by decide) rfl (fun hr16 => ?_)
  refine s_iconst 20 dX12_hand_19 rfl ?_
  refine s_isub 21 dX12_hand_20 rfl ?_
  refine s_i2lz 22 dX12_hand_21 rfl ?_
  refine s_S3b 25 dX12_hand_22 rfl km_X12_in rfl ml_X12_70 ds_X12_in (Nat.le_of_ble_eq_true rfl) (c_in hz (by decide) (by omega) ?_)
  refine ⟨_, rfl, ?_⟩
  refine s_if_eqb 28 37 dX12_hand_25 rfl rfl (fun g2 => ?_) (fun g2 => ?_)
  · have g2 := of_decide_eq_false g2
    refine s_iconst 38 dX12_hand_37 rfl ?_
    refine s_ireturn rfl dX12_hand_38 ?_
    rw [show atF hd z = -1 from if_neg (fun h => g2 ⟨h.1, by omega⟩)] at hp
    exact hp
  · have g2 := of_decide_eq_true g2
    have g3 : z ≤ up I 0 0 38 - 1 := g2.2
    refine s_aload_n 29 dX12_hand_28 rfl rfl ?_
    refine m_getV (k := 37) 32 dX12_hand_29 rfl fl_X12_48 (by decide) rfl ?_
    refine s_iload_n 33 dX12_hand_32 rfl rfl ?_
    refine m_ald 34 11 120 dX12_hand_33 rfl (by decide) rfl (fun hr33 => ?_)
    refine s_goto 38 dX12_hand_34 rfl ?_
    refine s_ireturn rfl dX12_hand_38 ?_
    rw [show atF hd z = hd.getD z.toNat 0 from if_pos ⟨g2.1, by omega⟩] at hp
    have ev : A 11 z = hd.getD z.toNat 0 := by
      rw [← m4 z.toNat (by omega)]
      congr 1
      omega
    rw [ev]
    exact hp
theorem o_event {z w : Int} (hz : rg z) (hv : rg w) (hm : RepM I A S) (hw : WfSy b S) (hb : b ≤ 90000000) (hp : ∀ I' A', RepM I' A' S → post (some (vi (aEvent S.2.2.2.2.2.2.2.1 z w))) (I', A', D)) : Cm G (AM G m0 F n u) yX12_event_ cX12_event_ 3 (some .int) (d + 1) [.ref m0, vi z, vi w] (I, A, D) post := by
  obtain ⟨tp, bx, hd, rf, il, ru, tl, s, ps, im⟩ := S
  have hp := hp (up I 0 0) A (hm.scr (frI.rf.up (by decide)) frA.rf)
  have hp : post (some (vi (aEvent s z w))) (up I 0 0, A, D) := hp
  obtain ⟨-, -, -, -, m1, -, -, -, -, m2⟩ := hm
  obtain ⟨-, -, -, -, w1, -, w3, -, w2⟩ := hw
  refine Cm_intro (L := [some (.ref m0), some (vi z), some (vi w)]) (by decide +kernel) (Nat.le_of_ble_eq_true rfl) rfl ?_
  have e17 : up I 0 0 17 = il := by rw [up_n (by decide)]; exact m1
  refine s_aload_n 1 dX12_event__0 rfl rfl ?_
  refine s_iconst 2 dX12_event__1 rfl ?_
  refine m_putI 5 0 dX12_event__2 rfl fl_X12_60 (by decide) rfl rfl rfl rfl ?_
  refine s_aload_n 6 dX12_event__5 rfl rfl ?_
  refine m_getI 9 17 dX12_event__6 rfl fl_X12_188 (by decide) rfl (fun hr6 => ?_)
  refine s_if_eq 12 66 dX12_event__9 rfl rfl (fun g => ?_) (fun g => ?_)
  · refine s_iconst 67 dX12_event__66 rfl ?_
    refine s_ireturn rfl dX12_event__67 ?_
    rw [show aEvent s z w = -1 from if_neg (fun h => by rw [(w3 (by omega)).2.2.2] at h; have : z < 0 := h.2.1; omega)] at hp
    exact hp
  have hs := (m2 (by omega)).2.2.1
  have hws := (w2 (by omega)).2.2.1.1
  obtain ⟨s0, s1, s2, s3, s4, s5, s6, s7, -⟩ := hs
  obtain ⟨x0, x1, x2, x3, x4, x5, x6, x7, x8, x9, x10⟩ := hws
  refine s_iload_n 13 dX12_event__12 rfl rfl ?_
  refine s_i2lz 14 dX12_event__13 rfl ?_
  refine s_lconstz 15 dX12_event__14 rfl ?_
  refine s_bipush 17 dX12_event__15 rfl (k := ?_)
  refine s_aload_n 18 dX12_event__17 rfl rfl ?_
  refine m_getV (k := 16) 21 dX12_event__18 rfl fl_X12_16 (by decide) rfl ?_
  refine s_sipush 24 dX12_event__21 rfl (k := ?_)
  refine m_ald 25 3 9309 dX12_event__24 rfl (by decide) rfl (fun hr24 => ?_)
  rw [s6]
  refine s_min (q := 28) (hd := dX12_event__25) (hq := rfl) (hw := ml_X12_97) (hrest := Nat.le_of_ble_eq_true rfl) (k := ?_)
  refine s_iconst 29 dX12_event__28 rfl ?_
  refine s_isub 30 dX12_event__29 rfl ?_
  refine s_i2lz 31 dX12_event__30 rfl ?_
  refine s_S3b 34 dX12_event__31 rfl km_X12_in rfl ml_X12_70 ds_X12_in (Nat.le_of_ble_eq_true rfl) (c_in hz (by decide) (by constructor <;> omega) ?_)
  refine ⟨_, rfl, ?_⟩
  refine s_if_eqb 37 66 dX12_event__34 rfl rfl (fun g2 => ?_) (fun g2 => ?_)
  · have g2 := of_decide_eq_false g2
    refine s_iconst 67 dX12_event__66 rfl ?_
    refine s_ireturn rfl dX12_event__67 ?_
    rw [show aEvent s z w = -1 from if_neg (fun h => g2 ⟨h.1, by omega⟩)] at hp
    exact hp
  have g2 := of_decide_eq_true g2
  have g3 : z ≤ min 40 (s.2.2.1 2) - 1 := g2.2
  refine s_iload_n 38 dX12_event__37 rfl rfl ?_
  refine s_i2lz 39 dX12_event__38 rfl ?_
  refine s_lconstz 40 dX12_event__39 rfl ?_
  refine s_ldc2z 43 (4) dX12_event__40 rfl kc_X12_379 rfl ?_
  refine s_S3b 46 dX12_event__43 rfl km_X12_in rfl ml_X12_70 ds_X12_in (Nat.le_of_ble_eq_true rfl) (c_in hv (by decide) (by decide) ?_)
  refine ⟨_, rfl, ?_⟩
  refine s_if_eqb 49 66 dX12_event__46 rfl rfl (fun g4 => ?_) (fun g4 => ?_)
  · have g4 := of_decide_eq_false g4
    refine s_iconst 67 dX12_event__66 rfl ?_
    refine s_ireturn rfl dX12_event__67 ?_
    rw [show aEvent s z w = -1 from if_neg (fun h => g4 h.2.2)] at hp
    exact hp
  have g4 := of_decide_eq_true g4
  have g5 : w ≤ 4 := g4.2
  have g6 : 0 ≤ w := g4.1
  have g7 : 0 ≤ z := g2.1
  refine s_aload_n 50 dX12_event__49 rfl rfl ?_
  refine m_getV (k := 16) 53 dX12_event__50 rfl fl_X12_16 (by decide) rfl ?_
  refine s_sipush 56 dX12_event__53 rfl (k := ?_)
  refine s_iconst 57 dX12_event__56 rfl ?_
  refine s_iload_n 58 dX12_event__57 rfl rfl ?_
  refine s_imul 59 dX12_event__58 rfl ?_
  refine s_iadd 60 dX12_event__59 rfl ?_
  refine s_iload_n 61 dX12_event__60 rfl rfl ?_
  refine s_iadd 62 dX12_event__61 rfl ?_
  refine m_ald 63 3 9309 dX12_event__62 rfl (by decide) rfl (fun hr62 => ?_)
  refine s_goto 67 dX12_event__63 rfl ?_
  refine s_ireturn rfl dX12_event__67 ?_
  rw [show aEvent s z w = (s.2.2.2.1.getD z.toNat []).getD w.toNat 0 from if_pos ⟨g7, by omega, g6, g5⟩] at hp
  have h5 := (x9 _ (getD_mem (x := []) (show z.toNat < s.2.2.2.1.length by omega))).1
  have ev : A 3 (805 + 5 * z + w) = (s.2.2.2.1.getD z.toNat []).getD w.toNat 0 := by
    rw [← s7 z.toNat (by omega) w.toNat (by omega)]
    congr 1
    omega
  rw [ev]
  exact hp
end M27
