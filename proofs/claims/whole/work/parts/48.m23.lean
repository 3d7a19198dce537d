section M23
variable {G : GT} {m0 n u : Nat} {F : HS} {d : Nat} {I : Nat → Int} {A : Nat → Int → Int} {D : Int64} {post : Option Value → MT → Prop} {S : SY} {b : Int}
theorem o_end {z : Int} (hz : rg z) (hm : RepM I A S) (hw : WfSy b S) (hp : ∀ I' A', RepM I' A' (oEnd S z).2 → post (some (vb (oEnd S z).1)) (I', A', D)) : Cm G (AM G m0 F n u) yX12_end cX12_end 2 (some .boolean) (d + 1) [.ref m0, vi z] (I, A, D) post := by
  obtain ⟨tp, bx, hd, rf, il, ru, tl, s, ps, im⟩ := S
  obtain ⟨m1, m2⟩ := hm.1
  obtain ⟨⟨w1, w2⟩, -⟩ := hw
  refine Cm_intro (L := [some (.ref m0), some (vi z)]) (by decide +kernel) (Nat.le_of_ble_eq_true rfl) rfl ?_
  have e2 : up I 0 0 2 = tp.length := by rw [up_n (by decide)]; exact m1
  refine s_aload_n 1 dX12_end_0 rfl rfl ?_
  refine s_iconst 2 dX12_end_1 rfl ?_
  refine m_putI 5 0 dX12_end_2 rfl fl_X12_60 (by decide) rfl rfl rfl rfl ?_
  refine s_iload_n 6 dX12_end_5 rfl rfl ?_
  refine s_i2lz 7 dX12_end_6 rfl ?_
  refine s_lconstz 8 dX12_end_7 rfl ?_
  refine s_aload_n 9 dX12_end_8 rfl rfl ?_
  refine m_getI 12 2 dX12_end_9 rfl fl_X12_63 (by decide) rfl (fun hr9 => ?_)
  refine s_i2lz 13 dX12_end_12 rfl ?_
  refine s_S3b 16 dX12_end_13 rfl km_X12_in rfl ml_X12_70 ds_X12_in (Nat.le_of_ble_eq_true rfl) (c_in hz (by decide) (by assumption) ?_)
  refine ⟨_, rfl, ?_⟩
  refine s_if_neb 19 21 dX12_end_16 rfl rfl (fun g => ?_) (fun g => ?_)
  · have g := of_decide_eq_true g
    have eo : oEnd (tp, bx, hd, rf, il, ru, tl, s, ps, im) z = (true, tp.take z.toNat, bx, hd, rf, il, ru, tl, s, ps, im) := if_pos ⟨g.1, by omega⟩
    rw [eo] at hp
    refine s_aload_n 22 dX12_end_21 rfl rfl ?_
    refine s_iload_n 23 dX12_end_22 rfl rfl ?_
    refine m_putI 26 2 dX12_end_23 rfl fl_X12_63 (by decide) rfl rfl rfl rfl ?_
    refine s_iconst 27 dX12_end_26 rfl ?_
    first | refine s_zreturn rfl dX12_end_27 ?_ | refine s_zreturn1 rfl dX12_end_27 ?_ | refine s_zreturn0 rfl dX12_end_27 ?_
    refine hp _ A (hm.tb ((frI.rf.up (by decide)).up (by decide)) frA.rf ?_ (sg_take m2) (by rw [up_n (by decide), up_n (by decide)]; exact hm.2.1.1) hm.2.1.2)
    rw [up_s, List.length_take_of_le (by omega)]
    omega
  · have g := of_decide_eq_false g
    have eo : oEnd (tp, bx, hd, rf, il, ru, tl, s, ps, im) z = (false, tp, bx, hd, rf, il, ru, tl, s, ps, im) := if_neg (fun h => g ⟨h.1, by omega⟩)
    rw [eo] at hp
    refine s_iconst 20 dX12_end_19 rfl ?_
    first | refine s_zreturn rfl dX12_end_20 ?_ | refine s_zreturn1 rfl dX12_end_20 ?_ | refine s_zreturn0 rfl dX12_end_20 ?_
    exact hp _ A (hm.scr (frI.rf.up (by decide)) frA.rf)
theorem o_box {z : Int} (hz : rg z) (hm : RepM I A S) (hw : WfSy b S) (hp : ∀ I' A', RepM I' A' S → post (some (vi (atF S.2.1 z))) (I', A', D)) : Cm G (AM G m0 F n u) yX12_box cX12_box 2 (some .int) (d + 1) [.ref m0, vi z] (I, A, D) post := by
  obtain ⟨tp, bx, hd, rf, il, ru, tl, s, ps, im⟩ := S
  obtain ⟨m1, m2⟩ := hm.2.1
  obtain ⟨-, ⟨w1, w2⟩, -⟩ := hw
  refine Cm_intro (L := [some (.ref m0), some (vi z)]) (by decide +kernel) (Nat.le_of_ble_eq_true rfl) rfl ?_
  have e2 : up I 0 0 31 = bx.length := by rw [up_n (by decide)]; exact m1
  have hp := hp (up I 0 0) A (hm.scr (frI.rf.up (by decide)) frA.rf)
  refine s_aload_n 1 dX12_box_0 rfl rfl ?_
  refine s_iconst 2 dX12_box_1 rfl ?_
  refine m_putI 5 0 dX12_box_2 rfl fl_X12_60 (by decide) rfl rfl rfl rfl ?_
  refine s_iload_n 6 dX12_box_5 rfl rfl ?_
  refine s_i2lz 7 dX12_box_6 rfl ?_
  refine s_lconstz 8 dX12_box_7 rfl ?_
  refine s_aload_n 9 dX12_box_8 rfl rfl ?_
  refine m_getI 12 31 dX12_box_9 rfl fl_X12_254 (by decide) rfl (fun hr9 => ?_)
  refine s_iconst 13 dX12_box_12 rfl ?_
  refine s_isub 14 dX12_box_13 rfl ?_
  refine s_i2lz 15 dX12_box_14 rfl ?_
  refine s_S3b 18 dX12_box_15 rfl km_X12_in rfl ml_X12_70 ds_X12_in (Nat.le_of_ble_eq_true rfl) (c_in hz (by decide) (by omega) ?_)
  refine ⟨_, rfl, ?_⟩
  refine s_if_eqb 21 30 dX12_box_18 rfl rfl (fun g => ?_) (fun g => ?_)
  · have g := of_decide_eq_false g
    refine s_iconst 31 dX12_box_30 rfl ?_
    refine s_ireturn rfl dX12_box_31 ?_
    rw [show atF bx z = -1 from if_neg (fun h => g ⟨h.1, by omega⟩)] at hp
    exact hp
  · have g := of_decide_eq_true g
    have g2 : z ≤ up I 0 0 31 - 1 := g.2
    refine s_aload_n 22 dX12_box_21 rfl rfl ?_
    refine m_getV (k := 30) 25 dX12_box_22 rfl fl_X12_35 (by decide) rfl ?_
    refine s_iload_n 26 dX12_box_25 rfl rfl ?_
    refine m_ald 27 7 1400 dX12_box_26 rfl (by decide) rfl (fun hr26 => ?_)
    refine s_goto 31 dX12_box_27 rfl ?_
    refine s_ireturn rfl dX12_box_31 ?_
    rw [show atF bx z = bx.getD z.toNat 0 from if_pos ⟨g.1, by omega⟩] at hp
    have ev : A 7 z = bx.getD z.toNat 0 := by
      rw [← m2 z.toNat (by omega)]
      congr 1
      omega
    rw [ev]
    exact hp
def aBound (L z : Int) : Int := if 0 ≤ z ∧ z ≤ 300 then mstF L z else -1
theorem o_bound {z : Int} (hz : rg z) (hm : RepM I A S) (hw : WfSy b S) (hp : ∀ I' A', RepM I' A' S → post (some (vi (aBound (S.2.2.2.2.2.1 1) z))) (I', A', D)) : Cm G (AM G m0 F n u) yX12_bound cX12_bound 2 (some .int) (d + 2) [.ref m0, vi z] (I, A, D) post := by
  obtain ⟨tp, bx, hd, rf, il, ru, tl, s, ps, im⟩ := S
  obtain ⟨m1, m2⟩ := hm.2.2.2.2.2.1
  obtain ⟨⟨w1, w2⟩, -⟩ := hw.2.2.2.2.2.1
  refine Cm_intro (L := [some (.ref m0), some (vi z)]) (by decide +kernel) (Nat.le_of_ble_eq_true rfl) rfl ?_
  have e2 : up I 0 0 19 = ru 1 := by rw [up_n (by decide)]; exact m1
  have hp := hp (up I 0 0) A (hm.scr (frI.rf.up (by decide)) frA.rf)
  refine s_aload_n 1 dX12_bound_0 rfl rfl ?_
  refine s_iconst 2 dX12_bound_1 rfl ?_
  refine m_putI 5 0 dX12_bound_2 rfl fl_X12_60 (by decide) rfl rfl rfl rfl ?_
  refine s_iload_n 6 dX12_bound_5 rfl rfl ?_
  refine s_i2lz 7 dX12_bound_6 rfl ?_
  refine s_lconstz 8 dX12_bound_7 rfl ?_
  refine s_ldc2z 11 (300) dX12_bound_8 rfl kc_X12_263 rfl ?_
  refine s_S3b 14 dX12_bound_11 rfl km_X12_in rfl ml_X12_70 ds_X12_in (Nat.le_of_ble_eq_true rfl) (c_in hz (by decide) (by decide) ?_)
  refine ⟨_, rfl, ?_⟩
  refine s_if_eqb 17 25 dX12_bound_14 rfl rfl (fun g => ?_) (fun g => ?_)
  · have g := of_decide_eq_false g
    refine s_iconst 26 dX12_bound_25 rfl ?_
    refine s_ireturn rfl dX12_bound_26 ?_
    rw [show aBound (ru 1) z = -1 from if_neg g] at hp
    exact hp
  · have g := of_decide_eq_true g
    refine s_aload_n 18 dX12_bound_17 rfl rfl ?_
    refine s_iload_n 19 dX12_bound_18 rfl rfl ?_
    refine s_V1i 22 dX12_bound_19 rfl km_X12_mostOf ml_X12_265 ds_X12_mostOf (Nat.le_of_ble_eq_true rfl) m_rec rfl (c_mostOf (by omega) (by omega) ?_)
    refine ⟨_, rfl, ?_⟩
    refine s_goto 26 dX12_bound_22 rfl ?_
    refine s_ireturn rfl dX12_bound_26 ?_
    rw [show aBound (ru 1) z = mstF (ru 1) z from if_pos g] at hp
    rw [e2]
    exact hp
theorem o_status {z : Int} (hz : rg z) (hm : RepM I A S) (hp : ∀ I' A', RepM I' A' S → post (some (vi (aStatus S.2.2.2.1 z))) (I', A', D)) : Cm G (AM G m0 F n u) yX12_status cX12_status 2 (some .int) (d + 1) [.ref m0, vi z] (I, A, D) post := by
  obtain ⟨tp, bx, hd, rf, il, ru, tl, s, ps, im⟩ := S
  have m1 := hm.2.2.2.1
  refine Cm_intro (L := [some (.ref m0), some (vi z)]) (by decide +kernel) (Nat.le_of_ble_eq_true rfl) rfl ?_
  have hp := hp (up I 0 0) A (hm.scr (frI.rf.up (by decide)) frA.rf)
  refine s_aload_n 1 dX12_status_0 rfl rfl ?_
  refine s_iconst 2 dX12_status_1 rfl ?_
  refine m_putI 5 0 dX12_status_2 rfl fl_X12_60 (by decide) rfl rfl rfl rfl ?_
  refine s_iload_n 6 dX12_status_5 rfl rfl ?_
  refine s_i2lz 7 dX12_status_6 rfl ?_
  refine s_lconstz 8 dX12_status_7 rfl ?_
  refine s_ldc2z 11 (3) dX12_status_8 rfl kc_X12_278 rfl ?_
  refine s_S3b 14 dX12_status_11 rfl km_X12_in rfl ml_X12_70 ds_X12_in (Nat.le_of_ble_eq_true rfl) (c_in hz (by decide) (by decide) ?_)
  refine ⟨_, rfl, ?_⟩
  refine s_if_eqb 17 26 dX12_status_14 rfl rfl (fun g => ?_) (fun g => ?_)
  · have g := of_decide_eq_false g
    refine s_iconst 27 dX12_status_26 rfl ?_
    refine s_ireturn rfl dX12_status_27 ?_
    rw [show aStatus rf z = -1 from if_neg g] at hp
    exact hp
  · have g := of_decide_eq_true g
    refine s_aload_n 18 dX12_status_17 rfl rfl ?_
    refine m_getV (k := 35) 21 dX12_status_18 rfl fl_X12_45 (by decide) rfl ?_
    refine s_iload_n 22 dX12_status_21 rfl rfl ?_
    refine m_ald 23 10 4 dX12_status_22 rfl (by decide) rfl (fun hr22 => ?_)
    refine s_goto 27 dX12_status_23 rfl ?_
    refine s_ireturn rfl dX12_status_27 ?_
    rw [show aStatus rf z = rf z.toNat from if_pos g] at hp
    have ev : A 10 z = rf z.toNat := by
      rw [← m1 z.toNat (by omega)]
      congr 1
      omega
    rw [ev]
    exact hp
theorem o_thrown (hp : post (some (vi (I 0))) (I, A, D)) : Cm G (AM G m0 F n u) yX12_thrown cX12_thrown 1 (some .int) d [.ref m0] (I, A, D) post := by
  refine Cm_intro (L := [some (.ref m0)]) (by decide +kernel) (Nat.le_of_ble_eq_true rfl) rfl ?_
  refine s_aload_n 1 dX12_thrown_0 rfl rfl ?_
  refine m_getI 4 0 dX12_thrown_1 rfl fl_X12_60 (by decide) rfl (fun hr1 => ?_)
  refine s_ireturn rfl dX12_thrown_4 ?_
  exact hp
theorem o_stuff {z : Int} (hz : rg z) (hm : RepM I A S) (hw : WfSy b S) (hp : ∀ I' A', RepM I' A' (oStuff S z).2 → post (some (vi (oStuff S z).1)) (I', A', D)) : Cm G (AM G m0 F n u) yX12_stuff cX12_stuff 3 (some .int) (d + 3) [.ref m0, vi z] (I, A, D) post := by
  obtain ⟨tp, bx, hd, rf, il, ru, tl, s, ps, im⟩ := S
  obtain ⟨m1, m2⟩ := hm.1
  obtain ⟨m3, m4⟩ := hm.2.2.2.2.2.1
  have hw0 := hw
  obtain ⟨⟨w1, w2⟩, -, -, -, -, ⟨w3, w4⟩, -⟩ := hw0
  refine Cm_intro (L := [some (.ref m0), some (vi z), none]) (by decide +kernel) (Nat.le_of_ble_eq_true rfl) rfl ?_
  have e2 : up I 0 0 2 = tp.length := by rw [up_n (by decide)]; exact m1
  refine s_aload_n 1 dX12_stuff_0 rfl rfl ?_
  refine s_iconst 2 dX12_stuff_1 rfl ?_
  refine m_putI 5 0 dX12_stuff_2 rfl fl_X12_60 (by decide) rfl rfl rfl rfl ?_
  refine s_iload_n 6 dX12_stuff_5 rfl rfl ?_
  refine s_i2lz 7 dX12_stuff_6 rfl ?_
  refine s_lconstz 8 dX12_stuff_7 rfl ?_
  refine s_ldc2z 11 (2) dX12_stuff_8 rfl kc_X12_246 rfl ?_
  refine s_S3b 14 dX12_stuff_11 rfl km_X12_in rfl ml_X12_70 ds_X12_in (Nat.le_of_ble_eq_true rfl) (c_in hz (by decide) (by decide) ?_)
  refine ⟨_, rfl, ?_⟩
  refine s_if_neb 17 19 dX12_stuff_14 rfl rfl (fun g => ?_) (fun g => ?_)
  rotate_left
  · have g := of_decide_eq_false g
    have eo : oStuff (tp, bx, hd, rf, il, ru, tl, s, ps, im) z = (-1, tp, bx, hd, rf, il, ru, tl, s, ps, im) := if_neg g
    rw [eo] at hp
    refine s_iconst 18 dX12_stuff_17 rfl ?_
    refine s_ireturn rfl dX12_stuff_18 ?_
    exact hp _ A (hm.scr (frI.rf.up (by decide)) frA.rf)
  have g := of_decide_eq_true g
  have eo : oStuff (tp, bx, hd, rf, il, ru, tl, s, ps, im) z = (((stuffF (ru 1).toNat (ru 2).toNat z tp).length : Int), [], stuffF (ru 1).toNat (ru 2).toNat z tp, hd, rf, il, ru, tl, s, ps, im) := if_pos g
  rw [eo] at hp
  refine s_aload_n 20 dX12_stuff_19 rfl rfl ?_
  refine s_V0v 23 dX12_stuff_20 rfl km_X12_lettersPlain ml_X12_248 ds_X12_lettersPlain (Nat.le_of_ble_eq_true rfl) m_rec rfl (c_lettersPlain e2 m2 w1 (fun A1 f1 s1 => ?_))
  refine ⟨rfl, ?_⟩
  refine s_aload_n 24 dX12_stuff_23 rfl rfl ?_
  refine s_iload_n 25 dX12_stuff_24 rfl rfl ?_
  refine s_V1v 28 dX12_stuff_25 rfl km_X12_stuffs ml_X12_251 ds_X12_stuffs (Nat.le_of_ble_eq_true rfl) m_rec rfl (c_stuffs (Ln := (ru 1).toNat) (Zn := (ru 2).toNat) (bs := tp) g s1 (by rw [up_s]) (by omega) (by rw [up_n (by decide), up_n (by decide)]; omega) (by rw [up_n (by decide), up_n (by decide)]; omega) (by omega) (by omega) (fun I2 A2 k1 k2 k3 k4 k5 => ?_))
  refine ⟨rfl, ?_⟩
  refine s_iconst 29 dX12_stuff_28 rfl ?_
  refine s_istore_n 30 dX12_stuff_29 rfl (Nat.le_of_ble_eq_true rfl) rfl ?_
  generalize stuffF (ru 1).toNat (ru 2).toNat z tp = out at *
  have fI : frI [0, 26, 28, 29] I I2 := ((frI.rf.up (by decide)).up (by decide)).trans k1 (by decide)
  have fA : frA [5, 6] A A2 := (f1.wk (by decide)).trans k3 (by decide)
  have key : ∀ (m k : Nat) (A3 : Nat → Int → Int), k + m = out.length → frA [7] A2 A3 → sg (A3 7) 0 (out.take k) → V G (AM G m0 F n u) yX12_stuff cX12_stuff 3 (some .int) (d + 3) (I2, A3, D) 30 [some (.ref m0), some (vi z), some (vi k)] [] post := by
    intro m
    induction m with
    | zero =>
      intro k A3 hk y1 y2
      rw [List.take_of_length_le (by omega)] at y2
      refine s_iload_n 31 dX12_stuff_30 rfl rfl ?_
      refine s_aload_n 32 dX12_stuff_31 rfl rfl ?_
      refine m_getI 35 28 dX12_stuff_32 rfl fl_X12_214 (by decide) rfl (fun hr32 => ?_)
      refine s_icmp_ge 38 56 dX12_stuff_35 rfl rfl (fun g2 => ?_) (fun g2 => ?_)
      rotate_left
      · omega
      refine s_aload_n 57 dX12_stuff_56 rfl rfl ?_
      refine s_aload_n 58 dX12_stuff_57 rfl rfl ?_
      refine m_getI 61 28 dX12_stuff_58 rfl fl_X12_214 (by decide) rfl (fun hr58 => ?_)
      refine m_putI 64 31 dX12_stuff_61 rfl fl_X12_254 (by decide) rfl rfl rfl rfl ?_
      refine s_aload_n 65 dX12_stuff_64 rfl rfl ?_
      refine s_iconst 66 dX12_stuff_65 rfl ?_
      refine m_putI 69 2 dX12_stuff_66 rfl fl_X12_63 (by decide) rfl rfl rfl rfl ?_
      refine s_aload_n 70 dX12_stuff_69 rfl rfl ?_
      refine m_getI 73 31 dX12_stuff_70 rfl fl_X12_254 (by decide) rfl (fun hr70 => ?_)
      refine s_ireturn rfl dX12_stuff_73 ?_
      rw [up_n (by decide), up_s, k2]
      refine hp _ A3 (hm.tb (((fI.wk (by decide)).up (by decide)).up (by decide)) ((fA.wk (by decide)).trans y1 (by decide)) (by rw [up_s]; rfl) (sg_nil _ _) (by rw [up_n (by decide), up_s]) y2)
    | succ m ih =>
      intro k A3 hk y1 y2
      have ev : A3 6 (k : Int) = out.getD k 0 := by rw [y1 6 (by decide)]; exact sg_slice k4 (by omega)
      refine s_iload_n 31 dX12_stuff_30 rfl rfl ?_
      refine s_aload_n 32 dX12_stuff_31 rfl rfl ?_
      refine m_getI 35 28 dX12_stuff_32 rfl fl_X12_214 (by decide) rfl (fun hr32 => ?_)
      refine s_icmp_ge 38 56 dX12_stuff_35 rfl rfl (fun g2 => ?_) (fun g2 => ?_)
      · omega
      refine s_aload_n 39 dX12_stuff_38 rfl rfl ?_
      refine m_getV (k := 30) 42 dX12_stuff_39 rfl fl_X12_35 (by decide) rfl ?_
      refine s_iload_n 43 dX12_stuff_42 rfl rfl ?_
      refine s_aload_n 44 dX12_stuff_43 rfl rfl ?_
      refine m_getV (k := 27) 47 dX12_stuff_44 rfl fl_X12_32 (by decide) rfl ?_
      refine s_iload_n 48 dX12_stuff_47 rfl rfl ?_
      refine m_ald 49 6 1400 dX12_stuff_48 rfl (by decide) rfl (fun hr48 => ?_)
      refine m_ast 50 7 1400 dX12_stuff_49 rfl (by decide) rfl ?_
      refine s_iinc 53 dX12_stuff_50 rfl rfl (Nat.le_of_ble_eq_true rfl) rfl ?_
      refine s_goto 30 dX12_stuff_53 rfl ?_
      refine ih (k + 1) _ (by omega) (y1.up (by decide)) ?_
      have et : out.take (k + 1) = out.take k ++ [out.getD k 0] := by
        have := take_snoc (bs := out) (p := 0) (r := k) (by omega)
        rw [List.drop_zero, Nat.zero_add] at this
        exact this
      rw [up_s, et, ev]
      exact sg_snoc' y2 (by rw [List.length_take_of_le (by omega)]; omega)
  exact key out.length 0 A2 (by omega) frA.rf (by rw [List.take_zero]; exact sg_nil _ _)
theorem o_unstuff {z : Int} (hz : rg z) (hm : RepM I A S) (hw : WfSy b S) (hp : ∀ I' A', RepM I' A' (oUnstuff S z).2 → post (some (vi (oUnstuff S z).1)) (I', A', D)) : Cm G (AM G m0 F n u) yX12_unstuff cX12_unstuff 4 (some .int) (d + 3) [.ref m0, vi z] (I, A, D) post := by
  obtain ⟨tp, bx, hd, rf, il, ru, tl, s, ps, im⟩ := S
  obtain ⟨m1, m2⟩ := hm.1
  obtain ⟨m3, m4⟩ := hm.2.2.2.2.2.1
  have hw0 := hw
  obtain ⟨⟨w1, w2⟩, -, -, -, -, ⟨w3, w4⟩, -⟩ := hw0
  refine Cm_intro (L := [some (.ref m0), some (vi z), none, none]) (by decide +kernel) (Nat.le_of_ble_eq_true rfl) rfl ?_
  have e2 : up I 0 0 2 = tp.length := by rw [up_n (by decide)]; exact m1
  refine s_aload_n 1 dX12_unstuff_0 rfl rfl ?_
  refine s_iconst 2 dX12_unstuff_1 rfl ?_
  refine m_putI 5 0 dX12_unstuff_2 rfl fl_X12_60 (by decide) rfl rfl rfl rfl ?_
  refine s_iload_n 6 dX12_unstuff_5 rfl rfl ?_
  refine s_i2lz 7 dX12_unstuff_6 rfl ?_
  refine s_lconstz 8 dX12_unstuff_7 rfl ?_
  refine s_ldc2z 11 (2) dX12_unstuff_8 rfl kc_X12_246 rfl ?_
  refine s_S3b 14 dX12_unstuff_11 rfl km_X12_in rfl ml_X12_70 ds_X12_in (Nat.le_of_ble_eq_true rfl) (c_in hz (by decide) (by decide) ?_)
  refine ⟨_, rfl, ?_⟩
  refine s_if_neb 17 19 dX12_unstuff_14 rfl rfl (fun g => ?_) (fun g => ?_)
  rotate_left
  · have g := of_decide_eq_false g
    have eo : oUnstuff (tp, bx, hd, rf, il, ru, tl, s, ps, im) z = (-1, tp, bx, hd, rf, il, ru, tl, s, ps, im) := if_neg g
    rw [eo] at hp
    refine s_iconst 18 dX12_unstuff_17 rfl ?_
    refine s_ireturn rfl dX12_unstuff_18 ?_
    exact hp _ A (hm.scr (frI.rf.up (by decide)) frA.rf)
  have g := of_decide_eq_true g
  have eo : oUnstuff (tp, bx, hd, rf, il, ru, tl, s, ps, im) z = if (unF (ru 1).toNat (ru 2).toNat z tp).1 = -1 then (((unF (ru 1).toNat (ru 2).toNat z tp).2.length : Int), [], (unF (ru 1).toNat (ru 2).toNat z tp).2, hd, rf, il, ru, tl, s, ps, im) else (-2 - (unF (ru 1).toNat (ru 2).toNat z tp).1, tp, bx, hd, rf, il, ru, tl, s, ps, im) := if_pos g
  rw [eo] at hp
  have hur := unF_rg (L := (ru 1).toNat) (Z := (ru 2).toNat) (way := z) (bs := tp)
  have hub := unF_byt (L := (ru 1).toNat) (Z := (ru 2).toNat) (way := z) w2
  refine s_iconst 20 dX12_unstuff_19 rfl ?_
  refine s_istore_n 21 dX12_unstuff_20 rfl (Nat.le_of_ble_eq_true rfl) rfl ?_
  have key : ∀ (m k : Nat) (A3 : Nat → Int → Int), k + m = tp.length → frA [6] A A3 → sg (A3 6) 0 (tp.take k) → V G (AM G m0 F n u) yX12_unstuff cX12_unstuff 4 (some .int) (d + 3) (up I 0 0, A3, D) 21 [some (.ref m0), some (vi z), some (vi k), none] [] post := by
    intro m
    induction m with
    | zero =>
      intro k A3 hk y1 y2
      rw [List.take_of_length_le (by omega)] at y2
      refine s_iload_n 22 dX12_unstuff_21 rfl rfl ?_
      refine s_aload_n 23 dX12_unstuff_22 rfl rfl ?_
      refine m_getI 26 2 dX12_unstuff_23 rfl fl_X12_63 (by decide) rfl (fun hr23 => ?_)
      refine s_icmp_ge 29 47 dX12_unstuff_26 rfl rfl (fun g2 => ?_) (fun g2 => ?_)
      rotate_left
      · omega
      refine s_aload_n 48 dX12_unstuff_47 rfl rfl ?_
      refine s_aload_n 49 dX12_unstuff_48 rfl rfl ?_
      refine m_getI 52 2 dX12_unstuff_49 rfl fl_X12_63 (by decide) rfl (fun hr49 => ?_)
      refine m_putI 55 28 dX12_unstuff_52 rfl fl_X12_214 (by decide) rfl rfl rfl rfl ?_
      refine s_aload_n 56 dX12_unstuff_55 rfl rfl ?_
      refine s_iload_n 57 dX12_unstuff_56 rfl rfl ?_
      refine s_V1i 60 dX12_unstuff_57 rfl km_X12_unstuffs ml_X12_257 ds_X12_unstuffs (Nat.le_of_ble_eq_true rfl) m_rec rfl (c_unstuffs (Ln := (ru 1).toNat) (Zn := (ru 2).toNat) (bs := tp) g y2 w2 (by rw [up_s]; exact e2) (by omega) (by rw [up_n (by decide), up_n (by decide)]; omega) (by rw [up_n (by decide), up_n (by decide)]; omega) (by omega) (by omega) (fun I2 A2 k1 k2 k3 => ?_))
      refine ⟨_, rfl, ?_⟩
      have fI : frI [0, 26, 28] I I2 := ((frI.rf.up (by decide)).up (by decide)).trans k1 (by decide)
      have fA : frA [5, 6] A A2 := (y1.wk (by decide)).trans k2 (by decide)
      generalize unF (ru 1).toNat (ru 2).toNat z tp = uu at *
      refine s_istore_n 61 dX12_unstuff_60 rfl (Nat.le_of_ble_eq_true rfl) rfl ?_
      refine s_iload_n 62 dX12_unstuff_61 rfl rfl ?_
      refine s_iconst 63 dX12_unstuff_62 rfl ?_
      refine s_icmp_eq 66 71 dX12_unstuff_63 rfl rfl (fun g3 => ?_) (fun g3 => ?_)
      rotate_left
      · rw [if_neg g3] at hp
        refine s_bipush 68 dX12_unstuff_66 rfl (k := ?_)
        refine s_iload_n 69 dX12_unstuff_68 rfl rfl ?_
        refine s_isub 70 dX12_unstuff_69 rfl ?_
        refine s_ireturn rfl dX12_unstuff_70 ?_
        exact hp I2 A2 (hm.scr (fI.wk (by decide)) (fA.wk (by decide)))
      rw [if_pos g3] at hp
      obtain ⟨k4, k5⟩ := k3 g3
      refine s_iconst 72 dX12_unstuff_71 rfl ?_
      refine s_istore_n 73 dX12_unstuff_72 rfl (Nat.le_of_ble_eq_true rfl) rfl ?_
      have key2 : ∀ (m k : Nat) (A4 : Nat → Int → Int), k + m = uu.2.length → frA [7] A2 A4 → sg (A4 7) 0 (uu.2.take k) → V G (AM G m0 F n u) yX12_unstuff cX12_unstuff 4 (some .int) (d + 3) (I2, A4, D) 73 [some (.ref m0), some (vi z), some (vi uu.1), some (vi k)] [] post := by
        intro m
        induction m with
        | zero =>
          intro k A4 hk z1 z2
          rw [List.take_of_length_le (by omega)] at z2
          refine s_iload_n 74 dX12_unstuff_73 rfl rfl ?_
          refine s_aload_n 75 dX12_unstuff_74 rfl rfl ?_
          refine m_getI 78 26 dX12_unstuff_75 rfl fl_X12_217 (by decide) rfl (fun hr75 => ?_)
          refine s_icmp_ge 81 99 dX12_unstuff_78 rfl rfl (fun g4 => ?_) (fun g4 => ?_)
          rotate_left
          · omega
          refine s_aload_n 100 dX12_unstuff_99 rfl rfl ?_
          refine s_aload_n 101 dX12_unstuff_100 rfl rfl ?_
          refine m_getI 104 26 dX12_unstuff_101 rfl fl_X12_217 (by decide) rfl (fun hr101 => ?_)
          refine m_putI 107 31 dX12_unstuff_104 rfl fl_X12_254 (by decide) rfl rfl rfl rfl ?_
          refine s_aload_n 108 dX12_unstuff_107 rfl rfl ?_
          refine s_iconst 109 dX12_unstuff_108 rfl ?_
          refine m_putI 112 2 dX12_unstuff_109 rfl fl_X12_63 (by decide) rfl rfl rfl rfl ?_
          refine s_aload_n 113 dX12_unstuff_112 rfl rfl ?_
          refine m_getI 116 31 dX12_unstuff_113 rfl fl_X12_254 (by decide) rfl (fun hr113 => ?_)
          refine s_ireturn rfl dX12_unstuff_116 ?_
          rw [up_n (by decide), up_s, k4]
          refine hp _ A4 (hm.tb (((fI.wk (by decide)).up (by decide)).up (by decide)) ((fA.wk (by decide)).trans z1 (by decide)) (by rw [up_s]; rfl) (sg_nil _ _) (by rw [up_n (by decide), up_s]) z2)
        | succ m ih =>
          intro k A4 hk z1 z2
          have ev : A4 5 (k : Int) = uu.2.getD k 0 := by rw [z1 5 (by decide)]; exact sg_slice k5 (by omega)
          refine s_iload_n 74 dX12_unstuff_73 rfl rfl ?_
          refine s_aload_n 75 dX12_unstuff_74 rfl rfl ?_
          refine m_getI 78 26 dX12_unstuff_75 rfl fl_X12_217 (by decide) rfl (fun hr75 => ?_)
          refine s_icmp_ge 81 99 dX12_unstuff_78 rfl rfl (fun g4 => ?_) (fun g4 => ?_)
          · omega
          refine s_aload_n 82 dX12_unstuff_81 rfl rfl ?_
          refine m_getV (k := 30) 85 dX12_unstuff_82 rfl fl_X12_35 (by decide) rfl ?_
          refine s_iload_n 86 dX12_unstuff_85 rfl rfl ?_
          refine s_aload_n 87 dX12_unstuff_86 rfl rfl ?_
          refine m_getV (k := 25) 90 dX12_unstuff_87 rfl fl_X12_29 (by decide) rfl ?_
          refine s_iload_n 91 dX12_unstuff_90 rfl rfl ?_
          refine m_ald 92 5 1400 dX12_unstuff_91 rfl (by decide) rfl (fun hr91 => ?_)
          refine m_ast 93 7 1400 dX12_unstuff_92 rfl (by decide) rfl ?_
          refine s_iinc 96 dX12_unstuff_93 rfl rfl (Nat.le_of_ble_eq_true rfl) rfl ?_
          refine s_goto 73 dX12_unstuff_96 rfl ?_
          refine ih (k + 1) _ (by omega) (z1.up (by decide)) ?_
          have et : uu.2.take (k + 1) = uu.2.take k ++ [uu.2.getD k 0] := by
            have := take_snoc (bs := uu.2) (p := 0) (r := k) (by omega)
            rw [List.drop_zero, Nat.zero_add] at this
            exact this
          rw [up_s, et, ev]
          exact sg_snoc' z2 (by rw [List.length_take_of_le (by omega)]; omega)
      exact key2 uu.2.length 0 A2 (by omega) frA.rf (by rw [List.take_zero]; exact sg_nil _ _)
    | succ m ih =>
      intro k A3 hk y1 y2
      have ev : A3 1 (k : Int) = tp.getD k 0 := by rw [y1 1 (by decide)]; exact sg_slice m2 (by omega)
      refine s_iload_n 22 dX12_unstuff_21 rfl rfl ?_
      refine s_aload_n 23 dX12_unstuff_22 rfl rfl ?_
      refine m_getI 26 2 dX12_unstuff_23 rfl fl_X12_63 (by decide) rfl (fun hr23 => ?_)
      refine s_icmp_ge 29 47 dX12_unstuff_26 rfl rfl (fun g2 => ?_) (fun g2 => ?_)
      · omega
      refine s_aload_n 30 dX12_unstuff_29 rfl rfl ?_
      refine m_getV (k := 27) 33 dX12_unstuff_30 rfl fl_X12_32 (by decide) rfl ?_
      refine s_iload_n 34 dX12_unstuff_33 rfl rfl ?_
      refine s_aload_n 35 dX12_unstuff_34 rfl rfl ?_
      refine m_getV (k := 1) 38 dX12_unstuff_35 rfl fl_X12_9 (by decide) rfl ?_
      refine s_iload_n 39 dX12_unstuff_38 rfl rfl ?_
      refine m_ald 40 1 300 dX12_unstuff_39 rfl (by decide) rfl (fun hr39 => ?_)
      refine m_ast 41 6 1400 dX12_unstuff_40 rfl (by decide) rfl ?_
      refine s_iinc 44 dX12_unstuff_41 rfl rfl (Nat.le_of_ble_eq_true rfl) rfl ?_
      refine s_goto 21 dX12_unstuff_44 rfl ?_
      refine ih (k + 1) _ (by omega) (y1.up (by decide)) ?_
      have et : tp.take (k + 1) = tp.take k ++ [tp.getD k 0] := by
        have := take_snoc (bs := tp) (p := 0) (r := k) (by omega)
        rw [List.drop_zero, Nat.zero_add] at this
        exact this
      rw [up_s, et, ev]
      exact sg_snoc' y2 (by rw [List.length_take_of_le (by omega)]; omega)
  exact key tp.length 0 A (by omega) frA.rf (by rw [List.take_zero]; exact sg_nil _ _)
theorem o_shortest (hm : RepM I A S) (hw : WfSy b S) (hp : ∀ I' A', RepM I' A' S → post (some (vi (shoL (S.2.2.2.2.2.1 1).toNat (S.2.2.2.2.2.1 2).toNat S.1))) (I', A', D)) : Cm G (AM G m0 F n u) yX12_shortest cX12_shortest 4 (some .int) (d + 3) [.ref m0] (I, A, D) post := by
  obtain ⟨tp, bx, hd, rf, il, ru, tl, s, ps, im⟩ := S
  obtain ⟨m1, m2⟩ := hm.1
  obtain ⟨m3, m4⟩ := hm.2.2.2.2.2.1
  have hw0 := hw
  obtain ⟨⟨w1, w2⟩, -, -, -, -, ⟨w3, w4⟩, -⟩ := hw0
  refine Cm_intro (L := [some (.ref m0), none, none, none]) (by decide +kernel) (Nat.le_of_ble_eq_true rfl) rfl ?_
  refine s_aload_n 1 dX12_shortest_0 rfl rfl ?_
  refine s_iconst 2 dX12_shortest_1 rfl ?_
  refine m_putI 5 0 dX12_shortest_2 rfl fl_X12_60 (by decide) rfl rfl rfl rfl ?_
  refine s_iconst 6 dX12_shortest_5 rfl ?_
  refine s_istore_n 7 dX12_shortest_6 rfl (Nat.le_of_ble_eq_true rfl) rfl ?_
  refine s_sipush 10 dX12_shortest_7 rfl (k := ?_)
  refine s_istore_n 11 dX12_shortest_10 rfl (Nat.le_of_ble_eq_true rfl) rfl ?_
  refine s_iconst 12 dX12_shortest_11 rfl ?_
  refine s_istore_n 13 dX12_shortest_12 rfl (Nat.le_of_ble_eq_true rfl) rfl ?_
  have st : ∀ (w be le : Int) (I1 : Nat → Int) (A1 : Nat → Int → Int), 0 ≤ w ∧ w ≤ 2 → rg be → rg le → frI [0, 26, 28, 29] I I1 → frA [5, 6] A A1 → (∀ I2 A2, frI [0, 26, 28, 29] I I2 → frA [5, 6] A A2 → V G (AM G m0 F n u) yX12_shortest cX12_shortest 4 (some .int) (d + 3) (I2, A2, D) 13 [some (.ref m0), some (vi (if ((stuffF (ru 1).toNat (ru 2).toNat w tp).length : Int) < le then w else be)), some (vi (min le ((stuffF (ru 1).toNat (ru 2).toNat w tp).length : Int))), some (vi (w + 1))] [] post) → V G (AM G m0 F n u) yX12_shortest cX12_shortest 4 (some .int) (d + 3) (I1, A1, D) 13 [some (.ref m0), some (vi be), some (vi le), some (vi w)] [] post := by
    intro w be le I1 A1 hw1 hbe hle f1 f2 kk
    refine s_iload_n 14 dX12_shortest_13 rfl rfl ?_
    refine s_iconst 15 dX12_shortest_14 rfl ?_
    refine s_icmp_gt 18 56 dX12_shortest_15 rfl rfl (fun g => ?_) (fun g => ?_)
    · omega
    refine s_aload_n 19 dX12_shortest_18 rfl rfl ?_
    refine s_V0v 22 dX12_shortest_19 rfl km_X12_lettersPlain ml_X12_248 ds_X12_lettersPlain (Nat.le_of_ble_eq_true rfl) m_rec rfl (c_lettersPlain (tp := tp) ((f1 2 (by decide)).trans m1) (by rw [f2 1 (by decide)]; exact m2) w1 (fun A2 y1 y2 => ?_))
    refine ⟨rfl, ?_⟩
    refine s_aload_n 23 dX12_shortest_22 rfl rfl ?_
    refine s_iload_n 24 dX12_shortest_23 rfl rfl ?_
    refine s_V1v 27 dX12_shortest_24 rfl km_X12_stuffs ml_X12_251 ds_X12_stuffs (Nat.le_of_ble_eq_true rfl) m_rec rfl (c_stuffs (Ln := (ru 1).toNat) (Zn := (ru 2).toNat) (bs := tp) hw1 y2 (by rw [up_s]) (by omega) (by rw [up_n (by decide), f1 19 (by decide)]; omega) (by rw [up_n (by decide), f1 20 (by decide)]; omega) (by omega) (by omega) (fun I3 A3 k1 k2 k3 k4 k5 => ?_))
    refine ⟨rfl, ?_⟩
    have kk := kk I3 A3 (((f1.up (by decide)).trans k1 (by decide))) ((f2.trans y1 (by decide)).trans k3 (by decide))
    generalize stuffF (ru 1).toNat (ru 2).toNat w tp = out at *
    refine s_aload_n 28 dX12_shortest_27 rfl rfl ?_
    refine m_getI 31 28 dX12_shortest_28 rfl fl_X12_214 (by decide) rfl (fun hr28 => ?_)
    refine s_iload_n 32 dX12_shortest_31 rfl rfl ?_
    refine s_icmp_ge 35 39 dX12_shortest_32 rfl rfl (fun g2 => ?_) (fun g2 => ?_)
    · refine s_iload_n 40 dX12_shortest_39 rfl rfl ?_
      refine s_istore_n 41 dX12_shortest_40 rfl (Nat.le_of_ble_eq_true rfl) rfl ?_
      refine s_iload_n 42 dX12_shortest_41 rfl rfl ?_
      refine s_aload_n 43 dX12_shortest_42 rfl rfl ?_
      refine m_getI 46 28 dX12_shortest_43 rfl fl_X12_214 (by decide) rfl (fun hr43 => ?_)
      refine s_min (q := 49) (hd := dX12_shortest_46) (hq := rfl) (hw := ml_X12_97) (hrest := Nat.le_of_ble_eq_true rfl) (k := ?_)
      refine s_istore_n 50 dX12_shortest_49 rfl (Nat.le_of_ble_eq_true rfl) rfl ?_
      refine s_iinc 53 dX12_shortest_50 rfl rfl (Nat.le_of_ble_eq_true rfl) rfl ?_
      refine s_goto 13 dX12_shortest_53 rfl ?_
      rw [if_neg (by omega)] at kk
      rw [k2]
      exact kk
    · refine s_iload_n 36 dX12_shortest_35 rfl rfl ?_
      refine s_goto 40 dX12_shortest_36 rfl ?_
      refine s_istore_n 41 dX12_shortest_40 rfl (Nat.le_of_ble_eq_true rfl) rfl ?_
      refine s_iload_n 42 dX12_shortest_41 rfl rfl ?_
      refine s_aload_n 43 dX12_shortest_42 rfl rfl ?_
      refine m_getI 46 28 dX12_shortest_43 rfl fl_X12_214 (by decide) rfl (fun hr43 => ?_)
      refine s_min (q := 49) (hd := dX12_shortest_46) (hq := rfl) (hw := ml_X12_97) (hrest := Nat.le_of_ble_eq_true rfl) (k := ?_)
      refine s_istore_n 50 dX12_shortest_49 rfl (Nat.le_of_ble_eq_true rfl) rfl ?_
      refine s_iinc 53 dX12_shortest_50 rfl rfl (Nat.le_of_ble_eq_true rfl) rfl ?_
      refine s_goto 13 dX12_shortest_53 rfl ?_
      rw [if_pos (by omega)] at kk
      rw [k2]
      exact kk
  have l0 := (stuffF_ok (L := (ru 1).toNat) (Z := (ru 2).toNat) (way := 0) w2 (by omega) (by omega)).2
  have l1 := (stuffF_ok (L := (ru 1).toNat) (Z := (ru 2).toNat) (way := 1) w2 (by omega) (by omega)).2
  refine st 0 (-1) 1400 _ A (by omega) (by decide) (by decide) (frI.rf.up (by decide)) frA.rf (fun I2 A2 f1 f2 => ?_)
  rw [if_pos (by omega)]
  refine st 1 _ _ I2 A2 (by omega) (by decide) ⟨by omega, by omega⟩ f1 f2 (fun I3 A3 f3 f4 => ?_)
  refine st 2 _ _ I3 A3 (by omega) (by split <;> decide) ⟨by omega, by omega⟩ f3 f4 (fun I4 A4 f5 f6 => ?_)
  refine s_iload_n 14 dX12_shortest_13 rfl rfl ?_
  refine s_iconst 15 dX12_shortest_14 rfl ?_
  refine s_icmp_gt 18 56 dX12_shortest_15 rfl rfl (fun g => ?_) (fun g => ?_)
  rotate_left
  · omega
  refine s_iload_n 57 dX12_shortest_56 rfl rfl ?_
  refine s_ireturn rfl dX12_shortest_57 ?_
  have hp := hp I4 A4 (hm.scr (f5.wk (by decide)) (f6.wk (by decide)))
  have e : shoL (ru 1).toNat (ru 2).toNat tp = (if ((stuffF (ru 1).toNat (ru 2).toNat 2 tp).length : Int) < min (min 1400 ((stuffF (ru 1).toNat (ru 2).toNat 0 tp).length : Int)) ((stuffF (ru 1).toNat (ru 2).toNat 1 tp).length : Int) then 2 else if ((stuffF (ru 1).toNat (ru 2).toNat 1 tp).length : Int) < min 1400 ((stuffF (ru 1).toNat (ru 2).toNat 0 tp).length : Int) then 1 else 0) := by
    unfold shoL
    generalize (stuffF (ru 1).toNat (ru 2).toNat 0 tp).length = n0 at *
    generalize (stuffF (ru 1).toNat (ru 2).toNat 1 tp).length = n1 at *
    generalize (stuffF (ru 1).toNat (ru 2).toNat 2 tp).length = n2 at *
    split <;> split <;> (first | (rw [if_pos (by omega)]; done) | (rw [if_neg (by omega), if_pos (by omega)]; done) | (rw [if_neg (by omega), if_neg (by omega)]))
  have hp : post (some (vi (shoL (ru 1).toNat (ru 2).toNat tp))) (I4, A4, D) := hp
  rw [e] at hp
  exact hp
end M23
