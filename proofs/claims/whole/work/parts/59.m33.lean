section M33
variable {G : GT} {m0 n u : Nat} {F : HS} {d : Nat} {I : Nat → Int} {A : Nat → Int → Int} {D : Int64} {post : Option Value → MT → Prop} {S : SY} {b : Int}
theorem putN_y {ru : RU} {k : Nat} {s : ST} (h : canF ru s) : putN ru (k + 1) s = ((putN ru k (putF ru s)).1 + 1, (putN ru k (putF ru s)).2) := by
  rw [putN]
  exact if_pos h
theorem putN_n {ru : RU} {k : Nat} {s : ST} (h : ¬ canF ru s) : putN ru k s = (0, s) := by
  cases k with
  | zero => rw [putN]
  | succ k =>
    rw [putN]
    exact if_neg h
theorem o_put {z : Int} (hz : rg z) (hm : RepM I A S) (hw : WfSy b S) (hb : b ≤ 90000000) (hp : ∀ I' A', RepM I' A' (oPut S z).2 → post (some (vi (oPut S z).1)) (I', A', D)) : Cm G (AM G m0 F n u) yX12_put cX12_put 3 (some .int) (d + 5) [.ref m0, vi z] (I, A, D) post := by
  obtain ⟨tp, bx, hd, rf, il, ru, tl, s, ps, im⟩ := S
  have hm0 := hm
  have hw0 := hw
  obtain ⟨-, -, -, -, m1, -, -, m3, -, m2⟩ := hm0
  obtain ⟨-, -, -, -, w1, -, w3, w4, w2⟩ := hw0
  refine Cm_intro (L := [some (.ref m0), some (vi z), none]) (by decide +kernel) (Nat.le_of_ble_eq_true rfl) rfl ?_
  have e17 : up I 0 0 17 = il := by rw [up_n (by decide)]; exact m1
  have e33 : up I 0 0 33 = ps.length := by rw [up_n (by decide)]; exact m3
  refine s_aload_n 1 dX12_put_0 rfl rfl ?_
  refine s_iconst 2 dX12_put_1 rfl ?_
  refine m_putI 5 0 dX12_put_2 rfl fl_X12_60 (by decide) rfl rfl rfl rfl ?_
  refine s_aload_n 6 dX12_put_5 rfl rfl ?_
  refine m_getI 9 17 dX12_put_6 rfl fl_X12_188 (by decide) rfl (fun hr6 => ?_)
  refine s_if_ne 12 18 dX12_put_9 rfl rfl (fun g => ?_) (fun g => ?_)
  rotate_left
  · rw [show oPut (tp, bx, hd, rf, il, ru, tl, s, ps, im) z = (-1, tp, bx, hd, rfF rf 0, il, ru, tl, s, ps, im) from if_pos (by omega)] at hp
    refine s_aload_n 13 dX12_put_12 rfl rfl ?_
    refine s_iconst 14 dX12_put_13 rfl ?_
    refine s_V1i 17 dX12_put_14 rfl km_X12_refuses ml_X12_280 ds_X12_refuses (Nat.le_of_ble_eq_true rfl) m_rec rfl (c_refuses (by omega) (rf_rg hm hw hb 0 (by decide)) ?_)
    refine ⟨_, rfl, ?_⟩
    refine s_ireturn rfl dX12_put_17 ?_
    exact hp _ _ (hm.rf' 0 (by decide))
  have hil : il = 1 := by omega
  subst hil
  obtain ⟨hru, htl, hs, hps, him⟩ := m2 rfl
  obtain ⟨hwr, hwt, ⟨hws, hwc⟩, hwp, hwi⟩ := w2 rfl
  have hl := hws.1
  have h0 := hs.1
  have eo : oPut (tp, bx, hd, rf, 1, ru, tl, s, ps, im) z = if ¬ (1 ≤ z ∧ z ≤ 60) then (-1, tp, bx, hd, rfF rf 2, 1, ru, tl, s, ps, im) else if (putN ru z.toNat s).1 = 0 then (0, tp, bx, hd, rf, 1, ru, tl, s, ps, im) else ((((putN ru z.toNat s).1 : Nat) : Int), tp, bx, hd, rf, 1, ru, tl, (putN ru z.toNat s).2, kpF ps s, im) := by rw [oPut]; exact if_neg (by decide)
  rw [eo] at hp
  refine s_iload_n 19 dX12_put_18 rfl rfl ?_
  refine s_i2lz 20 dX12_put_19 rfl ?_
  refine s_lconstz 21 dX12_put_20 rfl ?_
  refine s_ldc2z 24 (60) dX12_put_21 rfl kc_X12_307 rfl ?_
  refine s_S3b 27 dX12_put_24 rfl km_X12_in rfl ml_X12_70 ds_X12_in (Nat.le_of_ble_eq_true rfl) (c_in hz (by decide) (by decide) ?_)
  refine ⟨_, rfl, ?_⟩
  refine s_if_neb 30 36 dX12_put_27 rfl rfl (fun g2 => ?_) (fun g2 => ?_)
  rotate_left
  · have g2 : ¬ (1 ≤ z ∧ z ≤ 60) := of_decide_eq_false g2
    rw [if_pos g2] at hp
    refine s_aload_n 31 dX12_put_30 rfl rfl ?_
    refine s_iconst 32 dX12_put_31 rfl ?_
    refine s_V1i 35 dX12_put_32 rfl km_X12_refuses ml_X12_280 ds_X12_refuses (Nat.le_of_ble_eq_true rfl) m_rec rfl (c_refuses (by omega) (rf_rg hm hw hb 2 (by decide)) ?_)
    refine ⟨_, rfl, ?_⟩
    refine s_ireturn rfl dX12_put_35 ?_
    exact hp _ _ (hm.rf' 2 (by decide))
  have g2 : 1 ≤ z ∧ z ≤ 60 := of_decide_eq_true g2
  rw [if_neg (fun h => h g2)] at hp
  obtain ⟨k0, rfl⟩ : ∃ k0 : Nat, z = (k0 : Int) + 1 := ⟨(z - 1).toNat, by omega⟩
  rw [show ((k0 : Int) + 1).toNat = k0 + 1 by omega] at hp
  have hru1 : RuM (up I 0 0) ru := hru.fr (ks := [0]) (frI.rf.up (by decide)) (by decide)
  refine s_aload_n 37 dX12_put_36 rfl rfl ?_
  refine s_V0b 40 dX12_put_37 rfl km_X12_canPut ml_X12_309 ds_X12_canPut (Nat.le_of_ble_eq_true rfl) m_rec rfl (c_canPut rfl hs hws hru1 hwr (fun hc I1 A1 f1 f2 => ?_) (fun hc I1 A1 f1 f2 => ?_))
  refine ⟨_, rfl, ?_⟩
  rotate_left
  · refine ⟨_, rfl, ?_⟩
    refine s_if_neb 43 45 dX12_put_40 rfl rfl (fun g3 => ?_) (fun g3 => ?_)
    · exact absurd g3 (by decide)
    refine s_iconst 44 dX12_put_43 rfl ?_
    refine s_ireturn rfl dX12_put_44 ?_
    rw [putN_n hc, if_pos rfl] at hp
    exact hp _ _ (hm.scr ((frI.rf.up (by decide)).trans f1 (by decide)) (f2.wk (by decide)))
  refine s_if_neb 43 45 dX12_put_40 rfl rfl (fun g3 => ?_) (fun g3 => ?_)
  rotate_left
  · exact absurd g3 (by decide)
  have hne : ¬ (putN ru (k0 + 1) s).1 = 0 := by rw [putN_y hc]; simp
  rw [if_neg hne] at hp
  have e33a : I1 33 = ps.length := by rw [f1 33 (by decide)]; exact e33
  refine s_aload_n 46 dX12_put_45 rfl rfl ?_
  refine s_V0v 49 dX12_put_46 rfl km_X12_keeps ml_X12_289 ds_X12_keeps (Nat.le_of_ble_eq_true rfl) m_rec rfl (c_keeps e33a w4 (fun A2 y1 y2 y3 => ?_))
  refine ⟨rfl, ?_⟩
  refine s_iconst 50 dX12_put_49 rfl ?_
  refine s_istore_n 51 dX12_put_50 rfl (Nat.le_of_ble_eq_true rfl) rfl ?_
  have key : ∀ (m k : Nat) (I2 : Nat → Int) (A3 : Nat → Int → Int) (s2 : ST), k + m = k0 + 1 → frI [26, 28, 29] (up I1 33 (((min ps.length 11 : Nat) : Int) + 1)) I2 → frA [3, 5, 6] A2 A3 → RepSt (ru 5).toNat (A3 3) s2 → WfSt b (ru 5).toNat s2 → putN ru (k0 + 1) s = ((putN ru m s2).1 + k, (putN ru m s2).2) → V G (AM G m0 F n u) yX12_put cX12_put 3 (some .int) (d + 5) (I2, A3, D) 51 [some (.ref m0), some (vi ((k0 : Int) + 1)), some (vi k)] [] post := by
    intro m
    induction m with
    | zero =>
      intro k I2 A3 s2 hk q1 q2 q3 q4 q5
      refine s_iload_n 52 dX12_put_51 rfl rfl ?_
      refine s_iload_n 53 dX12_put_52 rfl rfl ?_
      refine s_icmp_ge 56 69 dX12_put_53 rfl rfl (fun g6 => ?_) (fun g6 => ?_)
      rotate_left
      · omega
      refine s_iload_n 70 dX12_put_69 rfl rfl ?_
      refine s_ireturn rfl dX12_put_70 ?_
      rw [q5, putN] at hp
      rw [show ((((0, s2) : Nat × ST).1 + k : Nat) : Int) = (k : Int) by show ((0 + k : Nat) : Int) = k; omega] at hp
      exact hp _ _ (hm.act hw ((((frI.rf.up (by decide)).trans f1 (by decide)).up (by decide)).trans q1 (by decide)) (((f2.wk (by decide)).trans y1 (by decide)).trans q2 (by decide)) (by rw [q1 33 (by decide), up_s]) (fun i x y => by rw [q2 8 (by decide), y2 i x y, f2 8 (by decide)]) (fun i x y => by rw [q2 8 (by decide), y3 i x y, f2 3 (by decide)]) q3 (by rw [q1 2 (by decide), up_n (by decide), f1 2 (by decide), up_n (by decide)]; exact hm.1.1) (Or.inl rfl) (by rw [q1 38 (by decide), up_n (by decide), f1 38 (by decide), up_n (by decide)]; exact hm.2.2.1.1) (by rw [q2 11 (by decide), y1 11 (by decide), f2 11 (by decide)]; exact hm.2.2.1.2))
    | succ m ih =>
      intro k I2 A3 s2 hk q1 q2 q3 q4 q5
      have hru2 : RuM I2 ru := hru1.fr (ks := [26, 28, 29, 33]) (((f1.wk (by decide)).up (by decide)).trans q1 (by decide)) (by decide)
      refine s_iload_n 52 dX12_put_51 rfl rfl ?_
      refine s_iload_n 53 dX12_put_52 rfl rfl ?_
      refine s_icmp_ge 56 69 dX12_put_53 rfl rfl (fun g6 => ?_) (fun g6 => ?_)
      · omega
      refine s_aload_n 57 dX12_put_56 rfl rfl ?_
      refine s_V0b 60 dX12_put_57 rfl km_X12_putsOne ml_X12_312 ds_X12_putsOne (Nat.le_of_ble_eq_true rfl) m_rec rfl (c_putsOne rfl q3 q4 hru2 hwr (fun hc3 I4 A4 t1 t2 t3 => ?_) (fun hc3 I4 A4 t1 t2 => ?_))
      refine ⟨_, rfl, ?_⟩
      · refine s_if_eqb 63 69 dX12_put_60 rfl rfl (fun g7 => ?_) (fun g7 => ?_)
        · exact absurd g7 (by decide)
        refine s_iinc 66 dX12_put_63 rfl rfl (Nat.le_of_ble_eq_true rfl) rfl ?_
        refine s_goto 51 dX12_put_66 rfl ?_
        refine ih (k + 1) I4 A4 (putF ru s2) (by omega) (q1.trans t1 (by decide)) (q2.trans t2 (by decide)) t3 (putF_wf q4 hwr rfl hc3) ?_
        rw [q5, putN_y hc3, Nat.add_assoc, Nat.add_comm 1 k]
      · refine ⟨_, rfl, ?_⟩
        refine s_if_eqb 63 69 dX12_put_60 rfl rfl (fun g7 => ?_) (fun g7 => ?_)
        rotate_left
        · exact absurd g7 (by decide)
        refine s_iload_n 70 dX12_put_69 rfl rfl ?_
        refine s_ireturn rfl dX12_put_70 ?_
        rw [q5, putN_n hc3] at hp
        rw [show ((((0, s2) : Nat × ST).1 + k : Nat) : Int) = (k : Int) by show ((0 + k : Nat) : Int) = k; omega] at hp
        have q3' : RepSt (ru 5).toNat (A4 3) s2 := by rw [t2 3 (by decide)]; exact q3
        have q1' := q1.trans t1 (by decide)
        have q2' := q2.trans t2 (by decide)
        exact hp _ _ (hm.act hw ((((frI.rf.up (by decide)).trans f1 (by decide)).up (by decide)).trans q1' (by decide)) (((f2.wk (by decide)).trans y1 (by decide)).trans q2' (by decide)) (by rw [q1' 33 (by decide), up_s]) (fun i x y => by rw [q2' 8 (by decide), y2 i x y, f2 8 (by decide)]) (fun i x y => by rw [q2' 8 (by decide), y3 i x y, f2 3 (by decide)]) q3' (by rw [q1' 2 (by decide), up_n (by decide), f1 2 (by decide), up_n (by decide)]; exact hm.1.1) (Or.inl rfl) (by rw [q1' 38 (by decide), up_n (by decide), f1 38 (by decide), up_n (by decide)]; exact hm.2.2.1.1) (by rw [q2' 11 (by decide), y1 11 (by decide), f2 11 (by decide)]; exact hm.2.2.1.2))
  refine key (k0 + 1) 0 _ A2 s (by omega) frI.rf frA.rf (by rw [y1 3 (by decide), f2 3 (by decide)]; exact hs) hws rfl
end M33
