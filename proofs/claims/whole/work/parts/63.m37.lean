section M37
variable {G : GT} {m0 n u : Nat} {F : HS} {d : Nat} {I : Nat → Int} {A : Nat → Int → Int} {D : Int64} {post : Option Value → MT → Prop} {S : SY} {b : Int}
theorem frs_q (w : List Int) {k : Nat} (h : k < (frs w).length) : ((frs w).getD k (0, 0)).1 < ((frs w).getD k (0, 0)).2 ∧ ((frs w).getD k (0, 0)).2 < w.length := (frs_ok w).2 _ (getD_mem h)
theorem frK_kind {ru : RU} {w : List Int} {q : Nat × Nat} (hb : byt w) : frK ru w q = 0 ∨ frK ru w q = 2 ∨ frK ru w q = 3 ∨ frK ru w q = 4 := by
  unfold frK
  split
  · exact Or.inr (Or.inl rfl)
  · exact judge_kind (byt_take (byt_drop hb _) _)
theorem frP_told {ru : RU} {w : List Int} {q : Nat × Nat} (hb : byt w) (h : frK ru w q = 0 ∨ frK ru w q = 4) : byt (frP_ ru w q) ∧ 1 + ckl (ru 3) ≤ (frP_ ru w q).length ∧ (frP_ ru w q).length ≤ 400 := by
  unfold frK at h
  split at h
  · omega
  · have h1 := judge_told (ru := ru) (bs := frB w q) (byt_take (byt_drop hb _) _) (by omega) (by omega)
    refine ⟨h1.1, h1.2.2.1, Nat.le_trans h1.2.1 ?_⟩
    unfold frB
    rw [List.length_take]
    omega
theorem o_frame {z w : Int} (hz : rg z) (hv : rg w) (hm : RepM I A S) (hw : WfSy b S) (hp : ∀ I' A', RepM I' A' S → post (some (vi (aFrame S.2.2.2.2.1 S.2.2.2.2.2.1 S.2.2.2.2.2.2.2.1.1 z w))) (I', A', D)) : Cm G (AM G m0 F n u) yX12_frame cX12_frame 5 (some .int) (d + 5) [.ref m0, vi z, vi w] (I, A, D) post := by
  obtain ⟨tp, bx, hd, rf, il, ru, tl, s, ps, im⟩ := S
  have hp : ∀ I' A', RepM I' A' (tp, bx, hd, rf, il, ru, tl, s, ps, im) → post (some (vi (aFrame il ru s.1 z w))) (I', A', D) := hp
  obtain ⟨-, -, -, -, m1, -, -, m3, m4, m2⟩ := id hm
  obtain ⟨-, -, -, -, w1, -, w3, w4, w2⟩ := id hw
  refine Cm_intro (L := [some (.ref m0), some (vi z), some (vi w), none, none]) (by decide +kernel) (Nat.le_of_ble_eq_true rfl) rfl ?_
  have e17 : up I 0 0 17 = il := by rw [up_n (by decide)]; exact m1
  have no : ¬ (il = 1 ∧ 0 ≤ z ∧ z < (frs s.1).length ∧ 0 ≤ w ∧ w ≤ 4) → ∀ I1 A1, frI [0, 41] I I1 → frA [12, 13] A A1 → V G (AM G m0 F n u) yX12_frame cX12_frame 5 (some .int) (d + 5) (I1, A1, D) 40 [some (.ref m0), some (vi z), some (vi w), none, none] [] post := by
    intro hno I1 A1 f1 f2
    refine s_iconst 41 dX12_frame_40 rfl ?_
    refine s_ireturn rfl dX12_frame_41 ?_
    have e : aFrame il ru s.1 z w = -1 := if_pos hno
    rw [e] at hp
    exact hp _ _ (hm.scr (f1.wk (by decide)) (f2.wk (by decide)))
  refine s_aload_n 1 dX12_frame_0 rfl rfl ?_
  refine s_iconst 2 dX12_frame_1 rfl ?_
  refine m_putI 5 0 dX12_frame_2 rfl fl_X12_60 (by decide) rfl rfl rfl rfl ?_
  refine s_aload_n 6 dX12_frame_5 rfl rfl ?_
  refine m_getI 9 17 dX12_frame_6 rfl fl_X12_188 (by decide) rfl (fun hr6 => ?_)
  refine s_if_eq 12 40 dX12_frame_9 rfl rfl (fun g => ?_) (fun g => ?_)
  · exact no (fun h => by omega) _ _ (frI.rf.up (by decide)) frA.rf
  have hil : il = 1 := by omega
  subst hil
  obtain ⟨hru, htl, hs, hps, him⟩ := m2 rfl
  obtain ⟨hwr, hwt, ⟨hws, hwc⟩, hwp, hwi⟩ := w2 rfl
  have hl := hws.1
  have hfl := (frs_ok s.1).1
  refine s_iload_n 13 dX12_frame_12 rfl rfl ?_
  refine s_i2lz 14 dX12_frame_13 rfl ?_
  refine s_lconstz 15 dX12_frame_14 rfl ?_
  refine s_aload_n 16 dX12_frame_15 rfl rfl ?_
  refine s_V0i 19 dX12_frame_16 rfl km_X12_laysFrames ml_X12_386 ds_X12_laysFrames (Nat.le_of_ble_eq_true rfl) m_rec rfl (c_laysFrames hs hws (fun I1 A1 f1 f2 f3 f4 => ?_))
  refine ⟨_, rfl, ?_⟩
  refine s_iconst 20 dX12_frame_19 rfl ?_
  refine s_isub 21 dX12_frame_20 rfl ?_
  refine s_i2lz 22 dX12_frame_21 rfl ?_
  refine s_S3b 25 dX12_frame_22 rfl km_X12_in rfl ml_X12_70 ds_X12_in (Nat.le_of_ble_eq_true rfl) (c_in hz (by decide) (by constructor <;> omega) ?_)
  refine ⟨_, rfl, ?_⟩
  refine s_if_eqb 28 40 dX12_frame_25 rfl rfl (fun g2 => ?_) (fun g2 => ?_)
  · have g2 := of_decide_eq_false g2
    exact no (fun h => g2 ⟨h.2.1, by omega⟩) _ _ ((frI.rf.up (by decide)).trans f1 (by decide)) f2
  have g2 : 0 ≤ z ∧ z ≤ (frs s.1).length - 1 := of_decide_eq_true g2
  refine s_iload_n 29 dX12_frame_28 rfl rfl ?_
  refine s_i2lz 30 dX12_frame_29 rfl ?_
  refine s_lconstz 31 dX12_frame_30 rfl ?_
  refine s_ldc2z 34 (4) dX12_frame_31 rfl kc_X12_379 rfl ?_
  refine s_S3b 37 dX12_frame_34 rfl km_X12_in rfl ml_X12_70 ds_X12_in (Nat.le_of_ble_eq_true rfl) (c_in hv (by decide) (by decide) ?_)
  refine ⟨_, rfl, ?_⟩
  refine s_if_neb 40 42 dX12_frame_37 rfl rfl (fun g3 => ?_) (fun g3 => ?_)
  rotate_left
  · have g3 := of_decide_eq_false g3
    exact no (fun h => g3 h.2.2.2) _ _ ((frI.rf.up (by decide)).trans f1 (by decide)) f2
  have g3 : 0 ≤ w ∧ w ≤ 4 := of_decide_eq_true g3
  obtain ⟨k, rfl⟩ := Int.eq_ofNat_of_zero_le g2.1
  have hkl : k < (frs s.1).length := by omega
  have hq := frs_q s.1 hkl
  obtain ⟨q1, q2⟩ := f4 k hkl
  have e : aFrame 1 ru s.1 (k : Int) w = if w = 0 then ((((frs s.1).getD k (0, 0)).1 : Nat) : Int) else if w = 1 then ((((frs s.1).getD k (0, 0)).2 : Nat) : Int) - ((((frs s.1).getD k (0, 0)).1 : Nat) : Int) else if w = 2 then frK ru s.1 ((frs s.1).getD k (0, 0)) else if frK ru s.1 ((frs s.1).getD k (0, 0)) = 2 ∨ frK ru s.1 ((frs s.1).getD k (0, 0)) = 3 then -1 else if w = 3 then (frP_ ru s.1 ((frs s.1).getD k (0, 0))).getD 0 0 / 64 else (frP_ ru s.1 ((frs s.1).getD k (0, 0))).getD 0 0 % 16 := if_neg (fun h => h ⟨rfl, by omega, by omega, g3⟩)
  rw [e] at hp
  clear e
  generalize (frs s.1).getD k (0, 0) = q at *
  have hp1 := hp I1 A1 (hm.scr (((frI.rf.up (by decide)).trans f1 (by decide)).wk (ks := [0, 41]) (by decide)) (f2.wk (by decide)))
  refine s_iload_n 43 dX12_frame_42 rfl rfl ?_
  refine s_iconst 44 dX12_frame_43 rfl ?_
  refine s_icmp_ge 47 74 dX12_frame_44 rfl rfl (fun g4 => ?_) (fun g4 => ?_)
  rotate_left
  · refine s_iload_n 48 dX12_frame_47 rfl rfl ?_
    refine s_if_ne 51 60 dX12_frame_48 rfl rfl (fun g5 => ?_) (fun g5 => ?_)
    · refine s_aload_n 61 dX12_frame_60 rfl rfl ?_
      refine m_getV (k := 40) 64 dX12_frame_61 rfl fl_X12_54 (by decide) rfl ?_
      refine s_iload_n 65 dX12_frame_64 rfl rfl ?_
      refine m_ald 66 13 600 dX12_frame_65 rfl (by decide) rfl (fun hr65 => ?_)
      refine s_aload_n 67 dX12_frame_66 rfl rfl ?_
      refine m_getV (k := 39) 70 dX12_frame_67 rfl fl_X12_51 (by decide) rfl ?_
      refine s_iload_n 71 dX12_frame_70 rfl rfl ?_
      refine m_ald 72 12 600 dX12_frame_71 rfl (by decide) rfl (fun hr71 => ?_)
      refine s_isub 73 dX12_frame_72 rfl ?_
      refine s_ireturn rfl dX12_frame_73 ?_
      rw [q1, q2]
      rw [if_neg (by omega), if_pos (by omega)] at hp1
      exact hp1
    · refine s_aload_n 52 dX12_frame_51 rfl rfl ?_
      refine m_getV (k := 39) 55 dX12_frame_52 rfl fl_X12_51 (by decide) rfl ?_
      refine s_iload_n 56 dX12_frame_55 rfl rfl ?_
      refine m_ald 57 12 600 dX12_frame_56 rfl (by decide) rfl (fun hr56 => ?_)
      refine s_goto 73 dX12_frame_57 rfl ?_
      refine s_ireturn rfl dX12_frame_73 ?_
      rw [q1]
      rw [if_pos (by omega)] at hp1
      exact hp1
  have hru1 : RuM I1 ru := hru.fr (ks := [0, 41]) ((frI.rf.up (by decide)).trans f1 (by decide)) (by decide)
  have hs1 : sg (A1 3) 1 s.1 := by rw [f2 3 (by decide)]; exact hs.2.1
  refine s_aload_n 75 dX12_frame_74 rfl rfl ?_
  refine s_iload_n 76 dX12_frame_75 rfl rfl ?_
  refine s_V1i 79 dX12_frame_76 rfl km_X12_frameAt ml_X12_389 ds_X12_frameAt (Nat.le_of_ble_eq_true rfl) m_rec rfl (c_frameAt hs1 hws.2.1 hl (by omega) q1 q2 hq hru1 hwr (fun I2 A2 y1 y2 y3 => ?_))
  refine ⟨_, rfl, ?_⟩
  refine s_istore_n 80 dX12_frame_79 rfl (Nat.le_of_ble_eq_true rfl) rfl ?_
  have hp2 := hp I2 A2 (hm.scr ((((frI.rf.up (by decide)).trans f1 (by decide)).trans y1 (by decide)).wk (ks := [0, 26, 28, 41]) (by decide)) ((f2.wk (by decide)).trans y2 (by decide)))
  rw [if_neg (by omega), if_neg (by omega)] at hp2
  have hkd := frK_kind (ru := ru) (q := q) hws.2.1
  have hto := frP_told (ru := ru) (q := q) hws.2.1
  generalize frK ru s.1 q = kd at *
  generalize frP_ ru s.1 q = pl at *
  -- what is told of it
  have fin : ∀ t : Bool, t = decide (kd ≠ 2 ∧ kd ≠ 3) → V G (AM G m0 F n u) yX12_frame cX12_frame 5 (some .int) (d + 5) (I2, A2, D) 97 [some (.ref m0), some (vi k), some (vi w), some (vi kd), some (vb t)] [] post := by
    intro t ht
    refine s_iload_n 98 dX12_frame_97 rfl rfl ?_
    refine s_iconst 99 dX12_frame_98 rfl ?_
    refine s_icmp_ne 102 106 dX12_frame_99 rfl rfl (fun g6 => ?_) (fun g6 => ?_)
    rotate_left
    · refine s_iload_n 103 dX12_frame_102 rfl rfl ?_
      refine s_goto 141 dX12_frame_103 rfl ?_
      refine s_ireturn rfl dX12_frame_141 ?_
      rw [if_pos g6] at hp2
      exact hp2
    rw [if_neg g6] at hp2
    refine s_iloadb 108 dX12_frame_106 rfl rfl ?_
    refine s_if_neb 111 115 dX12_frame_108 rfl rfl (fun g7 => ?_) (fun g7 => ?_)
    rotate_left
    · refine s_iconst 112 dX12_frame_111 rfl ?_
      refine s_goto 141 dX12_frame_112 rfl ?_
      refine s_ireturn rfl dX12_frame_141 ?_
      rw [g7] at ht
      have ht := of_decide_eq_false ht.symm
      rw [if_pos (by omega)] at hp2
      exact hp2
    rw [g7] at ht
    have ht := of_decide_eq_true ht.symm
    rw [if_neg (by omega)] at hp2
    obtain ⟨t1, t2, t3⟩ := hto (by omega)
    obtain ⟨y4, y5⟩ := y3 (by omega)
    have ev : A2 5 0 = pl.getD 0 0 := sg_slice (k := 0) y5 (by omega)
    have hby := byt_at t1 0
    refine s_iload_n 116 dX12_frame_115 rfl rfl ?_
    refine s_iconst 117 dX12_frame_116 rfl ?_
    refine s_icmp_ne 120 132 dX12_frame_117 rfl rfl (fun g8 => ?_) (fun g8 => ?_)
    · refine s_aload_n 133 dX12_frame_132 rfl rfl ?_
      refine m_getV (k := 25) 136 dX12_frame_133 rfl fl_X12_29 (by decide) rfl ?_
      refine s_iconst 137 dX12_frame_136 rfl ?_
      refine m_ald 138 5 1400 dX12_frame_137 rfl (by decide) rfl (fun hr137 => ?_)
      rw [ev]
      refine s_bipush 140 dX12_frame_138 rfl (k := ?_)
      refine s_irem (q := 141) (hd := dX12_frame_140) (hq := rfl) (k := ?_)
      refine s_ireturn rfl dX12_frame_141 ?_
      rw [if_neg g8] at hp2
      exact hp2
    · refine s_aload_n 121 dX12_frame_120 rfl rfl ?_
      refine m_getV (k := 25) 124 dX12_frame_121 rfl fl_X12_29 (by decide) rfl ?_
      refine s_iconst 125 dX12_frame_124 rfl ?_
      refine m_ald 126 5 1400 dX12_frame_125 rfl (by decide) rfl (fun hr125 => ?_)
      rw [ev]
      refine s_bipush 128 dX12_frame_126 rfl (k := ?_)
      refine s_idiv (q := 129) (hd := dX12_frame_128) (hq := rfl) (k := ?_)
      refine s_goto 141 dX12_frame_129 rfl ?_
      refine s_ireturn rfl dX12_frame_141 ?_
      rw [if_pos g8] at hp2
      exact hp2
  refine s_iload_n 81 dX12_frame_80 rfl rfl ?_
  refine s_iconst 82 dX12_frame_81 rfl ?_
  refine s_icmp_eq 85 94 dX12_frame_82 rfl rfl (fun g6 => ?_) (fun g6 => ?_)
  · refine s_iconst 95 dX12_frame_94 rfl ?_
    refine s_istoreb (z := false) 97 dX12_frame_95 rfl (Nat.le_of_ble_eq_true rfl) rfl ?_
    exact fin false (by rw [decide_eq_false]; omega)
  refine s_iload_n 86 dX12_frame_85 rfl rfl ?_
  refine s_iconst 87 dX12_frame_86 rfl ?_
  refine s_icmp_eq 90 94 dX12_frame_87 rfl rfl (fun g7 => ?_) (fun g7 => ?_)
  · refine s_iconst 95 dX12_frame_94 rfl ?_
    refine s_istoreb (z := false) 97 dX12_frame_95 rfl (Nat.le_of_ble_eq_true rfl) rfl ?_
    exact fin false (by rw [decide_eq_false]; omega)
  refine s_iconst 91 dX12_frame_90 rfl ?_
  refine s_goto 95 dX12_frame_91 rfl ?_
  refine s_istoreb (z := true) 97 dX12_frame_95 rfl (Nat.le_of_ble_eq_true rfl) rfl ?_
  exact fin true (by rw [decide_eq_true]; omega)
theorem o_blind {z : Int} (hz : rg z) (hm : RepM I A S) (hw : WfSy b S) (hp : ∀ I' A', RepM I' A' S → post (some (vi (aBlind S.2.2.2.2.1 S.2.2.2.2.2.1 S.2.2.2.2.2.2.2.1.1 z))) (I', A', D)) : Cm G (AM G m0 F n u) yX12_blind cX12_blind 6 (some .int) (d + 5) [.ref m0, vi z] (I, A, D) post := by
  obtain ⟨tp, bx, hd, rf, il, ru, tl, s, ps, im⟩ := S
  have hp : ∀ I' A', RepM I' A' (tp, bx, hd, rf, il, ru, tl, s, ps, im) → post (some (vi (aBlind il ru s.1 z))) (I', A', D) := hp
  obtain ⟨-, -, -, -, m1, -, -, m3, m4, m2⟩ := id hm
  obtain ⟨-, -, -, -, w1, -, w3, w4, w2⟩ := id hw
  refine Cm_intro (L := [some (.ref m0), some (vi z), none, none, none, none]) (by decide +kernel) (Nat.le_of_ble_eq_true rfl) rfl ?_
  have e17 : up I 0 0 17 = il := by rw [up_n (by decide)]; exact m1
  have no : ¬ (il = 1 ∧ 0 ≤ z ∧ z < (frs s.1).length) → ∀ I1 A1, frI [0, 41] I I1 → frA [12, 13] A A1 → V G (AM G m0 F n u) yX12_blind cX12_blind 6 (some .int) (d + 5) (I1, A1, D) 28 [some (.ref m0), some (vi z), none, none, none, none] [] post := by
    intro hno I1 A1 f1 f2
    refine s_iconst 29 dX12_blind_28 rfl ?_
    refine s_ireturn rfl dX12_blind_29 ?_
    have e : aBlind il ru s.1 z = -1 := if_pos hno
    rw [e] at hp
    exact hp _ _ (hm.scr (f1.wk (by decide)) (f2.wk (by decide)))
  refine s_aload_n 1 dX12_blind_0 rfl rfl ?_
  refine s_iconst 2 dX12_blind_1 rfl ?_
  refine m_putI 5 0 dX12_blind_2 rfl fl_X12_60 (by decide) rfl rfl rfl rfl ?_
  refine s_aload_n 6 dX12_blind_5 rfl rfl ?_
  refine m_getI 9 17 dX12_blind_6 rfl fl_X12_188 (by decide) rfl (fun hr6 => ?_)
  refine s_if_eq 12 28 dX12_blind_9 rfl rfl (fun g => ?_) (fun g => ?_)
  · exact no (fun h => by omega) _ _ (frI.rf.up (by decide)) frA.rf
  have hil : il = 1 := by omega
  subst hil
  obtain ⟨hru, htl, hs, hps, him⟩ := m2 rfl
  obtain ⟨hwr, hwt, ⟨hws, hwc⟩, hwp, hwi⟩ := w2 rfl
  have hl := hws.1
  have hfl := (frs_ok s.1).1
  refine s_iload_n 13 dX12_blind_12 rfl rfl ?_
  refine s_i2lz 14 dX12_blind_13 rfl ?_
  refine s_lconstz 15 dX12_blind_14 rfl ?_
  refine s_aload_n 16 dX12_blind_15 rfl rfl ?_
  refine s_V0i 19 dX12_blind_16 rfl km_X12_laysFrames ml_X12_386 ds_X12_laysFrames (Nat.le_of_ble_eq_true rfl) m_rec rfl (c_laysFrames hs hws (fun I1 A1 f1 f2 f3 f4 => ?_))
  refine ⟨_, rfl, ?_⟩
  refine s_iconst 20 dX12_blind_19 rfl ?_
  refine s_isub 21 dX12_blind_20 rfl ?_
  refine s_i2lz 22 dX12_blind_21 rfl ?_
  refine s_S3b 25 dX12_blind_22 rfl km_X12_in rfl ml_X12_70 ds_X12_in (Nat.le_of_ble_eq_true rfl) (c_in hz (by decide) (by constructor <;> omega) ?_)
  refine ⟨_, rfl, ?_⟩
  refine s_if_neb 28 30 dX12_blind_25 rfl rfl (fun g2 => ?_) (fun g2 => ?_)
  rotate_left
  · have g2 := of_decide_eq_false g2
    exact no (fun h => g2 ⟨h.2.1, by omega⟩) _ _ ((frI.rf.up (by decide)).trans f1 (by decide)) f2
  have g2 : 0 ≤ z ∧ z ≤ (frs s.1).length - 1 := of_decide_eq_true g2
  obtain ⟨k, rfl⟩ := Int.eq_ofNat_of_zero_le g2.1
  have hkl : k < (frs s.1).length := by omega
  have hq := frs_q s.1 hkl
  obtain ⟨q1, q2⟩ := f4 k hkl
  have e : aBlind 1 ru s.1 (k : Int) = if frK ru s.1 ((frs s.1).getD k (0, 0)) ≠ 0 then -2 else bl2 ru s.1 ((frs s.1).getD k (0, 0)) (((frs s.1).getD k (0, 0)).2 - ((frs s.1).getD k (0, 0)).1) ((frs s.1).getD k (0, 0)).1 := if_neg (fun h => h ⟨rfl, by omega, by omega⟩)
  rw [e] at hp
  clear e
  generalize (frs s.1).getD k (0, 0) = q at *
  have hru1 : RuM I1 ru := hru.fr (ks := [0, 41]) ((frI.rf.up (by decide)).trans f1 (by decide)) (by decide)
  have hs1 : sg (A1 3) 1 s.1 := by rw [f2 3 (by decide)]; exact hs.2.1
  have hI1 : frI [0, 41] I I1 := (frI.rf.up (by decide)).trans f1 (by decide)
  refine s_aload_n 31 dX12_blind_30 rfl rfl ?_
  refine s_iload_n 32 dX12_blind_31 rfl rfl ?_
  refine s_V1i 35 dX12_blind_32 rfl km_X12_frameAt ml_X12_389 ds_X12_frameAt (Nat.le_of_ble_eq_true rfl) m_rec rfl (c_frameAt hs1 hws.2.1 hl (by omega) q1 q2 hq hru1 hwr (fun I2 A2 y1 y2 y3 => ?_))
  refine ⟨_, rfl, ?_⟩
  have hkd := frK_kind (ru := ru) (q := q) hws.2.1
  refine s_if_eq 38 41 dX12_blind_35 rfl rfl (fun g3 => ?_) (fun g3 => ?_)
  rotate_left
  · refine s_bipush 40 dX12_blind_38 rfl (k := ?_)
    refine s_ireturn rfl dX12_blind_40 ?_
    rw [if_pos g3] at hp
    exact hp _ _ (hm.scr ((hI1.wk (by decide)).trans y1 (by decide)) ((f2.wk (by decide)).trans y2 (by decide)))
  rw [if_neg (fun h => h g3)] at hp
  have hIA : ∀ (I3 : Nat → Int) (A3 : Nat → Int → Int), frI [26, 28] I1 I3 → frA [3, 5, 6] A1 A3 → RuM I3 ru ∧ A3 12 (k : Int) = q.1 ∧ A3 13 (k : Int) = q.2 := fun I3 A3 h1 h2 => ⟨hru1.fr h1 (by decide), by rw [h2 12 (by decide)]; exact q1, by rw [h2 13 (by decide)]; exact q2⟩
  refine s_iconst 42 dX12_blind_41 rfl ?_
  refine s_istore_n 43 dX12_blind_42 rfl (Nat.le_of_ble_eq_true rfl) rfl ?_
  refine s_aload_n 44 dX12_blind_43 rfl rfl ?_
  refine m_getV (k := 39) 47 dX12_blind_44 rfl fl_X12_51 (by decide) rfl ?_
  refine s_iload_n 48 dX12_blind_47 rfl rfl ?_
  refine m_ald 49 12 600 dX12_blind_48 rfl (by decide) rfl (fun hr48 => ?_)
  rw [y2 12 (by decide), q1]
  refine s_istore_n 50 dX12_blind_49 rfl (Nat.le_of_ble_eq_true rfl) rfl ?_
  -- one byte: all its flips
  have inner : ∀ (i : Nat), q.1 ≤ i → i < q.2 → ∀ (m v : Nat) (nn : Int) (I3 : Nat → Int) (A3 : Nat → Int → Int), v + m = 256 → 1 ≤ v → frI [26, 28] I1 I3 → frA [3, 5, 6] A1 A3 → (∀ j, j ≠ 1 + (i : Int) → A3 3 j = A 3 j) → (∀ (I4 : Nat → Int) (A4 : Nat → Int → Int), frI [26, 28] I1 I4 → frA [3, 5, 6] A1 A4 → (∀ j, j ≠ 1 + (i : Int) → A4 3 j = A 3 j) → V G (AM G m0 F n u) yX12_blind cX12_blind 6 (some .int) (d + 5) (I4, A4, D) 124 [some (.ref m0), some (vi k), some (vi (nn + bl1 ru s.1 q i m v)), some (vi i), some (vi (s.1.getD i 0)), none] [] post) → V G (AM G m0 F n u) yX12_blind cX12_blind 6 (some .int) (d + 5) (I3, A3, D) 73 [some (.ref m0), some (vi k), some (vi nn), some (vi i), some (vi (s.1.getD i 0)), some (vi v)] [] post := by
    intro i hi1 hi2 m
    have hby := byt_at hws.2.1 i
    induction m with
    | zero =>
      intro v nn I3 A3 hv hv1 x1 x2 x3 kont
      refine s_iload 75 dX12_blind_73 rfl rfl ?_
      refine s_sipush 78 dX12_blind_75 rfl (k := ?_)
      refine s_icmp_ge 81 124 dX12_blind_78 rfl rfl (fun g6 => ?_) (fun g6 => ?_)
      rotate_left
      · omega
      have := kont I3 A3 x1 x2 x3
      rw [show nn + bl1 ru s.1 q i 0 v = nn by show nn + 0 = nn; omega] at this
      exact V_kill 5 this
    | succ m ih =>
      intro v nn I3 A3 hv hv1 x1 x2 x3 kont
      refine s_iload 75 dX12_blind_73 rfl rfl ?_
      refine s_sipush 78 dX12_blind_75 rfl (k := ?_)
      refine s_icmp_ge 81 124 dX12_blind_78 rfl rfl (fun g6 => ?_) (fun g6 => ?_)
      · omega
      have hxr := xr_rg hby (show 0 ≤ (v : Int) ∧ (v : Int) ≤ 255 by omega)
      refine s_iload 83 dX12_blind_81 rfl rfl ?_
      refine s_iload 85 dX12_blind_83 rfl rfl ?_
      refine s_ixor 86 ((xr (s.1.getD i 0) v)) dX12_blind_85 rfl ((xor_xr hby.1 (by omega))) ?_
      refine s_if_eq 89 118 dX12_blind_86 rfl rfl (fun g7 => ?_) (fun g7 => ?_)
      · refine s_iinc 121 dX12_blind_118 rfl rfl (Nat.le_of_ble_eq_true rfl) rfl ?_
        refine s_goto 73 dX12_blind_121 rfl ?_
        refine ih (v + 1) nn I3 A3 (by omega) (by omega) x1 x2 x3 (fun I4 A4 p1 p2 p3 => ?_)
        have := kont I4 A4 p1 p2 p3
        rw [show bl1 ru s.1 q i (m + 1) v = (if xr (s.1.getD i 0) v ≠ 0 ∧ frK ru (flpL s.1 i v) q = 0 then 1 else 0) + bl1 ru s.1 q i m (v + 1) from rfl, if_neg (fun h => h.1 g7), Int.zero_add] at this
        exact this
      refine s_aload_n 90 dX12_blind_89 rfl rfl ?_
      refine m_getV (k := 16) 93 dX12_blind_90 rfl fl_X12_16 (by decide) rfl ?_
      refine s_iconst 94 dX12_blind_93 rfl ?_
      refine s_iload_n 95 dX12_blind_94 rfl rfl ?_
      refine s_iadd 96 dX12_blind_95 rfl ?_
      refine s_iload 98 dX12_blind_96 rfl rfl ?_
      refine s_iload 100 dX12_blind_98 rfl rfl ?_
      refine s_ixor 101 ((xr (s.1.getD i 0) v)) dX12_blind_100 rfl ((xor_xr hby.1 (by omega))) ?_
      refine m_ast 102 3 9309 dX12_blind_101 rfl (by decide) rfl ?_
      obtain ⟨r1, r2, r3⟩ := hIA I3 A3 x1 x2
      have hflp := flpL_ok (i := i) (v := (v : Int)) hws.2.1 (by omega)
      have hsg : sg (up A3 3 (up (A3 3) (1 + (i : Int)) (xr (s.1.getD i 0) v)) 3) 1 (flpL s.1 i v) := by
        rw [up_s]
        have h1 : up (A3 3) (1 + (i : Int)) (xr (s.1.getD i 0) v) = up (A 3) (1 + (i : Int)) (xr (s.1.getD i 0) v) := by
          funext j
          by_cases e : j = 1 + (i : Int)
          · rw [e, up_s, up_s]
          · rw [up_n e, up_n e, x3 j e]
        rw [h1]
        exact sg_set hs.2.1 (by omega) rfl
      refine s_iload_n 103 dX12_blind_102 rfl rfl ?_
      refine s_aload_n 104 dX12_blind_103 rfl rfl ?_
      refine s_iload_n 105 dX12_blind_104 rfl rfl ?_
      refine s_V1i 108 dX12_blind_105 rfl km_X12_frameAt ml_X12_389 ds_X12_frameAt (Nat.le_of_ble_eq_true rfl) m_rec rfl (c_frameAt hsg hflp.1 (by rw [hflp.2]; exact hl) (by omega) (by rw [up_n (by decide)]; exact r2) (by rw [up_n (by decide)]; exact r3) (by rw [hflp.2]; exact hq) r1 hwr (fun I5 A5 p1 p2 p3 => ?_))
      refine ⟨_, rfl, ?_⟩
      have hkd2 := frK_kind (ru := ru) (q := q) hflp.1
      have nx : ∀ cn : Int, cn = (if frK ru (flpL s.1 i v) q = 0 then 1 else 0) → V G (AM G m0 F n u) yX12_blind cX12_blind 6 (some .int) (d + 5) (I5, A5, D) 116 [some (.ref m0), some (vi k), some (vi nn), some (vi i), some (vi (s.1.getD i 0)), some (vi v)] [vi cn, vi nn] post := by
        intro cn hcn
        refine s_iadd 117 dX12_blind_116 rfl ?_
        refine s_istore_n 118 dX12_blind_117 rfl (Nat.le_of_ble_eq_true rfl) rfl ?_
        refine s_iinc 121 dX12_blind_118 rfl rfl (Nat.le_of_ble_eq_true rfl) rfl ?_
        refine s_goto 73 dX12_blind_121 rfl ?_
        refine ih (v + 1) (nn + cn) I5 A5 (by omega) (by omega) (x1.trans p1 (by decide)) ((x2.up (by decide)).trans p2 (by decide)) (fun j hj => by rw [p2 3 (by decide), up_s, up_n hj]; exact x3 j hj) (fun I6 A6 t1 t2 t3 => ?_)
        have := kont I6 A6 t1 t2 t3
        rw [show bl1 ru s.1 q i (m + 1) v = (if xr (s.1.getD i 0) v ≠ 0 ∧ frK ru (flpL s.1 i v) q = 0 then 1 else 0) + bl1 ru s.1 q i m (v + 1) from rfl] at this
        have e2 : (if xr (s.1.getD i 0) v ≠ 0 ∧ frK ru (flpL s.1 i v) q = 0 then (1 : Int) else 0) = cn := by
          rw [hcn]
          by_cases e : frK ru (flpL s.1 i v) q = 0
          · rw [if_pos ⟨g7, e⟩, if_pos e]
          · rw [if_neg (fun h => e h.2), if_neg e]
        rw [e2, ← Int.add_assoc] at this
        exact this
      refine s_if_ne 111 115 dX12_blind_108 rfl rfl (fun g8 => ?_) (fun g8 => ?_)
      · refine s_iconst 116 dX12_blind_115 rfl ?_
        exact nx 0 (by rw [if_neg g8])
      · refine s_iconst 112 dX12_blind_111 rfl ?_
        refine s_goto 116 dX12_blind_112 rfl ?_
        exact nx 1 (by rw [if_pos g8])
  have outer : ∀ (m i : Nat) (nn : Int) (I3 : Nat → Int) (A3 : Nat → Int → Int), i + m = q.2 → q.1 ≤ i → frI [26, 28] I1 I3 → frA [3, 5, 6] A1 A3 → (∀ j, A3 3 j = A 3 j) → nn + bl2 ru s.1 q m i = bl2 ru s.1 q (q.2 - q.1) q.1 → V G (AM G m0 F n u) yX12_blind cX12_blind 6 (some .int) (d + 5) (I3, A3, D) 50 [some (.ref m0), some (vi k), some (vi nn), some (vi i), none, none] [] post := by
    intro m
    induction m with
    | zero =>
      intro i nn I3 A3 hi hi1 x1 x2 x3 x4
      obtain ⟨r1, r2, r3⟩ := hIA I3 A3 x1 x2
      refine s_iload_n 51 dX12_blind_50 rfl rfl ?_
      refine s_aload_n 52 dX12_blind_51 rfl rfl ?_
      refine m_getV (k := 40) 55 dX12_blind_52 rfl fl_X12_54 (by decide) rfl ?_
      refine s_iload_n 56 dX12_blind_55 rfl rfl ?_
      refine m_ald 57 13 600 dX12_blind_56 rfl (by decide) rfl (fun hr56 => ?_)
      rw [r3]
      refine s_icmp_ge 60 140 dX12_blind_57 rfl rfl (fun g6 => ?_) (fun g6 => ?_)
      rotate_left
      · omega
      refine s_iload_n 141 dX12_blind_140 rfl rfl ?_
      refine s_ireturn rfl dX12_blind_141 ?_
      rw [show nn = bl2 ru s.1 q (q.2 - q.1) q.1 by rw [← x4]; show nn = nn + 0; omega]
      exact hp _ _ (hm.now hw ((hI1.wk (by decide)).trans x1 (by decide)) ((f2.wk (by decide)).trans x2 (by decide)) (fun i _ _ => x3 i))
    | succ m ih =>
      intro i nn I3 A3 hi hi1 x1 x2 x3 x4
      obtain ⟨r1, r2, r3⟩ := hIA I3 A3 x1 x2
      have ev : A3 3 (1 + (i : Int)) = s.1.getD i 0 := by rw [x3]; exact hs.2.1 i (by omega)
      have hby := byt_at hws.2.1 i
      refine s_iload_n 51 dX12_blind_50 rfl rfl ?_
      refine s_aload_n 52 dX12_blind_51 rfl rfl ?_
      refine m_getV (k := 40) 55 dX12_blind_52 rfl fl_X12_54 (by decide) rfl ?_
      refine s_iload_n 56 dX12_blind_55 rfl rfl ?_
      refine m_ald 57 13 600 dX12_blind_56 rfl (by decide) rfl (fun hr56 => ?_)
      rw [r3]
      refine s_icmp_ge 60 140 dX12_blind_57 rfl rfl (fun g6 => ?_) (fun g6 => ?_)
      · omega
      refine s_aload_n 61 dX12_blind_60 rfl rfl ?_
      refine m_getV (k := 16) 64 dX12_blind_61 rfl fl_X12_16 (by decide) rfl ?_
      refine s_iconst 65 dX12_blind_64 rfl ?_
      refine s_iload_n 66 dX12_blind_65 rfl rfl ?_
      refine s_iadd 67 dX12_blind_66 rfl ?_
      refine m_ald 68 3 9309 dX12_blind_67 rfl (by decide) rfl (fun hr67 => ?_)
      rw [ev]
      refine s_istore 70 dX12_blind_68 rfl (Nat.le_of_ble_eq_true rfl) rfl ?_
      refine s_iconst 71 dX12_blind_70 rfl ?_
      refine s_istore 73 dX12_blind_71 rfl (Nat.le_of_ble_eq_true rfl) rfl ?_
      refine inner i hi1 (by omega) 255 1 nn I3 A3 (by omega) (by omega) x1 x2 (fun j _ => x3 j) (fun I4 A4 p1 p2 p3 => ?_)
      refine s_aload_n 125 dX12_blind_124 rfl rfl ?_
      refine m_getV (k := 16) 128 dX12_blind_125 rfl fl_X12_16 (by decide) rfl ?_
      refine s_iconst 129 dX12_blind_128 rfl ?_
      refine s_iload_n 130 dX12_blind_129 rfl rfl ?_
      refine s_iadd 131 dX12_blind_130 rfl ?_
      refine s_iload 133 dX12_blind_131 rfl rfl ?_
      refine m_ast 134 3 9309 dX12_blind_133 rfl (by decide) rfl ?_
      refine s_iinc 137 dX12_blind_134 rfl rfl (Nat.le_of_ble_eq_true rfl) rfl ?_
      refine s_goto 50 dX12_blind_137 rfl ?_
      refine V_kill 4 ?_
      refine ih (i + 1) _ I4 _ (by omega) (by omega) p1 (p2.up (by decide)) (fun j => ?_) ?_
      · rw [up_s]
        by_cases e : j = 1 + (i : Int)
        · rw [e, up_s, ← ev, x3]
        · rw [up_n e]; exact p3 j e
      · rw [← x4, Int.add_assoc]
        rfl
  refine outer (q.2 - q.1) q.1 0 I2 A2 (by omega) (by omega) y1 (y2.wk (by decide)) (fun j => by rw [y2 3 (by decide), f2 3 (by decide)]) (by omega)
end M37
