section M25
variable {G : GT} {m0 n u : Nat} {F : HS} {d : Nat} {I : Nat → Int} {A : Nat → Int → Int} {D : Int64} {post : Option Value → MT → Prop} {S : SY} {b : Int}
theorem o_rule {z : Int} (hz : rg z) (hm : RepM I A S) (hw : WfSy b S) (hb : b ≤ 90000000) (hp : ∀ I' A', RepM I' A' S → post (some (vi (aRule S z))) (I', A', D)) : Cm G (AM G m0 F n u) yX12_rule cX12_rule 2 (some .int) (d + 2) [.ref m0, vi z] (I, A, D) post := by
  obtain ⟨tp, bx, hd, rf, il, ru, tl, s, ps, im⟩ := S
  have hp0 := hp
  have hp := hp (up I 0 0) A (hm.scr (frI.rf.up (by decide)) frA.rf)
  have hm0 := hm
  have hw0 := hw
  obtain ⟨-, -, -, -, m1, -, -, -, -, m2⟩ := hm0
  obtain ⟨-, -, -, -, w1, -, -, -, w2⟩ := hw0
  refine Cm_intro (L := [some (.ref m0), some (vi z)]) (by decide +kernel) (Nat.le_of_ble_eq_true rfl) rfl ?_
  have e17 : up I 0 0 17 = il := by rw [up_n (by decide)]; exact m1
  refine s_aload_n 1 dX12_rule_0 rfl rfl ?_
  refine s_iconst 2 dX12_rule_1 rfl ?_
  refine m_putI 5 0 dX12_rule_2 rfl fl_X12_60 (by decide) rfl rfl rfl rfl ?_
  refine s_aload_n 6 dX12_rule_5 rfl rfl ?_
  refine m_getI 9 17 dX12_rule_6 rfl fl_X12_188 (by decide) rfl (fun hr6 => ?_)
  refine s_if_ne 12 16 dX12_rule_9 rfl rfl (fun g => ?_) (fun g => ?_)
  rotate_left
  · refine s_ldcw (-1000000) 15 dX12_rule_12 rfl kc_X12_392 rfl ?_
    refine s_ireturn rfl dX12_rule_15 ?_
    rw [show aRule (tp, bx, hd, rf, il, ru, tl, s, ps, im) z = -1000000 from if_pos (by omega)] at hp
    exact hp
  have hil : il = 1 := by omega
  have eo : aRule (tp, bx, hd, rf, il, ru, tl, s, ps, im) z = if z = 0 then ru 0 else if z = 1 then ru 1 else if z = 2 then ru 2 else if z = 3 then ru 3 else if z = 4 then ru 4 else if z = 5 then ru 5 else if z = 6 then (s.1.length : Int) else if z = 7 then ((frs s.1).length : Int) else if z = 8 then (s.2.1.length : Int) else if z = 9 then s.2.2.1 2 else if z = 10 then s.2.2.1 1 else if z = 11 then mstF (ru 1) (1 + ru 4 + (ckl (ru 3) : Nat)) + 1 else -1000000 := if_neg (by omega)
  rw [eo] at hp
  rw [eo] at hp0
  obtain ⟨hru, -, hs, -, -⟩ := m2 hil
  obtain ⟨hwr, -, ⟨hws, -⟩, -, -⟩ := w2 hil
  have hru1 : RuM (up I 0 0) ru := hru.fr (ks := [0]) (frI.rf.up (by decide)) (by decide)
  obtain ⟨r0, r1, r2, r3, r4, r5⟩ := hru1
  have hru1 : RuM (up I 0 0) ru := ⟨r0, r1, r2, r3, r4, r5⟩
  obtain ⟨v0, v1, v2, v3, v4, v5⟩ := hwr
  obtain ⟨s0, s1, s2, s3, s4, s5, s6, -⟩ := id hs
  obtain ⟨x0, x1, x2, x3, x4, x5, x6, x7, x8, x9, x10⟩ := id hws
  refine s_iload_n 17 dX12_rule_16 rfl rfl ?_
  refine s_tabL [80, 85, 90, 95, 100, 105, 110, 117, 122, 131, 140, 149] 167 dX12_rule_17 rfl rfl rfl (by decide) ⟨fun hc => ?_, fun hc => ?_, fun hc => ?_, fun hc => ?_, fun hc => ?_, fun hc => ?_, fun hc => ?_, fun hc => ?_, fun hc => ?_, fun hc => ?_, fun hc => ?_, fun hc => ?_, trivial⟩ (fun hc => ?_)
  · refine s_aload_n 81 dX12_rule_80 rfl rfl ?_
    refine m_getI 84 18 dX12_rule_81 rfl fl_X12_192 (by decide) rfl (fun hr81 => ?_)
    refine s_ireturn rfl dX12_rule_84 ?_
    rw [if_pos (by omega)] at hp
    rw [r0]
    exact hp
  · refine s_aload_n 86 dX12_rule_85 rfl rfl ?_
    refine m_getI 89 19 dX12_rule_86 rfl fl_X12_19 (by decide) rfl (fun hr86 => ?_)
    refine s_ireturn rfl dX12_rule_89 ?_
    rw [if_neg (by omega), if_pos (by omega)] at hp
    rw [r1]
    exact hp
  · refine s_aload_n 91 dX12_rule_90 rfl rfl ?_
    refine m_getI 94 20 dX12_rule_91 rfl fl_X12_23 (by decide) rfl (fun hr91 => ?_)
    refine s_ireturn rfl dX12_rule_94 ?_
    rw [if_neg (by omega), if_neg (by omega), if_pos (by omega)] at hp
    rw [r2]
    exact hp
  · refine s_aload_n 96 dX12_rule_95 rfl rfl ?_
    refine m_getI 99 21 dX12_rule_96 rfl fl_X12_194 (by decide) rfl (fun hr96 => ?_)
    refine s_ireturn rfl dX12_rule_99 ?_
    rw [if_neg (by omega), if_neg (by omega), if_neg (by omega), if_pos (by omega)] at hp
    rw [r3]
    exact hp
  · refine s_aload_n 101 dX12_rule_100 rfl rfl ?_
    refine m_getI 104 22 dX12_rule_101 rfl fl_X12_196 (by decide) rfl (fun hr101 => ?_)
    refine s_ireturn rfl dX12_rule_104 ?_
    rw [if_neg (by omega), if_neg (by omega), if_neg (by omega), if_neg (by omega), if_pos (by omega)] at hp
    rw [r4]
    exact hp
  · refine s_aload_n 106 dX12_rule_105 rfl rfl ?_
    refine m_getI 109 23 dX12_rule_106 rfl fl_X12_198 (by decide) rfl (fun hr106 => ?_)
    refine s_ireturn rfl dX12_rule_109 ?_
    rw [if_neg (by omega), if_neg (by omega), if_neg (by omega), if_neg (by omega), if_neg (by omega), if_pos (by omega)] at hp
    rw [r5]
    exact hp
  · refine s_aload_n 111 dX12_rule_110 rfl rfl ?_
    refine m_getV (k := 16) 114 dX12_rule_111 rfl fl_X12_16 (by decide) rfl ?_
    refine s_iconst 115 dX12_rule_114 rfl ?_
    refine m_ald 116 3 9309 dX12_rule_115 rfl (by decide) rfl (fun hr115 => ?_)
    refine s_ireturn rfl dX12_rule_116 ?_
    rw [if_neg (by omega), if_neg (by omega), if_neg (by omega), if_neg (by omega), if_neg (by omega), if_neg (by omega), if_pos (by omega)] at hp
    rw [s0]
    exact hp
  · refine s_aload_n 118 dX12_rule_117 rfl rfl ?_
    refine s_V0i 121 dX12_rule_118 rfl km_X12_laysFrames ml_X12_386 ds_X12_laysFrames (Nat.le_of_ble_eq_true rfl) m_rec rfl (c_laysFrames hs hws (fun I1 A1 k1 k2 k3 k4 => ?_))
    refine ⟨_, rfl, ?_⟩
    refine s_ireturn rfl dX12_rule_121 ?_
    rw [if_neg (by omega), if_neg (by omega), if_neg (by omega), if_neg (by omega), if_neg (by omega), if_neg (by omega), if_neg (by omega), if_pos (by omega)] at hp0
    exact hp0 I1 A1 (hm.scr ((frI.rf.up (by decide)).trans k1 (by decide)) (k2.wk (by decide)))
  · refine s_aload_n 123 dX12_rule_122 rfl rfl ?_
    refine m_getV (k := 16) 126 dX12_rule_123 rfl fl_X12_16 (by decide) rfl ?_
    refine s_sipush 129 dX12_rule_126 rfl (k := ?_)
    refine m_ald 130 3 9309 dX12_rule_129 rfl (by decide) rfl (fun hr129 => ?_)
    refine s_ireturn rfl dX12_rule_130 ?_
    rw [if_neg (by omega), if_neg (by omega), if_neg (by omega), if_neg (by omega), if_neg (by omega), if_neg (by omega), if_neg (by omega), if_neg (by omega), if_pos (by omega)] at hp
    rw [s2]
    exact hp
  · refine s_aload_n 132 dX12_rule_131 rfl rfl ?_
    refine m_getV (k := 16) 135 dX12_rule_132 rfl fl_X12_16 (by decide) rfl ?_
    refine s_sipush 138 dX12_rule_135 rfl (k := ?_)
    refine m_ald 139 3 9309 dX12_rule_138 rfl (by decide) rfl (fun hr138 => ?_)
    refine s_ireturn rfl dX12_rule_139 ?_
    rw [if_neg (by omega), if_neg (by omega), if_neg (by omega), if_neg (by omega), if_neg (by omega), if_neg (by omega), if_neg (by omega), if_neg (by omega), if_neg (by omega), if_pos (by omega)] at hp
    rw [s6]
    exact hp
  · refine s_aload_n 141 dX12_rule_140 rfl rfl ?_
    refine m_getV (k := 16) 144 dX12_rule_141 rfl fl_X12_16 (by decide) rfl ?_
    refine s_sipush 147 dX12_rule_144 rfl (k := ?_)
    refine m_ald 148 3 9309 dX12_rule_147 rfl (by decide) rfl (fun hr147 => ?_)
    refine s_ireturn rfl dX12_rule_148 ?_
    rw [if_neg (by omega), if_neg (by omega), if_neg (by omega), if_neg (by omega), if_neg (by omega), if_neg (by omega), if_neg (by omega), if_neg (by omega), if_neg (by omega), if_neg (by omega), if_pos (by omega)] at hp
    rw [s5]
    exact hp
  · have hck : ckl (ru 3) ≤ 1 := by unfold ckl; split <;> omega
    refine s_aload_n 150 dX12_rule_149 rfl rfl ?_
    refine s_iconst 151 dX12_rule_150 rfl ?_
    refine s_aload_n 152 dX12_rule_151 rfl rfl ?_
    refine m_getI 155 22 dX12_rule_152 rfl fl_X12_196 (by decide) rfl (fun hr152 => ?_)
    refine s_iadd 156 dX12_rule_155 rfl ?_
    refine s_aload_n 157 dX12_rule_156 rfl rfl ?_
    refine s_V0i 160 dX12_rule_157 rfl km_X12_checkLong ml_X12_268 ds_X12_checkLong (Nat.le_of_ble_eq_true rfl) m_rec rfl (c_checkLong ?_)
    refine ⟨_, rfl, ?_⟩
    refine s_iadd 161 dX12_rule_160 rfl ?_
    rw [r3, r4]
    refine s_V1i 164 dX12_rule_161 rfl km_X12_mostOf ml_X12_265 ds_X12_mostOf (Nat.le_of_ble_eq_true rfl) m_rec rfl (c_mostOf (by omega) (by omega) ?_)
    refine ⟨_, rfl, ?_⟩
    rw [r1]
    refine s_iconst 165 dX12_rule_164 rfl ?_
    refine s_iadd 166 dX12_rule_165 rfl ?_
    refine s_ireturn rfl dX12_rule_166 ?_
    rw [if_neg (by omega), if_neg (by omega), if_neg (by omega), if_neg (by omega), if_neg (by omega), if_neg (by omega), if_neg (by omega), if_neg (by omega), if_neg (by omega), if_neg (by omega), if_neg (by omega), if_pos (by omega)] at hp
    exact hp
  · refine s_ldcw (-1000000) 170 dX12_rule_167 rfl kc_X12_392 rfl ?_
    refine s_ireturn rfl dX12_rule_170 ?_
    rw [if_neg (by omega), if_neg (by omega), if_neg (by omega), if_neg (by omega), if_neg (by omega), if_neg (by omega), if_neg (by omega), if_neg (by omega), if_neg (by omega), if_neg (by omega), if_neg (by omega), if_neg (by omega)] at hp
    exact hp
theorem o_most {z : Int} (hz : rg z) (hm : RepM I A S) (hw : WfSy b S) (hb : b ≤ 90000000) (hp : ∀ I' A', RepM I' A' S → post (some (vi (aMost S z))) (I', A', D)) : Cm G (AM G m0 F n u) yX12_most cX12_most 2 (some .int) (d + 3) [.ref m0, vi z] (I, A, D) post := by
  obtain ⟨tp, bx, hd, rf, il, ru, tl, s, ps, im⟩ := S
  have hp0 := hp
  have hp := hp (up I 0 0) A (hm.scr (frI.rf.up (by decide)) frA.rf)
  have hm0 := hm
  have hw0 := hw
  obtain ⟨-, -, -, -, m1, -, -, -, -, m2⟩ := hm0
  obtain ⟨-, -, -, -, w1, -, -, -, w2⟩ := hw0
  refine Cm_intro (L := [some (.ref m0), some (vi z)]) (by decide +kernel) (Nat.le_of_ble_eq_true rfl) rfl ?_
  have e17 : up I 0 0 17 = il := by rw [up_n (by decide)]; exact m1
  refine s_aload_n 1 dX12_most_0 rfl rfl ?_
  refine s_iconst 2 dX12_most_1 rfl ?_
  refine m_putI 5 0 dX12_most_2 rfl fl_X12_60 (by decide) rfl rfl rfl rfl ?_
  refine s_aload_n 6 dX12_most_5 rfl rfl ?_
  refine m_getI 9 17 dX12_most_6 rfl fl_X12_188 (by decide) rfl (fun hr6 => ?_)
  refine s_if_ne 12 16 dX12_most_9 rfl rfl (fun g => ?_) (fun g => ?_)
  rotate_left
  · refine s_ldcw (-1000000) 15 dX12_most_12 rfl kc_X12_392 rfl ?_
    refine s_ireturn rfl dX12_most_15 ?_
    rw [show aMost (tp, bx, hd, rf, il, ru, tl, s, ps, im) z = -1000000 from if_pos (by omega)] at hp
    exact hp
  have hil : il = 1 := by omega
  have eo : aMost (tp, bx, hd, rf, il, ru, tl, s, ps, im) z = if z = 0 then ((mostL (fun c => (s.2.2.2.2 c).1 4) (ru 5).toNat : Nat) : Int) else if z = 1 then pickF s (ru 5).toNat else if z = 2 then badF s.2.2.2.1 else if z = 3 then lonF (frs s.1) else if z = 4 then sumC (fun c => waiB (s.2.2.2.2 c).2.1 - (s.2.2.2.2 c).1 1) (ru 5).toNat else if z = 5 then greF s.1 else -1000000 := if_neg (by omega)
  rw [eo] at hp
  rw [eo] at hp0
  obtain ⟨hru, -, hs, -, -⟩ := m2 hil
  obtain ⟨hwr, -, ⟨hws, -⟩, -, -⟩ := w2 hil
  have hru1 : RuM (up I 0 0) ru := hru.fr (ks := [0]) (frI.rf.up (by decide)) (by decide)
  refine s_iload_n 17 dX12_most_16 rfl rfl ?_
  refine s_tabL [56, 61, 66, 71, 76, 81] 86 dX12_most_17 rfl rfl rfl (by decide) ⟨fun hc => ?_, fun hc => ?_, fun hc => ?_, fun hc => ?_, fun hc => ?_, fun hc => ?_, trivial⟩ (fun hc => ?_)
  · refine s_aload_n 57 dX12_most_56 rfl rfl ?_
    refine s_V0i 60 dX12_most_57 rfl km_X12_mostLost ml_X12_404 ds_X12_mostLost (Nat.le_of_ble_eq_true rfl) m_rec rfl (c_mostLost rfl hs hws (by omega) hru1 hwr ?_)
    refine ⟨_, rfl, ?_⟩
    refine s_ireturn rfl dX12_most_60 ?_
    rw [if_pos (by omega)] at hp
    exact hp
  · refine s_aload_n 62 dX12_most_61 rfl rfl ?_
    refine s_V0i 65 dX12_most_62 rfl km_X12_pick ml_X12_298 ds_X12_pick (Nat.le_of_ble_eq_true rfl) m_rec rfl (c_pick rfl hs hws hru1 hwr ?_)
    refine ⟨_, rfl, ?_⟩
    refine s_ireturn rfl dX12_most_65 ?_
    rw [if_neg (by omega), if_pos (by omega)] at hp
    exact hp
  · refine s_aload_n 67 dX12_most_66 rfl rfl ?_
    refine s_V0i 70 dX12_most_67 rfl km_X12_broken ml_X12_407 ds_X12_broken (Nat.le_of_ble_eq_true rfl) m_rec rfl (c_broken hs hws (by omega) ?_)
    refine ⟨_, rfl, ?_⟩
    refine s_ireturn rfl dX12_most_70 ?_
    rw [if_neg (by omega), if_neg (by omega), if_pos (by omega)] at hp
    exact hp
  · refine s_aload_n 72 dX12_most_71 rfl rfl ?_
    refine s_V0i 75 dX12_most_72 rfl km_X12_longestFrame ml_X12_410 ds_X12_longestFrame (Nat.le_of_ble_eq_true rfl) m_rec rfl (c_longestFrame hs hws (fun I1 A1 k1 k2 => ?_))
    refine ⟨_, rfl, ?_⟩
    refine s_ireturn rfl dX12_most_75 ?_
    rw [if_neg (by omega), if_neg (by omega), if_neg (by omega), if_pos (by omega)] at hp0
    exact hp0 I1 A1 (hm.scr ((frI.rf.up (by decide)).trans k1 (by decide)) (k2.wk (by decide)))
  · refine s_aload_n 77 dX12_most_76 rfl rfl ?_
    refine s_V0i 80 dX12_most_77 rfl km_X12_waitingBytes ml_X12_413 ds_X12_waitingBytes (Nat.le_of_ble_eq_true rfl) m_rec rfl (c_waitingBytes rfl hs hws hru1 hwr ?_)
    refine ⟨_, rfl, ?_⟩
    refine s_ireturn rfl dX12_most_80 ?_
    rw [if_neg (by omega), if_neg (by omega), if_neg (by omega), if_neg (by omega), if_pos (by omega)] at hp
    exact hp
  · refine s_aload_n 82 dX12_most_81 rfl rfl ?_
    refine s_V0i 85 dX12_most_82 rfl km_X12_greatestByte ml_X12_416 ds_X12_greatestByte (Nat.le_of_ble_eq_true rfl) m_rec rfl (c_greatestByte hs hws ?_)
    refine ⟨_, rfl, ?_⟩
    refine s_ireturn rfl dX12_most_85 ?_
    rw [if_neg (by omega), if_neg (by omega), if_neg (by omega), if_neg (by omega), if_neg (by omega), if_pos (by omega)] at hp
    exact hp
  · refine s_ldcw (-1000000) 89 dX12_most_86 rfl kc_X12_392 rfl ?_
    refine s_ireturn rfl dX12_most_89 ?_
    rw [if_neg (by omega), if_neg (by omega), if_neg (by omega), if_neg (by omega), if_neg (by omega), if_neg (by omega)] at hp
    exact hp
end M25
