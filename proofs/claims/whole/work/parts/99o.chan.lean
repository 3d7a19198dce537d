/-! ===== QuietLine.channel where it answers ===== -/
section CHAN
variable {G : GT} {F : HS} {d : Nat} {T : Nat → Nat} {N : Nat → Nat → Int} {R : Nat → List Int} {P : Nat → Nat → Option Nat} {S : Nat → Int64} {cn un : Nat} {post : Option Value → PT → Prop} {q c0 u0 : Nat} {Y : SY} {b : Int}
theorem u_channel {z w : Int} (hz : rg z) (hv : rg w) (hm : RepP q c0 u0 (T, N, R, P, S, cn, un) Y) (hw : WfSy b Y) {v : Int} (hc : aChan Y z w = some v) (hp : ∀ a', RepP q c0 u0 a' Y → post (some (vi v)) a') : Cm G (AP G F) yX11_channel cX11_channel 4 (some .int) (d + 2) [.ref q, vi z, vi w] (T, N, R, P, S, cn, un) post := by
  obtain ⟨tp, bx, hd, rf, il, ru, tl, s, ps, im⟩ := Y
  obtain ⟨nw, nx, h⟩ := hm
  have hp9 := hp _ (h.out (S := S))
  obtain ⟨⟨t0, t1, t2, t3, t4⟩, ⟨t5, t6, t7, t8, t9, t10⟩, ⟨t11, t12, t13, t14⟩, v0, v1, v2, v3, v4, v5⟩ := h.cx
  obtain ⟨-, -, -, -, wil, -, w0, -, w1⟩ := hw
  unfold aChan at hc
  dsimp only at hc
  by_cases hy : il = 1 ∧ 0 ≤ z ∧ z < ru 5 ∧ 0 ≤ w ∧ w ≤ 11
  rotate_left
  · rw [if_neg hy] at hc
    cases hc
  rw [if_pos hy] at hc
  have hq2 := Option.some.inj hc
  clear hc
  obtain ⟨hil, y1, y2, y3, y4⟩ := hy
  subst hil
  obtain ⟨wr, wtl, ⟨ws, wtc⟩, wps, wim⟩ := w1 rfl
  have w5 := wr.2.2.2.2.2
  have hch : chOf 1 ru = (ru 5).toNat := rfl
  have hk : z.toNat < chOf 1 ru := by omega
  have hpo := h.pa.ns.2.2.2.2.2 z.toNat (by omega)
  have m0 := hpo.1
  have m1 := hpo.2.1.1
  have m2 := hpo.2.2.1.1
  have m3 := hpo.2.2.2
  have hpr := h.pa.nr.2.2.2.2 z.toNat hk
  have e3 : N (nw + 7 + 1 + 17 * z.toNat) 3 = tl z.toNat := hpr.1.1
  have en : ∀ j, j < 8 → N (nw + 7 + 1 + 17 * z.toNat) (j + 4) = (s.2.2.2.2 z.toNat).1 j := hpr.1.2
  refine Cm_intro (L := [some (.ref q), some (vi z), some (vi w), none]) (by decide +kernel) (Nat.le_of_ble_eq_true rfl) rfl ?_
  refine s_aload_n 1 dX11_channel_0 rfl rfl ?_
  refine u_now 4 dX11_channel_1 rfl fl_X11_70 ?_
  refine s_iload_n 5 dX11_channel_4 rfl rfl ?_
  refine s_V1n 8 dX11_channel_5 rfl km_X7_portAt ml_X11_171 ds_X7_portAt (Nat.le_of_ble_eq_true rfl) (q_rec (by assumption)) rfl (q_portAt h.pa.ns h.pa.nr.2.2.2.1.2.2.1 h.pa.c4 hz (fun g1 g2 => ?_) (fun g2 => absurd ⟨by omega, by omega⟩ g2))
  refine ⟨_, rfl, ?_⟩
  refine s_astore_n 9 dX11_channel_8 rfl (Nat.le_of_ble_eq_true rfl) rfl ?_
  refine s_aload_n 10 dX11_channel_9 rfl rfl ?_
  refine s_ifnonnull 23 dX11_channel_10 rfl ?_
  refine s_iload_n 24 dX11_channel_23 rfl rfl ?_
  refine s_tabL [88, 93, 98, 106, 111, 116, 121, 126, 131, 139, 144, 152] 157 dX11_channel_24 rfl rfl rfl (by decide) ⟨fun hc => ?_, fun hc => ?_, fun hc => ?_, fun hc => ?_, fun hc => ?_, fun hc => ?_, fun hc => ?_, fun hc => ?_, fun hc => ?_, fun hc => ?_, fun hc => ?_, fun hc => ?_, trivial⟩ (fun hc => ?_)
  · refine s_aload_n 89 dX11_channel_88 rfl rfl ?_
    refine g_X4_credits 92 dX11_channel_89 rfl fl_X11_239 (fun hr89 => ?_)
    refine s_ireturn rfl dX11_channel_92 ?_
    rw [show N (nw + 7 + 1 + 17 * z.toNat) 4 = _ from en 0 (by decide)]
    rw [if_pos (by omega)] at hq2
    rw [hq2]; exact hp9
  · refine s_aload_n 94 dX11_channel_93 rfl rfl ?_
    refine g_X4_told 97 dX11_channel_94 rfl fl_X11_242 (fun hr94 => ?_)
    refine s_ireturn rfl dX11_channel_97 ?_
    rw [e3]
    rw [if_neg (by omega), if_pos (by omega)] at hq2
    rw [hq2]; exact hp9
  · refine s_aload_n 99 dX11_channel_98 rfl rfl ?_
    refine g_X4_waits 102 dX11_channel_99 rfl fl_X11_175 ?_
    refine s_V0i 105 dX11_channel_102 rfl km_X2_many ml_X11_181 ds_X2_many (Nat.le_of_ble_eq_true rfl) (q_rec (by assumption)) rfl (q_many hpo.2.1 hpr.2.1 ?_)
    refine ⟨_, rfl, ?_⟩
    refine s_ireturn rfl dX11_channel_105 ?_
    rw [wai0_len]
    rw [if_neg (by omega), if_neg (by omega), if_pos (by omega)] at hq2
    rw [hq2]; exact hp9
  · refine s_aload_n 107 dX11_channel_106 rfl rfl ?_
    refine g_X4_gone 110 dX11_channel_107 rfl fl_X11_251 (fun hr107 => ?_)
    refine s_ireturn rfl dX11_channel_110 ?_
    rw [show N (nw + 7 + 1 + 17 * z.toNat) 5 = _ from en 1 (by decide)]
    rw [if_neg (by omega), if_neg (by omega), if_neg (by omega), if_pos (by omega)] at hq2
    rw [hq2]; exact hp9
  · refine s_aload_n 112 dX11_channel_111 rfl rfl ?_
    refine g_X4_number 115 dX11_channel_112 rfl fl_X11_254 (fun hr112 => ?_)
    refine s_ireturn rfl dX11_channel_115 ?_
    rw [show N (nw + 7 + 1 + 17 * z.toNat) 6 = _ from en 2 (by decide)]
    rw [if_neg (by omega), if_neg (by omega), if_neg (by omega), if_neg (by omega), if_pos (by omega)] at hq2
    rw [hq2]; exact hp9
  · refine s_aload_n 117 dX11_channel_116 rfl rfl ?_
    refine g_X4_expected 120 dX11_channel_117 rfl fl_X11_257 (fun hr117 => ?_)
    refine s_ireturn rfl dX11_channel_120 ?_
    rw [show N (nw + 7 + 1 + 17 * z.toNat) 7 = _ from en 3 (by decide)]
    rw [if_neg (by omega), if_neg (by omega), if_neg (by omega), if_neg (by omega), if_neg (by omega), if_pos (by omega)] at hq2
    rw [hq2]; exact hp9
  · refine s_aload_n 122 dX11_channel_121 rfl rfl ?_
    refine g_X4_lost 125 dX11_channel_122 rfl fl_X11_260 (fun hr122 => ?_)
    refine s_ireturn rfl dX11_channel_125 ?_
    rw [show N (nw + 7 + 1 + 17 * z.toNat) 8 = _ from en 4 (by decide)]
    rw [if_neg (by omega), if_neg (by omega), if_neg (by omega), if_neg (by omega), if_neg (by omega), if_neg (by omega), if_pos (by omega)] at hq2
    rw [hq2]; exact hp9
  · refine s_aload_n 127 dX11_channel_126 rfl rfl ?_
    refine g_X4_torn 130 dX11_channel_127 rfl fl_X11_263 (fun hr127 => ?_)
    refine s_ireturn rfl dX11_channel_130 ?_
    rw [show N (nw + 7 + 1 + 17 * z.toNat) 9 = _ from en 5 (by decide)]
    rw [if_neg (by omega), if_neg (by omega), if_neg (by omega), if_neg (by omega), if_neg (by omega), if_neg (by omega), if_neg (by omega), if_pos (by omega)] at hq2
    rw [hq2]; exact hp9
  · refine s_aload_n 132 dX11_channel_131 rfl rfl ?_
    refine g_X4_there 135 dX11_channel_132 rfl fl_X11_232 ?_
    refine s_V0i 138 dX11_channel_135 rfl km_X2_many ml_X11_181 ds_X2_many (Nat.le_of_ble_eq_true rfl) (q_rec (by assumption)) rfl (q_many hpo.2.2.1 hpr.2.2.1 ?_)
    refine ⟨_, rfl, ?_⟩
    refine s_ireturn rfl dX11_channel_138 ?_
    rw [if_neg (by omega), if_neg (by omega), if_neg (by omega), if_neg (by omega), if_neg (by omega), if_neg (by omega), if_neg (by omega), if_neg (by omega), if_pos (by omega)] at hq2
    rw [hq2]; exact hp9
  · refine s_aload_n 140 dX11_channel_139 rfl rfl ?_
    refine g_X4_frames 143 dX11_channel_140 rfl fl_X11_266 (fun hr140 => ?_)
    refine s_ireturn rfl dX11_channel_143 ?_
    rw [show N (nw + 7 + 1 + 17 * z.toNat) 10 = _ from en 6 (by decide)]
    rw [if_neg (by omega), if_neg (by omega), if_neg (by omega), if_neg (by omega), if_neg (by omega), if_neg (by omega), if_neg (by omega), if_neg (by omega), if_neg (by omega), if_pos (by omega)] at hq2
    rw [hq2]; exact hp9
  · refine s_aload_n 145 dX11_channel_144 rfl rfl ?_
    refine g_X4_built 148 dX11_channel_145 rfl fl_X11_269 ?_
    refine g_X5_size 151 dX11_channel_148 rfl fl_X11_76 ?_
    refine s_ireturn rfl dX11_channel_151 ?_
    rw [hpr.2.2.2]
    rw [if_neg (by omega), if_neg (by omega), if_neg (by omega), if_neg (by omega), if_neg (by omega), if_neg (by omega), if_neg (by omega), if_neg (by omega), if_neg (by omega), if_neg (by omega), if_pos (by omega)] at hq2
    rw [hq2]; exact hp9
  · refine s_aload_n 153 dX11_channel_152 rfl rfl ?_
    refine g_X4_taken 156 dX11_channel_153 rfl fl_X11_272 (fun hr153 => ?_)
    refine s_ireturn rfl dX11_channel_156 ?_
    rw [show N (nw + 7 + 1 + 17 * z.toNat) 11 = _ from en 7 (by decide)]
    rw [if_neg (by omega), if_neg (by omega), if_neg (by omega), if_neg (by omega), if_neg (by omega), if_neg (by omega), if_neg (by omega), if_neg (by omega), if_neg (by omega), if_neg (by omega), if_neg (by omega)] at hq2
    rw [hq2]; exact hp9
  · omega
end CHAN
