section U10
variable {G : GT} {F : HS} {d : Nat} {T : Nat → Nat} {N : Nat → Nat → Int} {R : Nat → List Int} {P : Nat → Nat → Option Nat} {S : Nat → Int64} {cn un : Nat} {post : Option Value → PT → Prop} {q c0 u0 : Nat} {Y : SY} {b : Int}
theorem u_share {z w : Int} (hz : rg z) (hv : rg w) (hm : RepP q c0 u0 (T, N, R, P, S, cn, un) Y) (hw : WfSy b Y) (hp : ∀ a', RepP q c0 u0 a' Y → post (some (vi (aShare Y.2.2.2.2.1 Y.2.2.2.2.2.1 Y.2.2.2.2.2.2.2.1.1 z w))) a') : Cm G (AP G F) yX11_share cX11_share 10 (some .int) (d + 5) [.ref q, vi z, vi w] (T, N, R, P, S, cn, un) post := by
  obtain ⟨tp, bx, hd, rf, il, ru, tl, s, ps, im⟩ := Y
  obtain ⟨nw, nx, h⟩ := hm
  have hp : ∀ a', RepP q c0 u0 a' (tp, bx, hd, rf, il, ru, tl, s, ps, im) → post (some (vi (aShare il ru s.1 z w))) a' := hp
  obtain ⟨⟨t0, t1, t2, t3, t4⟩, ⟨t5, t6, t7, t8, t9, t10⟩, ⟨t11, t12, t13, t14⟩, v0, v1, v2, v3, v4, v5⟩ := h.cx
  obtain ⟨-, -, -, -, wil, -, w0, -, w1⟩ := hw
  have hS1 : R (nw + 1) = s.1 := h.pa.nr.1
  have no : ¬ (il = 1 ∧ (0 ≤ z ∧ z < ru 5) ∧ 0 ≤ w ∧ w ≤ 3) → V G (AP G F) yX11_share cX11_share 10 (some .int) (d + 5) (T, N, R, P, S, cn, un) 20 [some (.ref q), some (vi z), some (vi w), none, none, none, none, none, none, none] [] post := fun hn => by
    refine s_iconst 21 dX11_share_20 rfl ?_
    refine s_ireturn rfl dX11_share_21 ?_
    rw [show aShare il ru s.1 z w = -1 from if_neg hn] at hp
    exact hp _ h.out
  have hch : (0 ≤ z ∧ z < ((chOf il ru : Nat) : Int)) ↔ (il = 1 ∧ 0 ≤ z ∧ z < ru 5) := by
    rcases wil with rfl | rfl
    · rw [show chOf 0 ru = 0 from rfl]
      omega
    · have := (w1 rfl).1.2.2.2.2.2
      rw [show chOf 1 ru = (ru 5).toNat from rfl]
      omega
  refine Cm_intro (L := [some (.ref q), some (vi z), some (vi w), none, none, none, none, none, none, none]) (by decide +kernel) (Nat.le_of_ble_eq_true rfl) rfl ?_
  refine s_aload_n 1 dX11_share_0 rfl rfl ?_
  refine u_now 4 dX11_share_1 rfl fl_X11_70 ?_
  refine s_iload_n 5 dX11_share_4 rfl rfl ?_
  refine s_V1n 8 dX11_share_5 rfl km_X7_portAt ml_X11_171 ds_X7_portAt (Nat.le_of_ble_eq_true rfl) (q_rec (by assumption)) rfl (q_portAt h.pa.ns h.pa.nr.2.2.2.1.2.2.1 h.pa.c4 hz (fun g1 g2 => ?_) (fun g2 => ?_))
  refine ⟨_, rfl, ?_⟩
  rotate_left
  · refine ⟨_, rfl, ?_⟩
    refine s_ifnullN 20 dX11_share_8 rfl ?_
    exact no (fun hn => g2 (hch.mpr ⟨hn.1, hn.2.1⟩))
  obtain ⟨hil, k1, k2⟩ := hch.mp ⟨g1, g2⟩
  refine s_ifnull 11 dX11_share_8 rfl ?_
  refine s_iload_n 12 dX11_share_11 rfl rfl ?_
  refine s_if_lt 15 20 dX11_share_12 rfl rfl (fun g3 => ?_) (fun g3 => ?_)
  · exact no (by omega)
  refine s_iload_n 16 dX11_share_15 rfl rfl ?_
  refine s_iconst 17 dX11_share_16 rfl ?_
  refine s_icmp_le 20 22 dX11_share_17 rfl rfl (fun g4 => ?_) (fun g4 => ?_)
  rotate_left
  · exact no (by omega)
  subst hil
  obtain ⟨wr, wtl, ⟨ws, wtc⟩, wps, wim⟩ := w1 rfl
  have h600 := ws.1
  rw [show aShare 1 ru s.1 z w = if w = 0 then (shrF ru s.1 z).1 else if w = 1 then (shrF ru s.1 z).2.1 else if w = 2 then (shrF ru s.1 z).2.2.1 else (shrF ru s.1 z).2.2.2.1 from if_pos ⟨rfl, ⟨k1, k2⟩, by omega, by omega⟩] at hp
  have key : ∀ (m pos k : Nat) (a : Int × Int × Int × Int × Int) (o : Option Value) (N1 : Nat → Nat → Int) (R1 : Nat → List Int), s.1.length + 1 ≤ m + pos → 2 * k ≤ pos → pos ≤ s.1.length → (-1 ≤ a.2.2.2.2 ∧ a.2.2.2.2 ≤ 15) → (∀ y, y ≠ q + 11 → y ≠ q + 21 → N1 y = N y) → (∀ y, y ≠ q + 15 → R1 y = R y) → N1 (q + 21) 2 = pos → shrF ru s.1 z = (frN s.1 pos).foldl (shr1 ru s.1 z) a → V G (AP G F) yX11_share cX11_share 10 (some .int) (d + 5) (T, N1, R1, P, S, cn, un) 46 [some (.ref q), some (vi z), some (vi w), some (vi a.1), some (vi a.2.1), some (vi a.2.2.1), some (vi a.2.2.2.1), some (vi a.2.2.2.2), some (vi (k : Int)), o] [] post := by
    intro m
    induction m with
    | zero => intro pos k a o N1 R1 h1 h2 h3; omega
    | succ m ih =>
      intro pos k a o N1 R1 h1 h2 h3 ha f1 f2 e1 hfr
      have hR1 : R1 (nw + 1) = s.1 := by rw [f2 _ (by omega)]; exact hS1
      refine s_iload 48 dX11_share_46 rfl rfl ?_
      refine s_sipush 51 dX11_share_48 rfl (k := ?_)
      refine s_icmp_ge 54 192 dX11_share_51 rfl rfl (fun g5 => ?_) (fun g5 => ?_)
      · omega
      refine s_aload_n 55 dX11_share_54 rfl rfl ?_
      refine g_X11_walk 58 dX11_share_55 rfl fl_X11_38 ?_
      refine s_aload_n 59 dX11_share_58 rfl rfl ?_
      refine u_now 62 dX11_share_59 rfl fl_X11_70 ?_
      refine g_X7_wire 65 dX11_share_62 rfl fl_X11_142 ?_
      refine s_V1b 68 dX11_share_65 rfl km_X10_step ml_X11_164 ds_X10_step (Nat.le_of_ble_eq_true rfl) (q_rec (by assumption)) rfl (q_step (d := d + 2) t8 v1 hR1 ws.2.1 (by omega) e1 h3 (fun N2 fr to x2 a1 a2 a3 a4 a5 a6 => ?_) (fun N2 x2 a1 a2 => ?_))
      refine ⟨_, rfl, ?_⟩
      rotate_left
      · refine ⟨_, rfl, ?_⟩
        refine s_if_eqb 71 192 dX11_share_68 rfl rfl (fun g6 => ?_) (fun g6 => ?_)
        rotate_left
        · exact absurd g6 (by decide)
        have hp := hp _ (RepQ.out (S := S) (h.scr (N' := N2) (R' := R1) (fun y hy => by rw [x2 y (by omega), f1 y (by omega) (by omega)]) (fun y hy => f2 y (by omega))))
        rw [hfr, a1, show List.foldl (shr1 ru s.1 z) a [] = a from rfl] at hp
        refine s_iload_n 193 dX11_share_192 rfl rfl ?_
        refine s_tabL [220, 222, 225] 228 dX11_share_193 rfl rfl rfl (by decide) ⟨fun hc => ?_, fun hc => ?_, fun hc => ?_, trivial⟩ (fun hc => ?_)
        · refine s_iload_n 221 dX11_share_220 rfl rfl ?_
          refine s_ireturn rfl dX11_share_221 ?_
          rw [if_pos (by omega)] at hp
          exact hp
        · refine s_iload 224 dX11_share_222 rfl rfl ?_
          refine s_ireturn rfl dX11_share_224 ?_
          rw [if_neg (by omega), if_pos (by omega)] at hp
          exact hp
        · refine s_iload 227 dX11_share_225 rfl rfl ?_
          refine s_ireturn rfl dX11_share_227 ?_
          rw [if_neg (by omega), if_neg (by omega), if_pos (by omega)] at hp
          exact hp
        · refine s_iload 230 dX11_share_228 rfl rfl ?_
          refine s_ireturn rfl dX11_share_230 ?_
          rw [if_neg (by omega), if_neg (by omega), if_neg (by omega)] at hp
          exact hp
      refine s_if_eqb 71 192 dX11_share_68 rfl rfl (fun g6 => ?_) (fun g6 => ?_)
      · exact absurd g6 (by decide)
      have hge := frN_ge a1
      rw [a1, List.foldl_cons] at hfr
      have hru2 : RuP N2 (q + 11 + 1) ru := by
        obtain ⟨b1, b2, b3, b4, b5, b6⟩ := h.ru' rfl
        have y1 : N2 (q + 11 + 1) = N (q + 11 + 1) := by rw [x2 _ (by omega), f1 _ (by omega) (by omega)]
        have y2 : N2 (q + 11 + 1 + 1) = N (q + 11 + 1 + 1) := by rw [x2 _ (by omega), f1 _ (by omega) (by omega)]
        exact ⟨by rw [y1]; exact b1, by rw [y2]; exact b2, by rw [y2]; exact b3, by rw [y1]; exact b4, by rw [y1]; exact b5, by rw [y1]; exact b6⟩
      refine s_aload_n 72 dX11_share_71 rfl rfl ?_
      refine g_X11_framing 75 dX11_share_72 rfl fl_X11_31 ?_
      refine s_aload_n 76 dX11_share_75 rfl rfl ?_
      refine u_now 79 dX11_share_76 rfl fl_X11_70 ?_
      refine g_X7_wire 82 dX11_share_79 rfl fl_X11_142 ?_
      refine s_aload_n 83 dX11_share_82 rfl rfl ?_
      refine g_X11_walk 86 dX11_share_83 rfl fl_X11_38 ?_
      refine g_X10_from 89 dX11_share_86 rfl fl_X11_309 (fun hr86 => ?_)
      rw [a4]
      refine s_aload_n 90 dX11_share_89 rfl rfl ?_
      refine g_X11_walk 93 dX11_share_90 rfl fl_X11_38 ?_
      refine g_X10_length 96 dX11_share_93 rfl fl_X11_312 (fun hr93 => ?_)
      rw [a5]
      refine s_V3i 99 dX11_share_96 rfl km_X1_judge ml_X11_315 ds_X1_judge (Nat.le_of_ble_eq_true rfl) (q_rec (by assumption)) rfl (u_judge (d := d) h.sh.fr hru2 wr v1 v5 hR1 ws.2.1 h600 a2 a3 (fun N3 R3 x3 x4 x5 => ?_))
      refine ⟨_, rfl, ?_⟩
      have c1 : ∀ y, y ≠ q + 11 → y ≠ q + 21 → N3 y = N y := fun y y1 y2 => by rw [x3 y (by omega), x2 y (by omega), f1 y y1 y2]
      have c2 : ∀ y, y ≠ q + 15 → R3 y = R y := fun y y1 => by rw [x4 y (by omega), f2 y y1]
      have c3 : N3 (q + 21) 2 = ((to + 1 : Nat) : Int) := by rw [x3 _ (by omega)]; exact a6
      have c4 : N3 (q + 21) 1 = (to : Int) - fr := by rw [x3 _ (by omega)]; exact a5
      have hkd := frK_kind (ru := ru) (q := (fr, to)) ws.2.1
      refine s_if_ne 102 186 dX11_share_99 rfl rfl (fun g7 => ?_) (fun g7 => ?_)
      · refine s_iinc 189 dX11_share_186 rfl rfl (Nat.le_of_ble_eq_true rfl) rfl ?_
        refine s_goto 46 dX11_share_189 rfl ?_
        refine ih (to + 1) (k + 1) a o N3 R3 (by omega) (by omega) (by omega) ha c1 c2 c3 ?_
        rw [hfr]
        congr 1
        exact if_neg (fun hn => g7 hn.1)
      have g7' : frK ru s.1 (fr, to) = 0 := by omega
      obtain ⟨y1, y2⟩ := x5 (Or.inl g7')
      obtain ⟨z1, z2, z3⟩ := frP_told (ru := ru) (q := (fr, to)) ws.2.1 (Or.inl g7')
      have hby := byt_at z1 0
      refine s_aload_n 103 dX11_share_102 rfl rfl ?_
      refine g_X11_framing 106 dX11_share_103 rfl fl_X11_31 ?_
      refine g_X1_head 109 dX11_share_106 rfl fl_X11_319 (fun hr106 => ?_)
      rw [y1]
      refine s_bipush 111 dX11_share_109 rfl (k := ?_)
      refine s_ishr 112 ((frP_ ru s.1 (fr, to)).getD 0 0 / 64) dX11_share_111 rfl ((shr_k (by omega) 6 (by decide))) ?_
      refine s_iload_n 113 dX11_share_112 rfl rfl ?_
      refine s_icmp_ne 116 186 dX11_share_113 rfl rfl (fun g8 => ?_) (fun g8 => ?_)
      · refine s_iinc 189 dX11_share_186 rfl rfl (Nat.le_of_ble_eq_true rfl) rfl ?_
        refine s_goto 46 dX11_share_189 rfl ?_
        refine ih (to + 1) (k + 1) a o N3 R3 (by omega) (by omega) (by omega) ha c1 c2 c3 ?_
        rw [hfr]
        congr 1
        exact if_neg (fun hn => g8 hn.2)
      have hst : shr1 ru s.1 z a (fr, to) = (a.1 + 1, a.2.1 + ((to : Int) - fr + 1), a.2.2.1 + (if a.2.2.2.2 = -1 then 0 else ((frP_ ru s.1 (fr, to)).getD 0 0 % 16 - a.2.2.2.2 - 1) % 16), a.2.2.2.1 + (partF ru (frP_ ru s.1 (fr, to))).length, (frP_ ru s.1 (fr, to)).getD 0 0 % 16) := if_pos ⟨g7', by omega⟩
      refine s_aload_n 117 dX11_share_116 rfl rfl ?_
      refine g_X11_framing 120 dX11_share_117 rfl fl_X11_31 ?_
      refine g_X1_head 123 dX11_share_120 rfl fl_X11_319 (fun hr120 => ?_)
      rw [y1]
      refine s_bipush 125 dX11_share_123 rfl (k := ?_)
      refine s_iand 126 ((frP_ ru s.1 (fr, to)).getD 0 0 % 16) dX11_share_125 rfl ((and_15 _)) ?_
      refine s_istore 128 dX11_share_126 rfl (Nat.le_of_ble_eq_true rfl) rfl ?_
      refine s_iload 130 dX11_share_128 rfl rfl ?_
      refine s_iload 132 dX11_share_130 rfl rfl ?_
      refine s_iconst 133 dX11_share_132 rfl ?_
      refine s_icmp_ne 136 140 dX11_share_133 rfl rfl (fun g9 => ?_) (fun g9 => ?_)
      · refine s_iload 142 dX11_share_140 rfl rfl ?_
        refine s_iload 144 dX11_share_142 rfl rfl ?_
        refine s_isub 145 dX11_share_144 rfl ?_
        refine s_iconst 146 dX11_share_145 rfl ?_
        refine s_isub 147 dX11_share_146 rfl ?_
        refine s_bipush 149 dX11_share_147 rfl (k := ?_)
        refine s_iand 150 (((frP_ ru s.1 (fr, to)).getD 0 0 % 16 - a.2.2.2.2 - 1) % 16) dX11_share_149 rfl ((and_15 _)) ?_
        refine s_iadd 151 dX11_share_150 rfl ?_
        refine s_istore 153 dX11_share_151 rfl (Nat.le_of_ble_eq_true rfl) rfl ?_
        refine s_iload 155 dX11_share_153 rfl rfl ?_
        refine s_istore 157 dX11_share_155 rfl (Nat.le_of_ble_eq_true rfl) rfl ?_
        refine s_iinc 160 dX11_share_157 rfl rfl (Nat.le_of_ble_eq_true rfl) rfl ?_
        refine s_iload 162 dX11_share_160 rfl rfl ?_
        refine s_aload_n 163 dX11_share_162 rfl rfl ?_
        refine g_X11_walk 166 dX11_share_163 rfl fl_X11_38 ?_
        refine g_X10_length 169 dX11_share_166 rfl fl_X11_312 (fun hr166 => ?_)
        rw [c4]
        refine s_iconst 170 dX11_share_169 rfl ?_
        refine s_iadd 171 dX11_share_170 rfl ?_
        refine s_iadd 172 dX11_share_171 rfl ?_
        refine s_istore 174 dX11_share_172 rfl (Nat.le_of_ble_eq_true rfl) rfl ?_
        refine s_iload 176 dX11_share_174 rfl rfl ?_
        refine s_aload_n 177 dX11_share_176 rfl rfl ?_
        refine g_X11_framing 180 dX11_share_177 rfl fl_X11_31 ?_
        refine g_X1_part 183 dX11_share_180 rfl fl_X11_336 (fun hr180 => ?_)
        rw [y2]
        refine s_iadd 184 dX11_share_183 rfl ?_
        refine s_istore 186 dX11_share_184 rfl (Nat.le_of_ble_eq_true rfl) rfl ?_
        refine s_iinc 189 dX11_share_186 rfl rfl (Nat.le_of_ble_eq_true rfl) rfl ?_
        refine s_goto 46 dX11_share_189 rfl ?_
        refine ih (to + 1) (k + 1) (a.1 + 1, a.2.1 + ((to : Int) - fr + 1), a.2.2.1 + ((frP_ ru s.1 (fr, to)).getD 0 0 % 16 - a.2.2.2.2 - 1) % 16, a.2.2.2.1 + (partF ru (frP_ ru s.1 (fr, to))).length, (frP_ ru s.1 (fr, to)).getD 0 0 % 16) _ N3 R3 (by omega) (by omega) (by omega) (by show -1 ≤ (frP_ ru s.1 (fr, to)).getD 0 0 % 16 ∧ (frP_ ru s.1 (fr, to)).getD 0 0 % 16 ≤ 15; omega) c1 c2 c3 ?_
        rw [hfr, hst, if_neg g9]
      · refine s_iconst 137 dX11_share_136 rfl ?_
        refine s_goto 150 dX11_share_137 rfl ?_
        refine s_iadd 151 dX11_share_150 rfl ?_
        refine s_istore 153 dX11_share_151 rfl (Nat.le_of_ble_eq_true rfl) rfl ?_
        refine s_iload 155 dX11_share_153 rfl rfl ?_
        refine s_istore 157 dX11_share_155 rfl (Nat.le_of_ble_eq_true rfl) rfl ?_
        refine s_iinc 160 dX11_share_157 rfl rfl (Nat.le_of_ble_eq_true rfl) rfl ?_
        refine s_iload 162 dX11_share_160 rfl rfl ?_
        refine s_aload_n 163 dX11_share_162 rfl rfl ?_
        refine g_X11_walk 166 dX11_share_163 rfl fl_X11_38 ?_
        refine g_X10_length 169 dX11_share_166 rfl fl_X11_312 (fun hr166 => ?_)
        rw [c4]
        refine s_iconst 170 dX11_share_169 rfl ?_
        refine s_iadd 171 dX11_share_170 rfl ?_
        refine s_iadd 172 dX11_share_171 rfl ?_
        refine s_istore 174 dX11_share_172 rfl (Nat.le_of_ble_eq_true rfl) rfl ?_
        refine s_iload 176 dX11_share_174 rfl rfl ?_
        refine s_aload_n 177 dX11_share_176 rfl rfl ?_
        refine g_X11_framing 180 dX11_share_177 rfl fl_X11_31 ?_
        refine g_X1_part 183 dX11_share_180 rfl fl_X11_336 (fun hr180 => ?_)
        rw [y2]
        refine s_iadd 184 dX11_share_183 rfl ?_
        refine s_istore 186 dX11_share_184 rfl (Nat.le_of_ble_eq_true rfl) rfl ?_
        refine s_iinc 189 dX11_share_186 rfl rfl (Nat.le_of_ble_eq_true rfl) rfl ?_
        refine s_goto 46 dX11_share_189 rfl ?_
        refine ih (to + 1) (k + 1) (a.1 + 1, a.2.1 + ((to : Int) - fr + 1), a.2.2.1 + 0, a.2.2.2.1 + (partF ru (frP_ ru s.1 (fr, to))).length, (frP_ ru s.1 (fr, to)).getD 0 0 % 16) _ N3 R3 (by omega) (by omega) (by omega) (by show -1 ≤ (frP_ ru s.1 (fr, to)).getD 0 0 % 16 ∧ (frP_ ru s.1 (fr, to)).getD 0 0 % 16 ≤ 15; omega) c1 c2 c3 ?_
        rw [hfr, hst, if_pos (by omega)]
  refine s_iconst 23 dX11_share_22 rfl ?_
  refine s_istore_n 24 dX11_share_23 rfl (Nat.le_of_ble_eq_true rfl) rfl ?_
  refine s_iconst 25 dX11_share_24 rfl ?_
  refine s_istore 27 dX11_share_25 rfl (Nat.le_of_ble_eq_true rfl) rfl ?_
  refine s_iconst 28 dX11_share_27 rfl ?_
  refine s_istore 30 dX11_share_28 rfl (Nat.le_of_ble_eq_true rfl) rfl ?_
  refine s_iconst 31 dX11_share_30 rfl ?_
  refine s_istore 33 dX11_share_31 rfl (Nat.le_of_ble_eq_true rfl) rfl ?_
  refine s_iconst 34 dX11_share_33 rfl ?_
  refine s_istore 36 dX11_share_34 rfl (Nat.le_of_ble_eq_true rfl) rfl ?_
  refine s_aload_n 37 dX11_share_36 rfl rfl ?_
  refine g_X11_walk 40 dX11_share_37 rfl fl_X11_38 ?_
  refine s_V0v 43 dX11_share_40 rfl km_X10_begin ml_X11_161 ds_X10_begin (Nat.le_of_ble_eq_true rfl) (q_rec (by assumption)) rfl (q_begin t8 (fun N1 x1 e1 => ?_))
  refine ⟨rfl, ?_⟩
  refine s_iconst 44 dX11_share_43 rfl ?_
  refine s_istore 46 dX11_share_44 rfl (Nat.le_of_ble_eq_true rfl) rfl ?_
  exact key (s.1.length + 1) 0 0 (0, 0, 0, 0, -1) none N1 R (by omega) (by omega) (by omega) (by decide) (fun y _ y2 => x1 y (by omega)) (fun _ _ => rfl) e1 (by rw [← frs_N]; rfl)
end U10
