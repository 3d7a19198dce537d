/-! ===== QuietLine: what FRAMES are, what would become of them ===== -/
section U8
variable {G : GT} {F : HS} {d : Nat} {T : Nat → Nat} {N : Nat → Nat → Int} {R : Nat → List Int} {P : Nat → Nat → Option Nat} {S : Nat → Int64} {cn un : Nat} {post : Option Value → PT → Prop} {q c0 u0 : Nat} {Y : SY} {b : Int}
theorem u_judge {nw fr to : Nat} {w : List Int} {ru : RU} (hF : FrS T (q + 11)) (hru : RuP N (q + 11 + 1) ru) (hwr : WfRu ru) (v1 : T (nw + 1) = 100 + 600) (v5 : q + 178 ≤ nw) (hR : R (nw + 1) = w) (hb : byt w) (hlen : w.length ≤ 600) (h1 : fr < to) (h2 : to < w.length) (hp : ∀ N' R', frO (q + 11) (q + 12) N N' → frO (q + 15) (q + 16) R R' → (frK ru w (fr, to) = 0 ∨ frK ru w (fr, to) = 4 → N' (q + 11) 3 = (frP_ ru w (fr, to)).getD 0 0 ∧ N' (q + 11) 4 = (partF ru (frP_ ru w (fr, to))).length) → post (some (vi (frK ru w (fr, to)))) (T, N', R', P, S, cn, un)) : Cm G (AP G F) yX1_judge cX1_judge 5 (some .int) (d + 4) [.ref (q + 11), .ref (nw + 1), vi fr, vi ((to : Int) - fr)] (T, N, R, P, S, cn, un) post := by
  have hl : (frB w (fr, to)).length = to - fr := by
    show ((w.drop fr).take (to - fr)).length = _
    rw [List.length_take, List.length_drop]
    omega
  have e1 : (to : Int) - fr = ((frB w (fr, to)).length : Nat) := by rw [hl]; omega
  have e2 : judK ru (frB w (fr, to)) = frK ru w (fr, to) := by
    unfold judK frK
    rw [hl]
  rw [e1]
  refine q_judge hF hru hwr v1 (by omega) hR hb (by omega) (by rw [hl]; rfl) (by rw [hl]; omega) (fun N' R' f1 f2 f3 => ?_)
  rw [e2] at f3 ⊢
  exact hp N' R' f1 f2 (fun h => ⟨(f3 h).1, (f3 h).2.1⟩)
theorem u_frame {z w : Int} (hz : rg z) (hv : rg w) (hm : RepP q c0 u0 (T, N, R, P, S, cn, un) Y) (hw : WfSy b Y) (hp : ∀ a', RepP q c0 u0 a' Y → post (some (vi (aFrame Y.2.2.2.2.1 Y.2.2.2.2.2.1 Y.2.2.2.2.2.2.2.1.1 z w))) a') : Cm G (AP G F) yX11_frame cX11_frame 4 (some .int) (d + 5) [.ref q, vi z, vi w] (T, N, R, P, S, cn, un) post := by
  obtain ⟨tp, bx, hd, rf, il, ru, tl, s, ps, im⟩ := Y
  obtain ⟨nw, nx, h⟩ := hm
  have hp : ∀ a', RepP q c0 u0 a' (tp, bx, hd, rf, il, ru, tl, s, ps, im) → post (some (vi (aFrame il ru s.1 z w))) a' := hp
  obtain ⟨⟨t0, t1, t2, t3, t4⟩, ⟨t5, t6, t7, t8, t9, t10⟩, ⟨t11, t12, t13, t14⟩, v0, v1, v2, v3, v4, v5⟩ := h.cx
  obtain ⟨-, -, -, -, wil, -, w0, -, w1⟩ := hw
  have hS1 : R (nw + 1) = s.1 := h.pa.nr.1
  have hbl : byt s.1 ∧ s.1.length ≤ 600 := by
    rcases wil with rfl | rfl
    · rw [(w0 rfl).2.2.2]
      exact ⟨fun x hx => absurd hx List.not_mem_nil, Nat.zero_le _⟩
    · exact ⟨(w1 rfl).2.2.1.1.2.1, (w1 rfl).2.2.1.1.1⟩
  have no : ∀ N2, (∀ y, y ≠ q + 21 → N2 y = N y) → ¬ (il = 1 ∧ 0 ≤ z ∧ z < (frs s.1).length ∧ 0 ≤ w ∧ w ≤ 4) → V G (AP G F) yX11_frame cX11_frame 4 (some .int) (d + 5) (T, N2, R, P, S, cn, un) 27 [some (.ref q), some (vi z), some (vi w), none] [] post := fun N2 f2 hn => by
    refine s_iconst 28 dX11_frame_27 rfl ?_
    refine s_ireturn rfl dX11_frame_28 ?_
    rw [show aFrame il ru s.1 z w = -1 from if_pos hn] at hp
    exact hp _ (RepQ.out (h.scr (fun y hy => f2 y (by omega)) (fun _ _ => rfl)))
  refine Cm_intro (L := [some (.ref q), some (vi z), some (vi w), none]) (by decide +kernel) (Nat.le_of_ble_eq_true rfl) rfl ?_
  refine s_iload_n 1 dX11_frame_0 rfl rfl ?_
  refine s_if_lt 4 27 dX11_frame_1 rfl rfl (fun g1 => ?_) (fun g1 => ?_)
  · exact no N (fun _ _ => rfl) (by omega)
  refine s_iload_n 5 dX11_frame_4 rfl rfl ?_
  refine s_iconst 6 dX11_frame_5 rfl ?_
  refine s_icmp_gt 9 27 dX11_frame_6 rfl rfl (fun g2 => ?_) (fun g2 => ?_)
  · exact no N (fun _ _ => rfl) (by omega)
  refine s_aload_n 10 dX11_frame_9 rfl rfl ?_
  refine g_X11_walk 13 dX11_frame_10 rfl fl_X11_38 ?_
  refine s_aload_n 14 dX11_frame_13 rfl rfl ?_
  refine u_now 17 dX11_frame_14 rfl fl_X11_70 ?_
  refine g_X7_wire 20 dX11_frame_17 rfl fl_X11_142 ?_
  refine s_iload_n 21 dX11_frame_20 rfl rfl ?_
  refine s_V2b 24 dX11_frame_21 rfl km_X10_find ml_X11_305 ds_X10_find (Nat.le_of_ble_eq_true rfl) (q_rec (by assumption)) rfl (q_find (d := d + 1) t8 v1 hS1 hbl.1 (by omega) hz (fun N2 f2 k0 k1 k2 k3 => ?_) (fun N2 f2 k0 => ?_))
  refine ⟨_, rfl, ?_⟩
  rotate_left
  · refine ⟨_, rfl, ?_⟩
    refine s_if_neb 27 29 dX11_frame_24 rfl rfl (fun g3 => ?_) (fun g3 => ?_)
    · exact absurd g3 (by decide)
    exact no N2 (fun y hy => f2 y (by omega)) (by omega)
  refine s_if_neb 27 29 dX11_frame_24 rfl rfl (fun g3 => ?_) (fun g3 => ?_)
  rotate_left
  · exact absurd g3 (by decide)
  have hil : il = 1 := by
    rcases wil with rfl | rfl
    · rw [(w0 rfl).2.2.2] at k1
      exact absurd k1 (by show ¬ z < ((frs []).length : Int); rw [show (frs ([] : List Int)).length = 0 from rfl]; omega)
    · rfl
  subst hil
  obtain ⟨wr, wtl, ⟨ws, wtc⟩, wps, wim⟩ := w1 rfl
  have hq := frs_q s.1 (k := z.toNat) (by omega)
  have eo : aFrame 1 ru s.1 z w = if w = 0 then (((frs s.1).getD z.toNat (0, 0)).1 : Int) else if w = 1 then (((frs s.1).getD z.toNat (0, 0)).2 : Int) - ((frs s.1).getD z.toNat (0, 0)).1 else if w = 2 then frK ru s.1 ((frs s.1).getD z.toNat (0, 0)) else if frK ru s.1 ((frs s.1).getD z.toNat (0, 0)) = 2 ∨ frK ru s.1 ((frs s.1).getD z.toNat (0, 0)) = 3 then -1 else if w = 3 then (frP_ ru s.1 ((frs s.1).getD z.toNat (0, 0))).getD 0 0 / 64 else (frP_ ru s.1 ((frs s.1).getD z.toNat (0, 0))).getD 0 0 % 16 := if_neg (fun hn => hn ⟨rfl, by omega, by omega, by omega, by omega⟩)
  rw [eo] at hp
  generalize (frs s.1).getD z.toNat (0, 0) = fq at *
  obtain ⟨fr, to⟩ := fq
  have k2 : N2 (q + 21) 0 = (fr : Int) := k2
  have k3 : N2 (q + 21) 1 = (to : Int) - fr := k3
  have hq : fr < to ∧ to < s.1.length := hq
  have sc2 : RepP q c0 u0 (T, N2, R, P, S, cn, un) (tp, bx, hd, rf, 1, ru, tl, s, ps, im) := RepQ.out (h.scr (fun y hy => f2 y (by omega)) (fun _ _ => rfl))
  refine s_iload_n 30 dX11_frame_29 rfl rfl ?_
  refine s_if_ne 33 41 dX11_frame_30 rfl rfl (fun g4 => ?_) (fun g4 => ?_)
  rotate_left
  · refine s_aload_n 34 dX11_frame_33 rfl rfl ?_
    refine g_X11_walk 37 dX11_frame_34 rfl fl_X11_38 ?_
    refine g_X10_from 40 dX11_frame_37 rfl fl_X11_309 (fun hr37 => ?_)
    refine s_ireturn rfl dX11_frame_40 ?_
    rw [k2]
    rw [if_pos g4] at hp
    exact hp _ sc2
  refine s_iload_n 42 dX11_frame_41 rfl rfl ?_
  refine s_iconst 43 dX11_frame_42 rfl ?_
  refine s_icmp_ne 46 54 dX11_frame_43 rfl rfl (fun g5 => ?_) (fun g5 => ?_)
  rotate_left
  · refine s_aload_n 47 dX11_frame_46 rfl rfl ?_
    refine g_X11_walk 50 dX11_frame_47 rfl fl_X11_38 ?_
    refine g_X10_length 53 dX11_frame_50 rfl fl_X11_312 (fun hr50 => ?_)
    refine s_ireturn rfl dX11_frame_53 ?_
    rw [k3]
    rw [if_neg g4, if_pos g5] at hp
    exact hp _ sc2
  have hru2 : RuP N2 (q + 11 + 1) ru := (h.ru' rfl).fr f2 (by omega)
  refine s_aload_n 55 dX11_frame_54 rfl rfl ?_
  refine g_X11_framing 58 dX11_frame_55 rfl fl_X11_31 ?_
  refine s_aload_n 59 dX11_frame_58 rfl rfl ?_
  refine u_now 62 dX11_frame_59 rfl fl_X11_70 ?_
  refine g_X7_wire 65 dX11_frame_62 rfl fl_X11_142 ?_
  refine s_aload_n 66 dX11_frame_65 rfl rfl ?_
  refine g_X11_walk 69 dX11_frame_66 rfl fl_X11_38 ?_
  refine g_X10_from 72 dX11_frame_69 rfl fl_X11_309 (fun hr69 => ?_)
  rw [k2]
  refine s_aload_n 73 dX11_frame_72 rfl rfl ?_
  refine g_X11_walk 76 dX11_frame_73 rfl fl_X11_38 ?_
  refine g_X10_length 79 dX11_frame_76 rfl fl_X11_312 (fun hr76 => ?_)
  rw [k3]
  refine s_V3i 82 dX11_frame_79 rfl km_X1_judge ml_X11_315 ds_X1_judge (Nat.le_of_ble_eq_true rfl) (q_rec (by assumption)) rfl (u_judge (d := d) h.sh.fr hru2 wr v1 v5 hS1 hbl.1 hbl.2 hq.1 hq.2 (fun N3 R3 f3 f4 f5 => ?_))
  refine ⟨_, rfl, ?_⟩
  refine s_istore_n 83 dX11_frame_82 rfl (Nat.le_of_ble_eq_true rfl) rfl ?_
  refine s_iload_n 84 dX11_frame_83 rfl rfl ?_
  refine s_iconst 85 dX11_frame_84 rfl ?_
  have sc3 : RepP q c0 u0 (T, N3, R3, P, S, cn, un) (tp, bx, hd, rf, 1, ru, tl, s, ps, im) := RepQ.out (h.scr (fun y hy => by rw [f3 y (by omega), f2 y (by omega)]) (fun y hy => f4 y (by omega)))
  have hkd := frK_kind (ru := ru) (q := (fr, to)) ws.2.1
  refine s_icmp_ne 88 90 dX11_frame_85 rfl rfl (fun g6 => ?_) (fun g6 => ?_)
  rotate_left
  · refine s_iload_n 89 dX11_frame_88 rfl rfl ?_
    refine s_ireturn rfl dX11_frame_89 ?_
    rw [if_neg g4, if_neg g5, if_pos g6] at hp
    exact hp _ sc3
  rw [if_neg g4, if_neg g5, if_neg g6] at hp
  have no2 : (frK ru s.1 (fr, to) = 2 ∨ frK ru s.1 (fr, to) = 3) → V G (AP G F) yX11_frame cX11_frame 4 (some .int) (d + 5) (T, N3, R3, P, S, cn, un) 100 [some (.ref q), some (vi z), some (vi w), some (vi (frK ru s.1 (fr, to)))] [] post := fun hn => by
    refine s_iconst 101 dX11_frame_100 rfl ?_
    refine s_ireturn rfl dX11_frame_101 ?_
    rw [if_pos hn] at hp
    exact hp _ sc3
  refine s_iload_n 91 dX11_frame_90 rfl rfl ?_
  refine s_iconst 92 dX11_frame_91 rfl ?_
  refine s_icmp_eq 95 100 dX11_frame_92 rfl rfl (fun g7 => ?_) (fun g7 => ?_)
  · exact no2 (Or.inl g7)
  refine s_iload_n 96 dX11_frame_95 rfl rfl ?_
  refine s_iconst 97 dX11_frame_96 rfl ?_
  refine s_icmp_ne 100 102 dX11_frame_97 rfl rfl (fun g8 => ?_) (fun g8 => ?_)
  rotate_left
  · exact no2 (Or.inr (by omega))
  rw [if_neg (by omega)] at hp
  obtain ⟨y1, y2⟩ := f5 (by omega)
  obtain ⟨z1, z2, z3⟩ := frP_told (ru := ru) (q := (fr, to)) ws.2.1 (show frK ru s.1 (fr, to) = 0 ∨ frK ru s.1 (fr, to) = 4 by omega)
  have hby := byt_at z1 0
  refine s_iload_n 103 dX11_frame_102 rfl rfl ?_
  refine s_iconst 104 dX11_frame_103 rfl ?_
  refine s_icmp_ne 107 120 dX11_frame_104 rfl rfl (fun g9 => ?_) (fun g9 => ?_)
  · refine s_aload_n 121 dX11_frame_120 rfl rfl ?_
    refine g_X11_framing 124 dX11_frame_121 rfl fl_X11_31 ?_
    refine g_X1_head 127 dX11_frame_124 rfl fl_X11_319 (fun hr124 => ?_)
    rw [y1]
    refine s_bipush 129 dX11_frame_127 rfl (k := ?_)
    refine s_iand 130 ((frP_ ru s.1 (fr, to)).getD 0 0 % 16) dX11_frame_129 rfl ((and_15 _)) ?_
    refine s_ireturn rfl dX11_frame_130 ?_
    rw [if_neg g9] at hp
    exact hp _ sc3
  · refine s_aload_n 108 dX11_frame_107 rfl rfl ?_
    refine g_X11_framing 111 dX11_frame_108 rfl fl_X11_31 ?_
    refine g_X1_head 114 dX11_frame_111 rfl fl_X11_319 (fun hr111 => ?_)
    rw [y1]
    refine s_bipush 116 dX11_frame_114 rfl (k := ?_)
    refine s_ishr 117 ((frP_ ru s.1 (fr, to)).getD 0 0 / 64) dX11_frame_116 rfl ((shr_k (by omega) 6 (by decide))) ?_
    refine s_goto 130 dX11_frame_117 rfl ?_
    refine s_ireturn rfl dX11_frame_130 ?_
    rw [if_pos (by omega)] at hp
    exact hp _ sc3
end U8
