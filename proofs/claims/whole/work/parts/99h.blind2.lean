/-- what is still to be shown of lists alone: only CODEs and, without a CHECK, data bytes can be flipped unseen -/
def BlindOk (ru : RU) (w : List Int) : Prop := ∀ fr to : Nat, fr < to → to < w.length → frK ru w (fr, to) = 0 → bP ru (frB w (fr, to)) (frB w (fr, to)).length 0 = bl2 ru w (fr, to) (to - fr) fr
section BLIND2
variable {G : GT} {F : HS} {d : Nat} {T : Nat → Nat} {N : Nat → Nat → Int} {R : Nat → List Int} {P : Nat → Nat → Option Nat} {S : Nat → Int64} {cn un : Nat} {post : Option Value → PT → Prop} {q c0 u0 : Nat} {Y : SY} {b : Int}
theorem u_blind {z : Int} (hz : rg z) (hm : RepP q c0 u0 (T, N, R, P, S, cn, un) Y) (hw : WfSy b Y) (hB : Y.2.2.2.2.1 = 1 → BlindOk Y.2.2.2.2.2.1 Y.2.2.2.2.2.2.2.1.1) (hp : ∀ a', RepP q c0 u0 a' Y → post (some (vi (aBlind Y.2.2.2.2.1 Y.2.2.2.2.2.1 Y.2.2.2.2.2.2.2.1.1 z))) a') : Cm G (AP G F) yX11_blind cX11_blind 2 (some .int) (d + 7) [.ref q, vi z] (T, N, R, P, S, cn, un) post := by
  obtain ⟨tp, bx, hd, rf, il, ru, tl, s, ps, im⟩ := Y
  obtain ⟨nw, nx, h⟩ := hm
  have hp : ∀ a', RepP q c0 u0 a' (tp, bx, hd, rf, il, ru, tl, s, ps, im) → post (some (vi (aBlind il ru s.1 z))) a' := hp
  have hB : il = 1 → BlindOk ru s.1 := hB
  obtain ⟨⟨t0, t1, t2, t3, t4⟩, ⟨t5, t6, t7, t8, t9, t10⟩, ⟨t11, t12, t13, t14⟩, v0, v1, v2, v3, v4, v5⟩ := h.cx
  obtain ⟨-, -, -, -, wil, -, w0, -, w1⟩ := hw
  have hS1 : R (nw + 1) = s.1 := h.pa.nr.1
  have hbl : byt s.1 ∧ s.1.length ≤ 600 := by
    rcases wil with rfl | rfl
    · rw [(w0 rfl).2.2.2]
      exact ⟨fun x hx => absurd hx List.not_mem_nil, Nat.zero_le _⟩
    · exact ⟨(w1 rfl).2.2.1.1.2.1, (w1 rfl).2.2.1.1.1⟩
  refine Cm_intro (L := [some (.ref q), some (vi z)]) (by decide +kernel) (Nat.le_of_ble_eq_true rfl) rfl ?_
  refine s_aload_n 1 dX11_blind_0 rfl rfl ?_
  refine g_X11_walk 4 dX11_blind_1 rfl fl_X11_38 ?_
  refine s_aload_n 5 dX11_blind_4 rfl rfl ?_
  refine u_now 8 dX11_blind_5 rfl fl_X11_70 ?_
  refine g_X7_wire 11 dX11_blind_8 rfl fl_X11_142 ?_
  refine s_iload_n 12 dX11_blind_11 rfl rfl ?_
  refine s_V2b 15 dX11_blind_12 rfl km_X10_find ml_X11_305 ds_X10_find (Nat.le_of_ble_eq_true rfl) (q_rec (by assumption)) rfl (q_find (d := d + 3) t8 v1 hS1 hbl.1 (by omega) hz (fun N2 f2 k0 k1 k2 k3 => ?_) (fun N2 f2 k0 => ?_))
  refine ⟨_, rfl, ?_⟩
  rotate_left
  · refine ⟨_, rfl, ?_⟩
    refine s_if_neb 18 20 dX11_blind_15 rfl rfl (fun g3 => ?_) (fun g3 => ?_)
    · exact absurd g3 (by decide)
    refine s_iconst 19 dX11_blind_18 rfl ?_
    refine s_ireturn rfl dX11_blind_19 ?_
    rw [show aBlind il ru s.1 z = -1 from if_pos (by omega)] at hp
    exact hp _ (RepQ.out (h.scr (fun y hy => f2 y (by omega)) (fun _ _ => rfl)))
  refine s_if_neb 18 20 dX11_blind_15 rfl rfl (fun g3 => ?_) (fun g3 => ?_)
  rotate_left
  · exact absurd g3 (by decide)
  have hil : il = 1 := by
    rcases wil with rfl | rfl
    · rw [(w0 rfl).2.2.2] at k1
      exact absurd k1 (by show ¬ z < ((frs []).length : Int); rw [show (frs ([] : List Int)).length = 0 from rfl]; omega)
    · rfl
  subst hil
  obtain ⟨wr, wtl, ⟨ws, wtc⟩, wps, wim⟩ := w1 rfl
  have hq := frs_q s.1 (k := z.toNat) (by omega)
  have eo : aBlind 1 ru s.1 z = if frK ru s.1 ((frs s.1).getD z.toNat (0, 0)) ≠ 0 then -2 else bl2 ru s.1 ((frs s.1).getD z.toNat (0, 0)) (((frs s.1).getD z.toNat (0, 0)).2 - ((frs s.1).getD z.toNat (0, 0)).1) ((frs s.1).getD z.toNat (0, 0)).1 := if_neg (fun hn => hn ⟨rfl, by omega, by omega⟩)
  rw [eo] at hp
  generalize (frs s.1).getD z.toNat (0, 0) = fq at *
  obtain ⟨fr, to⟩ := fq
  have k2 : N2 (q + 21) 0 = (fr : Int) := k2
  have k3 : N2 (q + 21) 1 = (to : Int) - fr := k3
  have hq : fr < to ∧ to < s.1.length := hq
  have hru2 : RuP N2 (q + 11 + 1) ru := (h.ru' rfl).fr f2 (by omega)
  have hkd := frK_kind (ru := ru) (q := (fr, to)) ws.2.1
  refine s_aload_n 21 dX11_blind_20 rfl rfl ?_
  refine g_X11_framing 24 dX11_blind_21 rfl fl_X11_31 ?_
  refine s_aload_n 25 dX11_blind_24 rfl rfl ?_
  refine u_now 28 dX11_blind_25 rfl fl_X11_70 ?_
  refine g_X7_wire 31 dX11_blind_28 rfl fl_X11_142 ?_
  refine s_aload_n 32 dX11_blind_31 rfl rfl ?_
  refine g_X11_walk 35 dX11_blind_32 rfl fl_X11_38 ?_
  refine g_X10_from 38 dX11_blind_35 rfl fl_X11_309 (fun hr35 => ?_)
  rw [k2]
  refine s_aload_n 39 dX11_blind_38 rfl rfl ?_
  refine g_X11_walk 42 dX11_blind_39 rfl fl_X11_38 ?_
  refine g_X10_length 45 dX11_blind_42 rfl fl_X11_312 (fun hr42 => ?_)
  rw [k3]
  refine s_V3i 48 dX11_blind_45 rfl km_X1_judge ml_X11_315 ds_X1_judge (Nat.le_of_ble_eq_true rfl) (q_rec (by assumption)) rfl (u_judge (d := d + 2) h.sh.fr hru2 wr v1 v5 hS1 hbl.1 hbl.2 hq.1 hq.2 (fun N3 R3 f3 f4 f5 => ?_))
  refine ⟨_, rfl, ?_⟩
  have sc3 := h.scr (N' := N3) (R' := R3) (fun y hy => by rw [f3 y (by omega), f2 y (by omega)]) (fun y hy => f4 y (by omega))
  refine s_if_eq 51 54 dX11_blind_48 rfl rfl (fun g6 => ?_) (fun g6 => ?_)
  rotate_left
  · refine s_bipush 53 dX11_blind_51 rfl (k := ?_)
    refine s_ireturn rfl dX11_blind_53 ?_
    rw [if_pos g6] at hp
    exact hp _ sc3.out
  have hl : (frB s.1 (fr, to)).length = to - fr := by
    show ((s.1.drop fr).take (to - fr)).length = _
    rw [List.length_take, List.length_drop]
    omega
  have h200 : to - fr ≤ 200 := by
    by_cases e : 200 < to - fr
    · have : frK ru s.1 (fr, to) = 2 := if_pos e
      omega
    · omega
  have e0 : N3 (q + 21) 0 = (fr : Int) := by rw [f3 _ (by omega)]; exact k2
  have e1 : N3 (q + 21) 1 = (((frB s.1 (fr, to)).length : Nat) : Int) := by rw [f3 _ (by omega), hl]; omega
  have hR3 : R3 (nw + 1) = s.1 := by rw [f4 _ (by omega)]; exact hS1
  refine s_aload_n 55 dX11_blind_54 rfl rfl ?_
  refine g_X11_framing 58 dX11_blind_55 rfl fl_X11_31 ?_
  refine s_aload_n 59 dX11_blind_58 rfl rfl ?_
  refine u_now 62 dX11_blind_59 rfl fl_X11_70 ?_
  refine g_X7_wire 65 dX11_blind_62 rfl fl_X11_142 ?_
  refine s_aload_n 66 dX11_blind_65 rfl rfl ?_
  refine g_X11_walk 69 dX11_blind_66 rfl fl_X11_38 ?_
  refine g_X10_from 72 dX11_blind_69 rfl fl_X11_309 (fun hr69 => ?_)
  rw [e0]
  refine s_aload_n 73 dX11_blind_72 rfl rfl ?_
  refine g_X11_walk 76 dX11_blind_73 rfl fl_X11_38 ?_
  refine g_X10_length 79 dX11_blind_76 rfl fl_X11_312 (fun hr76 => ?_)
  rw [e1]
  refine s_V3i 82 dX11_blind_79 rfl km_X1_blindFlips ml_X11_327 ds_X1_blindFlips (Nat.le_of_ble_eq_true rfl) (q_rec (by assumption)) rfl (q_blindFlips (d := d) h.sh.fr (hru2.fr f3 (by omega)) wr v1 (by omega) (by omega) hR3 hbl.1 (by omega) (bs := frB s.1 (fr, to)) (by rw [hl]; rfl) (by rw [hl]; omega) (by omega) (fun N4 R4 f6 f7 => ?_))
  refine ⟨_, rfl, ?_⟩
  refine s_ireturn rfl dX11_blind_82 ?_
  rw [if_neg (not_not_intro (show frK ru s.1 (fr, to) = 0 by omega))] at hp
  rw [hB rfl fr to hq.1 hq.2 (by omega)]
  exact hp _ (RepQ.out (sc3.scr (N' := N4) (R' := R4) (fun y hy => f6 y (by omega)) (fun y hy => f7 y (by omega) (by omega))))
end BLIND2
