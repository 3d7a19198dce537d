/-! ===== QuietLine: what was ===== -/
section U6
variable {G : GT} {F : HS} {d : Nat} {T : Nat → Nat} {N : Nat → Nat → Int} {R : Nat → List Int} {P : Nat → Nat → Option Nat} {S : Nat → Int64} {cn un : Nat} {post : Option Value → PT → Prop} {q c0 u0 : Nat} {Y : SY} {b : Int}
theorem u_undo (hm : RepP q c0 u0 (T, N, R, P, S, cn, un) Y) (hp : ∀ a', RepP q c0 u0 a' (oUndo Y).2 → post (some (vi (oUndo Y).1)) a') : Cm G (AP G F) yX11_undo cX11_undo 1 (some .int) (d + 1) [.ref q] (T, N, R, P, S, cn, un) post := by
  obtain ⟨tp, bx, hd, rf, il, ru, tl, s, ps, im⟩ := Y
  obtain ⟨nw, nx, h⟩ := hm
  obtain ⟨⟨t0, t1, t2, t3, t4⟩, ⟨t5, t6, t7, t8, t9, t10⟩, ⟨t11, t12, t13, t14⟩, v0, v1, v2, v3, v4, v5⟩ := h.cx
  have hl12 := h.pa.l12
  have hnx := h.pa.hnx
  refine Cm_intro (L := [some (.ref q)]) (by decide +kernel) (Nat.le_of_ble_eq_true rfl) rfl ?_
  refine s_aload_n 1 dX11_undo_0 rfl rfl ?_
  refine g_X11_past 4 dX11_undo_1 rfl fl_X11_52 ?_
  refine g_X3_many 7 dX11_undo_4 rfl fl_X11_348 (fun hr4 => ?_)
  rw [h.pa.len]
  refine s_if_ne 10 12 dX11_undo_7 rfl rfl (fun g => ?_) (fun g => ?_)
  rotate_left
  · refine s_iconst 11 dX11_undo_10 rfl ?_
    refine s_ireturn rfl dX11_undo_11 ?_
    rw [show oUndo (tp, bx, hd, rf, il, ru, tl, s, ps, im) = (-1, tp, bx, hd, rf, il, ru, tl, s, ps, im) from if_pos (by omega)] at hp
    exact hp _ h.out
  have hpos : 0 < ps.length := by omega
  obtain ⟨w, a1, a2⟩ := h.pa.win (ps.length - 1) (by omega)
  rw [show (nx + 13 - ps.length + (ps.length - 1)) % 13 = (nx + 12) % 13 by omega] at a1
  have hm13 : (nx + 12) % 13 < 13 := Nat.mod_lt _ (by decide)
  obtain ⟨b1, b2, b3⟩ := h.pa.own _ w hm13 a1
  refine s_aload_n 13 dX11_undo_12 rfl rfl ?_
  refine s_aload_n 14 dX11_undo_13 rfl rfl ?_
  refine g_X11_past 17 dX11_undo_14 rfl fl_X11_52 ?_
  refine s_aload_n 18 dX11_undo_17 rfl rfl ?_
  refine u_now 21 dX11_undo_18 rfl fl_X11_70 ?_
  refine s_V1n 24 dX11_undo_21 rfl km_X3_swapBack ml_X11_350 ds_X3_swapBack (Nat.le_of_ble_eq_true rfl) (q_rec (by assumption)) rfl (q_swapBack h.sh.pa h.pa.nxt hnx h.pa.len ⟨hpos, hl12⟩ v0 a1 (fun N2 f1 f2 f3 => ?_))
  refine ⟨_, rfl, ?_⟩
  refine p_X11_now 27 dX11_undo_24 rfl fl_X11_70 ?_
  refine s_aload_n 28 dX11_undo_27 rfl rfl ?_
  refine g_X11_past 31 dX11_undo_28 rfl fl_X11_52 ?_
  refine g_X3_many 34 dX11_undo_31 rfl fl_X11_348 (fun hr31 => ?_)
  rw [f3]
  refine s_ireturn rfl dX11_undo_34 ?_
  generalize hm : (nx + 12) % 13 = m at *
  rw [show oUndo (tp, bx, hd, rf, il, ru, tl, s, ps, im) = ((ps.length : Int) - 1, tp, bx, hd, rf, il, ru, tl, ps.getD (ps.length - 1) s, ps.dropLast, im) from if_neg (by omega)] at hp
  rw [show ((ps.length - 1 : Nat) : Int) = (ps.length : Int) - 1 by omega]
  have eg : ∀ k, k < ps.length → ps.getD k s = ps.getD k stz := fun k hk => by
    rw [List.getD_eq_getElem?_getD, List.getD_eq_getElem?_getD, List.getElem?_eq_getElem hk]
    rfl
  have ag : ∀ v (x : ST), q + 101 ≤ v → StR N R v (chOf il ru) tl x → StR N2 R v (chOf il ru) tl x := fun v x hv hx => hx.fr h.pa.c4 f1 (frO.rf (lo := 0) (hi := 0)) (by omega) (by omega)
  have eP : ∀ i, up (up P (q + 23 + 1) (up (P (q + 23 + 1)) m (some nw))) q (up (up P (q + 23 + 1) (up (P (q + 23 + 1)) m (some nw)) q) 10 (some w)) (q + 23 + 1) i = if i = m then some nw else P (q + 23 + 1) i := fun i => by
    rw [up_n (by omega), up_s]
    by_cases e : i = m
    · rw [e, up_s, if_pos rfl]
    · rw [up_n e, if_neg e]
  have hps : ps.dropLast.length = ps.length - 1 := List.length_dropLast
  refine hp _ ⟨w, m, h.sh, h.tp', h.bx', h.hd', fun k hk => by rw [f1 _ (by omega)]; exact h.rf' k hk, by rw [f1 _ (by omega)]; exact h.il', by rw [f1 _ (by omega)]; exact h.im', by rw [f1 _ (by omega)]; exact h.r1, by rw [f1 _ (by omega)]; exact h.r2, fun e => (h.ru' e).fr f1 (by omega), ⟨h.pa.c4, by rw [up_s, up_s], b2, b1, ?_, by rw [f3, hps], by rw [hps]; omega, by omega, f2, fun k hk => ?_, fun i v hi e => ?_, fun i j u v hi hj hij e1 e2 => ?_⟩, fun x hx => ag _ _ (by omega) (h.ke x hx), ?_⟩
  · rw [eg _ (by omega)]
    exact ag w _ (by omega) a2
  · rw [hps] at hk ⊢
    obtain ⟨v, c1, c2⟩ := h.pa.win k (by omega)
    have e1 : (m + 13 - (ps.length - 1) + k) % 13 = (nx + 13 - ps.length + k) % 13 := by omega
    have e2 : (nx + 13 - ps.length + k) % 13 ≠ m := by omega
    obtain ⟨d1, d2, d3⟩ := h.pa.own _ v (Nat.mod_lt _ (by decide)) c1
    refine ⟨v, by rw [e1, eP, if_neg e2]; exact c1, ?_⟩
    have e3 : ps.dropLast.getD k stz = ps.getD k stz := by
      rw [List.getD_eq_getElem?_getD, List.getD_eq_getElem?_getD, List.getElem?_dropLast, if_pos (by omega)]
    rw [e3]
    exact ag v _ (by omega) c2
  · rw [eP] at e
    by_cases e2 : i = m
    · rw [if_pos e2] at e
      cases e
      exact ⟨h.pa.ns, v5, by omega⟩
    · rw [if_neg e2] at e
      obtain ⟨d1, d2, d3⟩ := h.pa.own i v hi e
      exact ⟨d1, d2, h.pa.ap i m v w hi (by omega) e2 e a1⟩
  · rw [eP] at e1 e2
    by_cases g1 : i = m
    · rw [if_pos g1] at e1
      cases e1
      rw [if_neg (by omega)] at e2
      obtain ⟨d1, d2, d3⟩ := h.pa.own j v hj e2
      omega
    · rw [if_neg g1] at e1
      by_cases g2 : j = m
      · rw [if_pos g2] at e2
        cases e2
        exact (h.pa.own i u hi e1).2.2
      · rw [if_neg g2] at e2
        exact h.pa.ap i j u v hi hj hij e1 e2
  · have hr := h.ro
    have e9 : nulP (up (up P (q + 23 + 1) (up (P (q + 23 + 1)) m (some nw))) q (up (up P (q + 23 + 1) (up (P (q + 23 + 1)) m (some nw)) q) 10 (some w))) q = nulP P q := by
      unfold nulP
      refine psum_congr 13 (fun i hi => ?_)
      rw [eP]
      by_cases e : i = m
      · rw [if_pos e, e, a1]
        simp
      · rw [if_neg e]
    rw [e9]
    exact hr
theorem u_image (hm : RepP q c0 u0 (T, N, R, P, S, cn, un) Y) (hw : WfSy b Y) (hb : b ≤ 80000000) (hp : ∀ a', RepP q c0 u0 a' (oImage Y).2 → post (some (vi (oImage Y).1)) a') : Cm G (AP G F) yX11_image cX11_image 1 (some .int) (d + 6) [.ref q] (T, N, R, P, S, cn, un) post := by
  obtain ⟨tp, bx, hd, rf, il, ru, tl, s, ps, im⟩ := Y
  obtain ⟨nw, nx, h⟩ := hm
  obtain ⟨⟨t0, t1, t2, t3, t4⟩, ⟨t5, t6, t7, t8, t9, t10⟩, ⟨t11, t12, t13, t14⟩, v0, v1, v2, v3, v4, v5⟩ := h.cx
  obtain ⟨-, -, -, -, wil, -, w0, -, w1⟩ := hw
  refine Cm_intro (L := [some (.ref q)]) (by decide +kernel) (Nat.le_of_ble_eq_true rfl) rfl ?_
  refine s_aload_n 1 dX11_image_0 rfl rfl ?_
  refine g_X11_hasLine 4 dX11_image_1 rfl fl_X11_112 (fun hr1 => ?_)
  rw [h.il']
  rcases wil with rfl | rfl
  · refine s_if_ne 7 9 dX11_image_4 rfl rfl (fun g => ?_) (fun g => ?_)
    · exact absurd rfl g
    refine s_iconst 8 dX11_image_7 rfl ?_
    refine s_ireturn rfl dX11_image_8 ?_
    exact hp _ h.out
  obtain ⟨wr, wtl, ⟨ws, wtc⟩, wps, wim⟩ := w1 rfl
  refine s_if_ne 7 9 dX11_image_4 rfl rfl (fun g => ?_) (fun g => ?_)
  rotate_left
  · exact absurd (show (1 : Int) = 0 by omega) (by decide)
  refine s_aload_n 10 dX11_image_9 rfl rfl ?_
  refine g_X11_kept 13 dX11_image_10 rfl fl_X11_63 ?_
  refine s_aload_n 14 dX11_image_13 rfl rfl ?_
  refine u_now 17 dX11_image_14 rfl fl_X11_70 ?_
  refine s_V1v 20 dX11_image_17 rfl km_X7_copyFrom ml_X11_322 ds_X7_copyFrom (Nat.le_of_ble_eq_true rfl) (q_rec (by assumption)) rfl (q_scopy h.sh.kp h.pa.ns (by omega) h.pa.nr ws (by omega) h.pa.c4 (fun N2 R2 f1 f2 hs => ?_))
  refine ⟨rfl, ?_⟩
  refine s_aload_n 21 dX11_image_20 rfl rfl ?_
  refine s_iconst 22 dX11_image_21 rfl ?_
  refine p_X11_hasImage 25 dX11_image_22 rfl fl_X11_116 ?_
  refine s_aload_n 26 dX11_image_25 rfl rfl ?_
  refine u_now 29 dX11_image_26 rfl fl_X11_70 ?_
  refine g_X7_wire 32 dX11_image_29 rfl fl_X11_142 ?_
  refine g_X5_size 35 dX11_image_32 rfl fl_X11_76 ?_
  refine s_ireturn rfl dX11_image_35 ?_
  rw [f2 (nw + 1) (by omega), h.pa.nr.1]
  have f3 : ∀ y, y ≠ q → (y < q + 101 ∨ q + 177 ≤ y) → up N2 q (up (N2 q) 12 1) y = N y := fun y h1 h2 => by rw [up_n h1]; exact f1 y h2
  have eq0 : ∀ k, k ≠ 12 → up N2 q (up (N2 q) 12 1) q k = N q k := fun k hk => by rw [up_s, up_n hk, f1 _ (by omega)]
  refine hp _ ⟨nw, nx, h.sh, by rw [f2 _ (by omega)]; exact h.tp', by rw [f2 _ (by omega)]; exact h.bx', by rw [f2 _ (by omega)]; exact h.hd', fun k hk => by rw [f3 _ (by omega) (by omega)]; exact h.rf' k hk, by rw [eq0 _ (by decide)]; exact h.il', by rw [up_s, up_s]; rfl, by rw [f3 _ (by omega) (by omega)]; exact h.r1, by rw [f3 _ (by omega) (by omega)]; exact h.r2, fun e => ?_, ⟨h.pa.c4, h.pa.now, h.pa.lo, h.pa.ns, h.pa.nr.ag h.pa.c4 (fun y _ _ => f3 y (by omega) (by omega)) (fun y _ _ => f2 y (by omega)), by rw [f3 _ (by omega) (by omega)]; exact h.pa.len, h.pa.l12, h.pa.hnx, by rw [f3 _ (by omega) (by omega)]; exact h.pa.nxt, fun k hk => ?_, h.pa.own, h.pa.ap⟩, fun x hx => ?_, h.ro⟩
  · obtain ⟨a1, a2, a3, a4, a5, a6⟩ := h.ru' e
    have e1 := f3 (q + 11 + 1) (by omega) (by omega)
    have e2 := f3 (q + 11 + 1 + 1) (by omega) (by omega)
    exact ⟨by rw [e1]; exact a1, by rw [e2]; exact a2, by rw [e2]; exact a3, by rw [e1]; exact a4, by rw [e1]; exact a5, by rw [e1]; exact a6⟩
  · obtain ⟨w, a1, a2⟩ := h.pa.win k hk
    obtain ⟨b1, b2, b3⟩ := h.pa.own _ w (Nat.mod_lt _ (by decide)) a1
    exact ⟨w, a1, a2.ag h.pa.c4 (fun y _ _ => f3 y (by omega) (by omega)) (fun y _ _ => f2 y (by omega))⟩
  · cases hx
    exact hs.ag h.pa.c4 (fun y _ _ => up_n (by omega)) (fun _ _ _ => rfl)
theorem u_back (hm : RepP q c0 u0 (T, N, R, P, S, cn, un) Y) (hw : WfSy b Y) (hb : b ≤ 80000000) (hp : ∀ a', RepP q c0 u0 a' (oBack Y).2 → post (some (vi (oBack Y).1)) a') : Cm G (AP G F) yX11_back cX11_back 1 (some .int) (d + 6) [.ref q] (T, N, R, P, S, cn, un) post := by
  obtain ⟨tp, bx, hd, rf, il, ru, tl, s, ps, im⟩ := Y
  obtain ⟨nw, nx, h⟩ := hm
  obtain ⟨⟨t0, t1, t2, t3, t4⟩, ⟨t5, t6, t7, t8, t9, t10⟩, ⟨t11, t12, t13, t14⟩, v0, v1, v2, v3, v4, v5⟩ := h.cx
  obtain ⟨-, -, -, -, wil, -, w0, -, w1⟩ := hw
  refine Cm_intro (L := [some (.ref q)]) (by decide +kernel) (Nat.le_of_ble_eq_true rfl) rfl ?_
  refine s_aload_n 1 dX11_back_0 rfl rfl ?_
  refine g_X11_hasImage 4 dX11_back_1 rfl fl_X11_116 (fun hr1 => ?_)
  rw [h.im']
  cases im with
  | none =>
    refine s_if_ne 7 9 dX11_back_4 rfl rfl (fun g => ?_) (fun g => ?_)
    · exact absurd rfl g
    refine s_iconst 8 dX11_back_7 rfl ?_
    refine s_ireturn rfl dX11_back_8 ?_
    exact hp _ h.out
  | some x =>
    rcases wil with rfl | rfl
    · obtain ⟨-, -, e, -⟩ := w0 rfl
      cases e
    obtain ⟨wr, wtl, ⟨ws, wtc⟩, wps, wim⟩ := w1 rfl
    refine s_if_ne 7 9 dX11_back_4 rfl rfl (fun g => ?_) (fun g => ?_)
    rotate_left
    · exact absurd (show (1 : Int) = 0 from g) (by decide)
    refine s_aload_n 10 dX11_back_9 rfl rfl ?_
    refine u_now 13 dX11_back_10 rfl fl_X11_70 ?_
    refine s_aload_n 14 dX11_back_13 rfl rfl ?_
    refine g_X11_kept 17 dX11_back_14 rfl fl_X11_63 ?_
    refine s_V1v 20 dX11_back_17 rfl km_X7_copyFrom ml_X11_322 ds_X7_copyFrom (Nat.le_of_ble_eq_true rfl) (q_rec (by assumption)) rfl (q_scopy h.pa.ns h.sh.kp (by omega) (h.ke x rfl) (wim x rfl).1 (by omega) h.pa.c4 (fun N2 R2 f1 f2 hs => ?_))
    refine ⟨rfl, ?_⟩
    have h2 := h.fr (fun y hy1 hy2 => f1 y (by omega)) (fun y hy1 hy2 => f2 y (by omega)) hs
    refine s_aload_n 21 dX11_back_20 rfl rfl ?_
    refine g_X11_past 24 dX11_back_21 rfl fl_X11_52 ?_
    refine s_V0v 27 dX11_back_24 rfl km_X3_forget ml_X11_106 ds_X3_forget (Nat.le_of_ble_eq_true rfl) (q_rec (by assumption)) rfl (q_pforget h.sh.pa ?_)
    refine ⟨rfl, ?_⟩
    refine s_aload_n 28 dX11_back_27 rfl rfl ?_
    refine u_now 31 dX11_back_28 rfl fl_X11_70 ?_
    refine g_X7_wire 34 dX11_back_31 rfl fl_X11_142 ?_
    refine g_X5_size 37 dX11_back_34 rfl fl_X11_76 ?_
    refine s_ireturn rfl dX11_back_37 ?_
    rw [h2.pa.nr.1]
    have f3 : ∀ y, y ≠ q + 23 → up N2 (q + 23) (up (N2 (q + 23)) 0 0) y = N2 y := fun y h1 => up_n h1
    refine hp _ ⟨nw, nx, h2.sh, h2.tp', h2.bx', h2.hd', fun k hk => by rw [f3 _ (by omega)]; exact h2.rf' k hk, by rw [f3 _ (by omega)]; exact h2.il', by rw [f3 _ (by omega)]; exact h2.im', by rw [f3 _ (by omega)]; exact h2.r1, by rw [f3 _ (by omega)]; exact h2.r2, fun e => ?_, ⟨h2.pa.c4, h2.pa.now, h2.pa.lo, h2.pa.ns, h2.pa.nr.ag h.pa.c4 (fun y _ _ => f3 y (by omega)) (fun _ _ _ => rfl), by rw [up_s, up_s]; rfl, Nat.zero_le _, h2.pa.hnx, by rw [up_s, up_n (by decide)]; exact h2.pa.nxt, fun k hk => absurd hk (Nat.not_lt_zero k), h2.pa.own, h2.pa.ap⟩, fun y hy => (h2.ke y hy).ag h.pa.c4 (fun y _ _ => f3 y (by omega)) (fun _ _ _ => rfl), h2.ro⟩
    obtain ⟨a1, a2, a3, a4, a5, a6⟩ := h2.ru' e
    have e1 := f3 (q + 11 + 1) (by omega)
    have e2 := f3 (q + 11 + 1 + 1) (by omega)
    exact ⟨by rw [e1]; exact a1, by rw [e2]; exact a2, by rw [e2]; exact a3, by rw [e1]; exact a4, by rw [e1]; exact a5, by rw [e1]; exact a6⟩
end U6
