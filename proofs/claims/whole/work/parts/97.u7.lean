/-! ===== QuietLine: the LINE made, its rules, what is most ===== -/
theorem frL_ge {w : List Int} {p : Nat} : ∀ (m k b : Nat) (acc : List (Nat × Nat)), p ≤ b → b ≤ k → (∀ q ∈ acc, p ≤ q.1) → ∀ q ∈ frL w m k b acc, p ≤ q.1 := by
  intro m
  induction m with
  | zero => intro k b acc h1 h2 h3; exact h3
  | succ m ih =>
    intro k b acc h1 h2 h3
    rw [frL]
    split
    · split
      · refine ih _ _ _ (by omega) (by omega) (fun q hq => ?_)
        rcases List.mem_append.mp hq with h | h
        · exact h3 q h
        · rw [List.mem_singleton.mp h]
          exact h1
      · exact ih _ _ _ (by omega) (by omega) h3
    · exact ih _ _ _ (by omega) (by omega) h3
theorem frN_ge {w : List Int} {p b k : Nat} {l : List (Nat × Nat)} (h : frN w p = (b, k) :: l) : p ≤ b := by
  have := frL_ge (w := w) (p := p) (w.length - p) p p [] (by omega) (by omega) (fun q hq => absurd hq List.not_mem_nil) (b, k) (by
    show (b, k) ∈ frN w p
    rw [h]
    exact List.mem_cons_self)
  exact this
theorem st0_wf {b : Int} {ch : Nat} {tl : Nat → Int} (hb : 0 ≤ b) (h : ∀ c, c < ch → 1 ≤ tl c ∧ tl c ≤ 8) : WfSt b ch (st0 tl) := by
  refine ⟨by show 0 ≤ 600; omega, byt_nil, by show 0 ≤ 200; omega, byt_nil, fun x hx => absurd hx List.not_mem_nil, Or.inl rfl, ⟨by show -1 ≤ (-1 : Int); omega, by show (-1 : Int) < ch; omega⟩, ⟨Int.le_refl 0, hb⟩, rfl, fun e he => absurd he List.not_mem_nil, fun c hc => ?_⟩
  have hc := h c hc
  refine ⟨by show 0 ≤ tl c ∧ tl c ≤ 8; omega, ⟨Int.le_refl 0, Int.le_refl 0⟩, ⟨Int.le_refl 0, by show (0 : Int) ≤ 15; omega⟩, ⟨Int.le_refl 0, by show (0 : Int) ≤ 15; omega⟩, ⟨Int.le_refl 0, hb⟩, ⟨Int.le_refl 0, hb⟩, ⟨Int.le_refl 0, hb⟩, ⟨Int.le_refl 0, hb⟩, by show 0 ≤ 8; omega, fun w hw => absurd hw List.not_mem_nil, by show 0 ≤ 8; omega, fun w hw => absurd hw List.not_mem_nil, by show 0 ≤ 120; omega, byt_nil, fun _ => rfl⟩
section U7
variable {G : GT} {F : HS} {d : Nat} {T : Nat → Nat} {N : Nat → Nat → Int} {R : Nat → List Int} {P : Nat → Nat → Option Nat} {S : Nat → Int64} {cn un : Nat} {post : Option Value → PT → Prop} {q c0 u0 : Nat} {Y : SY} {b : Int}
theorem u_line (hm : RepP q c0 u0 (T, N, R, P, S, cn, un) Y) (hw : WfSy b Y) (hp : ∀ a', RepP q c0 u0 a' (oLine Y).2 → WfSy b (oLine Y).2 → post (some (vi (oLine Y).1)) a') : Cm G (AP G F) yX11_line cX11_line 1 (some .int) (d + 8) [.ref q] (T, N, R, P, S, cn, un) post := by
  obtain ⟨tp, bx, hd, rf, il, ru, tl, s, ps, im⟩ := Y
  obtain ⟨nw, nx, h⟩ := hm
  obtain ⟨⟨t0, t1, t2, t3, t4⟩, ⟨t5, t6, t7, t8, t9, t10⟩, ⟨t11, t12, t13, t14⟩, v0, v1, v2, v3, v4, v5⟩ := h.cx
  obtain ⟨⟨w1, w2⟩, -⟩ := id hw
  have hfr := parF_rg tp w1
  refine Cm_intro (L := [some (.ref q)]) (by decide +kernel) (Nat.le_of_ble_eq_true rfl) rfl ?_
  refine s_aload_n 1 dX11_line_0 rfl rfl ?_
  refine g_X11_tape 4 dX11_line_1 rfl fl_X11_12 ?_
  refine s_V0i 7 dX11_line_4 rfl km_X9_firstFault ml_X11_86 ds_X9_firstFault (Nat.le_of_ble_eq_true rfl) (q_rec (by assumption)) rfl (q_firstFault h.sh.ta h.tp' w1 w2 (fun N1 f1 f2 => ?_))
  refine ⟨_, rfl, ?_⟩
  refine s_iconst 8 dX11_line_7 rfl ?_
  refine s_icmp_eq 11 13 dX11_line_8 rfl rfl (fun g => ?_) (fun g => ?_)
  rotate_left
  · rw [show oLine (tp, bx, hd, rf, il, ru, tl, s, ps, im) = (-1, tp, bx, hd, rf, il, ru, tl, s, ps, im) from if_neg g] at hp
    refine s_iconst 12 dX11_line_11 rfl ?_
    refine s_ireturn rfl dX11_line_12 ?_
    exact hp _ (RepQ.out (h.scr (fun y hy => f1 y (by omega)) (fun _ _ => rfl))) hw
  rw [show oLine (tp, bx, hd, rf, il, ru, tl, s, ps, im) = (((parF tp).2.2.2.length : Int), [], bx, [], rf, 1, ruP (parF tp).2, (fun c => (parF tp).2.2.2.getD c 0), st0 (fun c => (parF tp).2.2.2.getD c 0), [], none) from if_pos g] at hp
  obtain ⟨p1, p2, p3⟩ := f2 g
  generalize (parF tp).2 = x at *
  have hc4 := p2.2.2.2.2.2.1
  obtain ⟨q0, q1, q2, q3, q4, q5, q6⟩ := p1
  have hru1 : RuP N1 (q + 1 + 3) (ruP x) := ⟨q0, q1, q2, q3, q4, q5⟩
  refine s_aload_n 14 dX11_line_13 rfl rfl ?_
  refine g_X11_framing 17 dX11_line_14 rfl fl_X11_31 ?_
  refine g_X1_rules 20 dX11_line_17 rfl fl_X11_90 ?_
  refine s_aload_n 21 dX11_line_20 rfl rfl ?_
  refine g_X11_tape 24 dX11_line_21 rfl fl_X11_12 ?_
  refine g_X9_told 27 dX11_line_24 rfl fl_X11_94 ?_
  refine s_V1v 30 dX11_line_27 rfl km_X6_copyFrom ml_X11_97 ds_X6_copyFrom (Nat.le_of_ble_eq_true rfl) (q_rec (by assumption)) rfl (q_rcopy h.sh.fr.2.1 h.sh.ta.2.2 (by omega) hru1 (fun N2 f3 hru2 f4 => ?_))
  refine ⟨rfl, ?_⟩
  refine s_aload_n 31 dX11_line_30 rfl rfl ?_
  refine g_X11_tape 34 dX11_line_31 rfl fl_X11_12 ?_
  refine g_X9_bytes 37 dX11_line_34 rfl fl_X11_73 ?_
  refine s_V0v 40 dX11_line_37 rfl km_X5_clear ml_X11_103 ds_X5_clear (Nat.le_of_ble_eq_true rfl) (q_recR (by assumption)) rfl (r_clear t2 ?_)
  refine ⟨rfl, ?_⟩
  refine s_aload_n 41 dX11_line_40 rfl rfl ?_
  refine g_X11_inHand 44 dX11_line_41 rfl fl_X11_25 ?_
  refine s_V0v 47 dX11_line_44 rfl km_X5_clear ml_X11_103 ds_X5_clear (Nat.le_of_ble_eq_true rfl) (q_recR (by assumption)) rfl (r_clear t4 ?_)
  refine ⟨rfl, ?_⟩
  refine s_aload_n 48 dX11_line_47 rfl rfl ?_
  refine g_X11_past 51 dX11_line_48 rfl fl_X11_52 ?_
  refine s_V0v 54 dX11_line_51 rfl km_X3_forget ml_X11_106 ds_X3_forget (Nat.le_of_ble_eq_true rfl) (q_rec (by assumption)) rfl (q_pforget h.sh.pa ?_)
  refine ⟨rfl, ?_⟩
  generalize hN3 : up N2 (q + 23) (up (N2 (q + 23)) 0 0) = N3
  have f5 : frO (q + 23) (q + 24) N2 N3 := by rw [← hN3]; exact frO.rf.up (by omega)
  have e23 : N3 (q + 23) 0 = 0 ∧ N3 (q + 23) 2 = nx := by
    rw [← hN3, up_s, up_s, up_n (by decide), f3 _ (by omega), f1 _ (by omega)]
    exact ⟨rfl, h.pa.nxt⟩
  have hru3 : RuP N3 (q + 11 + 1) (ruP x) := hru2.fr f5 (by omega)
  generalize hR3 : up (up R (q + 1 + 1) []) (q + 9) [] = R3
  have r2 : R3 (q + 1 + 1) = [] := by rw [← hR3, up_n (by omega), up_s]
  have r9 : R3 (q + 9) = [] := by rw [← hR3, up_s]
  have r7 : R3 (q + 7) = bx := by rw [← hR3, up_n (by omega), up_n (by omega)]; exact h.bx'
  refine s_aload_n 55 dX11_line_54 rfl rfl ?_
  refine u_now 58 dX11_line_55 rfl fl_X11_70 ?_
  refine s_aload_n 59 dX11_line_58 rfl rfl ?_
  refine g_X11_framing 62 dX11_line_59 rfl fl_X11_31 ?_
  refine g_X1_rules 65 dX11_line_62 rfl fl_X11_90 ?_
  refine s_V1v 68 dX11_line_65 rfl km_X7_reset ml_X11_109 ds_X7_reset (Nat.le_of_ble_eq_true rfl) (q_rec (by assumption)) rfl (q_sreset (ch := x.2.2.length) (tl := fun c => x.2.2.getD c 0) h.pa.ns h.sh.fr.2.1 (by omega) hru3.2.2.2.2.2 hc4 (fun c hc => by rw [f5 _ (by omega), f4 c (by omega)]; exact q6 c hc) (fun N4 R4 f6 f7 hs => ?_))
  refine ⟨rfl, ?_⟩
  refine s_aload_n 69 dX11_line_68 rfl rfl ?_
  refine s_iconst 70 dX11_line_69 rfl ?_
  refine p_X11_hasLine 73 dX11_line_70 rfl fl_X11_112 ?_
  refine s_aload_n 74 dX11_line_73 rfl rfl ?_
  refine s_iconst 75 dX11_line_74 rfl ?_
  refine p_X11_hasImage 78 dX11_line_75 rfl fl_X11_116 ?_
  refine s_aload_n 79 dX11_line_78 rfl rfl ?_
  refine g_X11_framing 82 dX11_line_79 rfl fl_X11_31 ?_
  refine g_X1_rules 85 dX11_line_82 rfl fl_X11_90 ?_
  refine g_X6_ports 88 dX11_line_85 rfl fl_X11_119 (fun hr85 => ?_)
  rw [up_in]
  generalize hN5 : up N4 q (up (up (N4 q) 11 1) 12 0) = N5
  have f8 : ∀ y, y ≠ q → N5 y = N4 y := fun y hy => by rw [← hN5, up_n hy]
  have e11 : N5 q 11 = 1 := by rw [← hN5, up_s, up_n (by decide), up_s]
  have e12 : N5 q 12 = 0 := by rw [← hN5, up_s, up_s]
  have e0 : ∀ y, y ≠ q → (y < nw ∨ nw + 76 ≤ y) → N5 y = N3 y := fun y hy1 hy2 => by rw [f8 y hy1, f6 y hy2]
  have hru5 : RuP N5 (q + 11 + 1) (ruP x) := by
    obtain ⟨a1, a2, a3, a4, a5, a6⟩ := hru3
    have e1 := e0 (q + 11 + 1) (by omega) (by omega)
    have e2 := e0 (q + 11 + 1 + 1) (by omega) (by omega)
    exact ⟨by rw [e1]; exact a1, by rw [e2]; exact a2, by rw [e2]; exact a3, by rw [e1]; exact a4, by rw [e1]; exact a5, by rw [e1]; exact a6⟩
  rw [hru5.2.2.2.2.2]
  refine s_ireturn rfl dX11_line_88 ?_
  have hch : chOf 1 (ruP x) = x.2.2.length := rfl
  have hb0 : 0 ≤ b := by have := hw.2.2.2.1 0 (by decide); omega
  have htl : ∀ c, c < x.2.2.length → 1 ≤ x.2.2.getD c 0 ∧ x.2.2.getD c 0 ≤ 8 := fun c hc => p2.2.2.2.2.2.2.1 _ (getD_mem hc)
  have hwf : WfSy b (([] : List Int), bx, ([] : List Int), rf, 1, ruP x, (fun c => x.2.2.getD c 0), st0 (fun c => x.2.2.getD c 0), ([] : List ST), (none : Option ST)) := ⟨⟨by show 0 ≤ 300; omega, byt_nil⟩, hw.2.1, ⟨by show 0 ≤ 120; omega, byt_nil⟩, hw.2.2.2.1, Or.inr rfl, ⟨p2.2.1, p2.2.2.1⟩, fun e => absurd e (by decide), by show 0 ≤ 12; omega, fun _ => ⟨⟨p2.1, p2.2.1, p2.2.2.1, p2.2.2.2.1, p2.2.2.2.2.1, by show 1 ≤ ((x.2.2.length : Nat) : Int) ∧ ((x.2.2.length : Nat) : Int) ≤ 4; omega⟩, fun c hc => htl c hc, ⟨st0_wf hb0 htl, fun c hc => Int.le_refl _⟩, fun y hy => absurd hy List.not_mem_nil, fun y hy => by cases hy⟩⟩
  refine hp _ ⟨nw, nx, h.sh, by rw [f7 _ (by omega)]; exact r2, by rw [f7 _ (by omega)]; exact r7, by rw [f7 _ (by omega)]; exact r9, fun k hk => ?_, e11, e12, hru5.2.1, hru5.2.2.1, fun _ => hru5, ⟨by rw [hch]; exact hc4, h.pa.now, h.pa.lo, h.pa.ns, hs.ag hc4 (fun y _ _ => f8 y (by omega)) (fun _ _ _ => rfl), by rw [e0 _ (by omega) (by omega)]; exact e23.1, Nat.zero_le _, h.pa.hnx, by rw [e0 _ (by omega) (by omega)]; exact e23.2, fun k hk => absurd hk (Nat.not_lt_zero k), h.pa.own, h.pa.ap⟩, fun y hy => (by cases hy), h.ro⟩ hwf
  rw [e0 _ (by omega) (by omega), f5 _ (by omega), f3 _ (by omega), f1 _ (by omega)]
  exact h.rf' k hk
theorem u_framesThere {nw : Nat} {w : List Int} (t0 : T q = 12) (t8 : T (q + 21) = 11) (v0 : T nw = 8) (v1 : T (nw + 1) = 100 + 600) (v4 : P q 10 = some nw) (hR : R (nw + 1) = w) (hb : byt w) (hlen : w.length ≤ 600) (hp : ∀ N', frO (q + 21) (q + 22) N N' → post (some (vi (frs w).length)) (T, N', R, P, S, cn, un)) : Cm G (AP G F) yX11_framesThere cX11_framesThere 3 (some .int) (d + 3) [.ref q] (T, N, R, P, S, cn, un) post := by
  refine Cm_intro (L := [some (.ref q), none, none]) (by decide +kernel) (Nat.le_of_ble_eq_true rfl) rfl ?_
  have key : ∀ (m pos k : Nat) (N1 : Nat → Nat → Int), w.length + 1 ≤ m + pos → 2 * k ≤ pos → pos ≤ w.length → frO (q + 21) (q + 22) N N1 → N1 (q + 21) 2 = pos → (frs w).length = k + (frN w pos).length → V G (AP G F) yX11_framesThere cX11_framesThere 3 (some .int) (d + 3) (T, N1, R, P, S, cn, un) 11 [some (.ref q), some (vi (k : Int)), some (vi (k : Int))] [] post := by
    intro m
    induction m with
    | zero => intro pos k N1 h1 h2 h3; omega
    | succ m ih =>
      intro pos k N1 h1 h2 h3 f1 e1 hfr
      refine s_iload_n 12 dX11_framesThere_11 rfl rfl ?_
      refine s_sipush 15 dX11_framesThere_12 rfl (k := ?_)
      refine s_icmp_ge 18 44 dX11_framesThere_15 rfl rfl (fun g => ?_) (fun g => ?_)
      · omega
      refine s_aload_n 19 dX11_framesThere_18 rfl rfl ?_
      refine g_X11_walk 22 dX11_framesThere_19 rfl fl_X11_38 ?_
      refine s_aload_n 23 dX11_framesThere_22 rfl rfl ?_
      refine u_now 26 dX11_framesThere_23 rfl fl_X11_70 ?_
      refine g_X7_wire 29 dX11_framesThere_26 rfl fl_X11_142 ?_
      refine s_V1b 32 dX11_framesThere_29 rfl km_X10_step ml_X11_164 ds_X10_step (Nat.le_of_ble_eq_true rfl) (q_rec (by assumption)) rfl (q_step t8 v1 hR hb (by omega) e1 h3 (fun N2 b' k' f2 a1 a2 a3 a4 a5 a6 => ?_) (fun N2 f2 a1 a2 => ?_))
      refine ⟨_, rfl, ?_⟩
      · refine s_if_eqb 35 44 dX11_framesThere_32 rfl rfl (fun g2 => ?_) (fun g2 => ?_)
        · exact absurd g2 (by decide)
        refine s_iinc 38 dX11_framesThere_35 rfl rfl (Nat.le_of_ble_eq_true rfl) rfl ?_
        refine s_iinc 41 dX11_framesThere_38 rfl rfl (Nat.le_of_ble_eq_true rfl) rfl ?_
        refine s_goto 11 dX11_framesThere_41 rfl ?_
        have hb' : pos ≤ b' := frN_ge a1
        exact ih (k' + 1) (k + 1) N2 (by omega) (by omega) (by omega) (f1.trans f2 (by omega)) a6 (by rw [hfr, a1, List.length_cons]; omega)
      · refine ⟨_, rfl, ?_⟩
        refine s_if_eqb 35 44 dX11_framesThere_32 rfl rfl (fun g2 => ?_) (fun g2 => ?_)
        rotate_left
        · exact absurd g2 (by decide)
        refine s_iload_n 45 dX11_framesThere_44 rfl rfl ?_
        refine s_ireturn rfl dX11_framesThere_45 ?_
        have := hp N2 (f1.trans f2 (by omega))
        rw [hfr, a1] at this
        exact this
  refine s_iconst 1 dX11_framesThere_0 rfl ?_
  refine s_istore_n 2 dX11_framesThere_1 rfl (Nat.le_of_ble_eq_true rfl) rfl ?_
  refine s_aload_n 3 dX11_framesThere_2 rfl rfl ?_
  refine g_X11_walk 6 dX11_framesThere_3 rfl fl_X11_38 ?_
  refine s_V0v 9 dX11_framesThere_6 rfl km_X10_begin ml_X11_161 ds_X10_begin (Nat.le_of_ble_eq_true rfl) (q_rec (by assumption)) rfl (q_begin t8 (fun N1 f1 e1 => ?_))
  refine ⟨rfl, ?_⟩
  refine s_iconst 10 dX11_framesThere_9 rfl ?_
  refine s_istore_n 11 dX11_framesThere_10 rfl (Nat.le_of_ble_eq_true rfl) rfl ?_
  exact key (w.length + 1) 0 0 N1 (by omega) (by omega) (by omega) f1 e1 (by rw [frs_N]; omega)
theorem u_longestFrame {nw : Nat} {w : List Int} (t0 : T q = 12) (t8 : T (q + 21) = 11) (v0 : T nw = 8) (v1 : T (nw + 1) = 100 + 600) (v4 : P q 10 = some nw) (hR : R (nw + 1) = w) (hb : byt w) (hlen : w.length ≤ 600) (hp : ∀ N', frO (q + 21) (q + 22) N N' → post (some (vi (lonF (frs w)))) (T, N', R, P, S, cn, un)) : Cm G (AP G F) yX11_longestFrame cX11_longestFrame 3 (some .int) (d + 3) [.ref q] (T, N, R, P, S, cn, un) post := by
  refine Cm_intro (L := [some (.ref q), none, none]) (by decide +kernel) (Nat.le_of_ble_eq_true rfl) rfl ?_
  have key : ∀ (m pos k : Nat) (ac : Int) (N1 : Nat → Nat → Int), w.length + 1 ≤ m + pos → 2 * k ≤ pos → pos ≤ w.length → (0 ≤ ac ∧ ac ≤ 600) → frO (q + 21) (q + 22) N N1 → N1 (q + 21) 2 = pos → lonF (frs w) = (frN w pos).foldl (fun n q => max n ((q.2 : Int) - q.1)) ac → V G (AP G F) yX11_longestFrame cX11_longestFrame 3 (some .int) (d + 3) (T, N1, R, P, S, cn, un) 11 [some (.ref q), some (vi ac), some (vi (k : Int))] [] post := by
    intro m
    induction m with
    | zero => intro pos k ac N1 h1 h2 h3; omega
    | succ m ih =>
      intro pos k ac N1 h1 h2 h3 hac f1 e1 hfr
      refine s_iload_n 12 dX11_longestFrame_11 rfl rfl ?_
      refine s_sipush 15 dX11_longestFrame_12 rfl (k := ?_)
      refine s_icmp_ge 18 53 dX11_longestFrame_15 rfl rfl (fun g => ?_) (fun g => ?_)
      · omega
      refine s_aload_n 19 dX11_longestFrame_18 rfl rfl ?_
      refine g_X11_walk 22 dX11_longestFrame_19 rfl fl_X11_38 ?_
      refine s_aload_n 23 dX11_longestFrame_22 rfl rfl ?_
      refine u_now 26 dX11_longestFrame_23 rfl fl_X11_70 ?_
      refine g_X7_wire 29 dX11_longestFrame_26 rfl fl_X11_142 ?_
      refine s_V1b 32 dX11_longestFrame_29 rfl km_X10_step ml_X11_164 ds_X10_step (Nat.le_of_ble_eq_true rfl) (q_rec (by assumption)) rfl (q_step t8 v1 hR hb (by omega) e1 h3 (fun N2 b' k' f2 a1 a2 a3 a4 a5 a6 => ?_) (fun N2 f2 a1 a2 => ?_))
      refine ⟨_, rfl, ?_⟩
      · refine s_if_eqb 35 53 dX11_longestFrame_32 rfl rfl (fun g2 => ?_) (fun g2 => ?_)
        · exact absurd g2 (by decide)
        refine s_iload_n 36 dX11_longestFrame_35 rfl rfl ?_
        refine s_aload_n 37 dX11_longestFrame_36 rfl rfl ?_
        refine g_X11_walk 40 dX11_longestFrame_37 rfl fl_X11_38 ?_
        refine g_X10_length 43 dX11_longestFrame_40 rfl fl_X11_312 (fun hr40 => ?_)
        rw [a5]
        refine s_max (q := 46) (hd := dX11_longestFrame_43) (hq := rfl) (hw := ml_X11_372) (hrest := Nat.le_of_ble_eq_true rfl) (k := ?_)
        refine s_istore_n 47 dX11_longestFrame_46 rfl (Nat.le_of_ble_eq_true rfl) rfl ?_
        refine s_iinc 50 dX11_longestFrame_47 rfl rfl (Nat.le_of_ble_eq_true rfl) rfl ?_
        refine s_goto 11 dX11_longestFrame_50 rfl ?_
        have hb' : pos ≤ b' := frN_ge a1
        exact ih (k' + 1) (k + 1) (max ac ((k' : Int) - b')) N2 (by omega) (by omega) (by omega) (by omega) (f1.trans f2 (by omega)) a6 (by rw [hfr, a1]; rfl)
      · refine ⟨_, rfl, ?_⟩
        refine s_if_eqb 35 53 dX11_longestFrame_32 rfl rfl (fun g2 => ?_) (fun g2 => ?_)
        rotate_left
        · exact absurd g2 (by decide)
        refine s_iload_n 54 dX11_longestFrame_53 rfl rfl ?_
        refine s_ireturn rfl dX11_longestFrame_54 ?_
        have := hp N2 (f1.trans f2 (by omega))
        rw [hfr, a1] at this
        exact this
  refine s_iconst 1 dX11_longestFrame_0 rfl ?_
  refine s_istore_n 2 dX11_longestFrame_1 rfl (Nat.le_of_ble_eq_true rfl) rfl ?_
  refine s_aload_n 3 dX11_longestFrame_2 rfl rfl ?_
  refine g_X11_walk 6 dX11_longestFrame_3 rfl fl_X11_38 ?_
  refine s_V0v 9 dX11_longestFrame_6 rfl km_X10_begin ml_X11_161 ds_X10_begin (Nat.le_of_ble_eq_true rfl) (q_rec (by assumption)) rfl (q_begin t8 (fun N1 f1 e1 => ?_))
  refine ⟨rfl, ?_⟩
  refine s_iconst 10 dX11_longestFrame_9 rfl ?_
  refine s_istore_n 11 dX11_longestFrame_10 rfl (Nat.le_of_ble_eq_true rfl) rfl ?_
  exact key (w.length + 1) 0 0 0 N1 (by omega) (by omega) (by omega) (by omega) f1 e1 (by rw [frs_N]; rfl)
theorem u_rule {z : Int} (hz : rg z) (hm : RepP q c0 u0 (T, N, R, P, S, cn, un) Y) (hw : WfSy b Y) (hp : ∀ a', RepP q c0 u0 a' Y → post (some (vi (aRule Y z))) a') : Cm G (AP G F) yX11_rule cX11_rule 3 (some .int) (d + 4) [.ref q, vi z] (T, N, R, P, S, cn, un) post := by
  obtain ⟨tp, bx, hd, rf, il, ru, tl, s, ps, im⟩ := Y
  obtain ⟨nw, nx, h⟩ := hm
  obtain ⟨⟨t0, t1, t2, t3, t4⟩, ⟨t5, t6, t7, t8, t9, t10⟩, ⟨t11, t12, t13, t14⟩, v0, v1, v2, v3, v4, v5⟩ := h.cx
  obtain ⟨-, -, -, -, wil, -, w0, -, w1⟩ := hw
  refine Cm_intro (L := [some (.ref q), some (vi z), none]) (by decide +kernel) (Nat.le_of_ble_eq_true rfl) rfl ?_
  refine s_aload_n 1 dX11_rule_0 rfl rfl ?_
  refine g_X11_hasLine 4 dX11_rule_1 rfl fl_X11_112 (fun hr1 => ?_)
  rw [h.il']
  rcases wil with rfl | rfl
  · refine s_if_ne 7 10 dX11_rule_4 rfl rfl (fun g => ?_) (fun g => ?_)
    · exact absurd rfl g
    refine s_ldc (-1000000) 9 dX11_rule_7 rfl kc_X11_122 rfl ?_
    refine s_ireturn rfl dX11_rule_9 ?_
    exact hp _ h.out
  obtain ⟨wr, wtl, ⟨ws, wtc⟩, wps, wim⟩ := w1 rfl
  obtain ⟨u0', u1, u2, u3, u4, u5⟩ := h.ru' rfl
  obtain ⟨n1, n2, n3, n4, n5⟩ := h.pa.nr
  have eo : aRule (tp, bx, hd, rf, 1, ru, tl, s, ps, im) z = if z = 0 then ru 0 else if z = 1 then ru 1 else if z = 2 then ru 2 else if z = 3 then ru 3 else if z = 4 then ru 4 else if z = 5 then ru 5 else if z = 6 then (s.1.length : Int) else if z = 7 then ((frs s.1).length : Int) else if z = 8 then (s.2.1.length : Int) else if z = 9 then s.2.2.1 2 else if z = 10 then s.2.2.1 1 else if z = 11 then mstF (ru 1) (1 + ru 4 + ckl (ru 3)) + 1 else -1000000 := rfl
  rw [eo] at hp
  have hp0 := hp _ (h.out (S := S))
  refine s_if_ne 7 10 dX11_rule_4 rfl rfl (fun g => ?_) (fun g => ?_)
  rotate_left
  · exact absurd (show (1 : Int) = 0 by omega) (by decide)
  refine s_aload_n 11 dX11_rule_10 rfl rfl ?_
  refine g_X11_framing 14 dX11_rule_11 rfl fl_X11_31 ?_
  refine g_X1_rules 17 dX11_rule_14 rfl fl_X11_90 ?_
  refine s_astore_n 18 dX11_rule_17 rfl (Nat.le_of_ble_eq_true rfl) rfl ?_
  refine s_iload_n 19 dX11_rule_18 rfl rfl ?_
  refine s_tabL [80, 85, 93, 101, 106, 111, 116, 127, 132, 143, 151, 159] 168 dX11_rule_19 rfl rfl rfl (by decide) ⟨fun hc => ?_, fun hc => ?_, fun hc => ?_, fun hc => ?_, fun hc => ?_, fun hc => ?_, fun hc => ?_, fun hc => ?_, fun hc => ?_, fun hc => ?_, fun hc => ?_, fun hc => ?_, trivial⟩ (fun hc => ?_)
  · refine s_aload_n 81 dX11_rule_80 rfl rfl ?_
    refine g_X6_way 84 dX11_rule_81 rfl fl_X11_123 (fun hr81 => ?_)
    refine s_ireturn rfl dX11_rule_84 ?_
    rw [u0']
    rw [if_pos (by omega)] at hp0
    exact hp0
  · refine s_aload_n 86 dX11_rule_85 rfl rfl ?_
    refine g_X6_stuffing 89 dX11_rule_86 rfl fl_X11_126 ?_
    refine g_X8_longest 92 dX11_rule_89 rfl fl_X11_130 (fun hr89 => ?_)
    refine s_ireturn rfl dX11_rule_92 ?_
    rw [u1]
    rw [if_neg (by omega), if_pos (by omega)] at hp0
    exact hp0
  · refine s_aload_n 94 dX11_rule_93 rfl rfl ?_
    refine g_X6_stuffing 97 dX11_rule_94 rfl fl_X11_126 ?_
    refine g_X8_pairs 100 dX11_rule_97 rfl fl_X11_135 (fun hr97 => ?_)
    refine s_ireturn rfl dX11_rule_100 ?_
    rw [u2]
    rw [if_neg (by omega), if_neg (by omega), if_pos (by omega)] at hp0
    exact hp0
  · refine s_aload_n 102 dX11_rule_101 rfl rfl ?_
    refine g_X6_check 105 dX11_rule_102 rfl fl_X11_138 (fun hr102 => ?_)
    refine s_ireturn rfl dX11_rule_105 ?_
    rw [u3]
    rw [if_neg (by omega), if_neg (by omega), if_neg (by omega), if_pos (by omega)] at hp0
    exact hp0
  · refine s_aload_n 107 dX11_rule_106 rfl rfl ?_
    refine g_X6_size 110 dX11_rule_107 rfl fl_X11_141 (fun hr107 => ?_)
    refine s_ireturn rfl dX11_rule_110 ?_
    rw [u4]
    rw [if_neg (by omega), if_neg (by omega), if_neg (by omega), if_neg (by omega), if_pos (by omega)] at hp0
    exact hp0
  · refine s_aload_n 112 dX11_rule_111 rfl rfl ?_
    refine g_X6_ports 115 dX11_rule_112 rfl fl_X11_119 (fun hr112 => ?_)
    refine s_ireturn rfl dX11_rule_115 ?_
    rw [u5]
    rw [if_neg (by omega), if_neg (by omega), if_neg (by omega), if_neg (by omega), if_neg (by omega), if_pos (by omega)] at hp0
    exact hp0
  · refine s_aload_n 117 dX11_rule_116 rfl rfl ?_
    refine u_now 120 dX11_rule_117 rfl fl_X11_70 ?_
    refine g_X7_wire 123 dX11_rule_120 rfl fl_X11_142 ?_
    refine g_X5_size 126 dX11_rule_123 rfl fl_X11_76 ?_
    refine s_ireturn rfl dX11_rule_126 ?_
    rw [n1]
    rw [if_neg (by omega), if_neg (by omega), if_neg (by omega), if_neg (by omega), if_neg (by omega), if_neg (by omega), if_pos (by omega)] at hp0
    exact hp0
  · refine s_aload_n 128 dX11_rule_127 rfl rfl ?_
    refine s_V0i 131 dX11_rule_128 rfl km_X11_framesThere ml_X11_145 ds_X11_framesThere (Nat.le_of_ble_eq_true rfl) (q_rec (by assumption)) rfl (u_framesThere t0 t8 v0 v1 v4 n1 ws.2.1 ws.1 (fun N2 f2 => ?_))
    refine ⟨_, rfl, ?_⟩
    refine s_ireturn rfl dX11_rule_131 ?_
    have hp1 := hp _ (RepQ.out (S := S) (h.scr (N' := N2) (R' := R) (fun y hy => f2 y (by omega)) (fun _ _ => rfl)))
    rw [if_neg (by omega), if_neg (by omega), if_neg (by omega), if_neg (by omega), if_neg (by omega), if_neg (by omega), if_neg (by omega), if_pos (by omega)] at hp1
    exact hp1
  · refine s_aload_n 133 dX11_rule_132 rfl rfl ?_
    refine u_now 136 dX11_rule_133 rfl fl_X11_70 ?_
    refine g_X7_reader 139 dX11_rule_136 rfl fl_X11_148 ?_
    refine g_X5_size 142 dX11_rule_139 rfl fl_X11_76 ?_
    refine s_ireturn rfl dX11_rule_142 ?_
    rw [n2]
    rw [if_neg (by omega), if_neg (by omega), if_neg (by omega), if_neg (by omega), if_neg (by omega), if_neg (by omega), if_neg (by omega), if_neg (by omega), if_pos (by omega)] at hp0
    exact hp0
  · refine s_aload_n 144 dX11_rule_143 rfl rfl ?_
    refine u_now 147 dX11_rule_144 rfl fl_X11_70 ?_
    refine g_X7_came 150 dX11_rule_147 rfl fl_X11_151 (fun hr147 => ?_)
    refine s_ireturn rfl dX11_rule_150 ?_
    rw [n4.1]
    rw [if_neg (by omega), if_neg (by omega), if_neg (by omega), if_neg (by omega), if_neg (by omega), if_neg (by omega), if_neg (by omega), if_neg (by omega), if_neg (by omega), if_pos (by omega)] at hp0
    exact hp0
  · refine s_aload_n 152 dX11_rule_151 rfl rfl ?_
    refine u_now 155 dX11_rule_152 rfl fl_X11_70 ?_
    refine g_X7_picked 158 dX11_rule_155 rfl fl_X11_154 (fun hr155 => ?_)
    refine s_ireturn rfl dX11_rule_158 ?_
    rw [n4.2.1]
    rw [if_neg (by omega), if_neg (by omega), if_neg (by omega), if_neg (by omega), if_neg (by omega), if_neg (by omega), if_neg (by omega), if_neg (by omega), if_neg (by omega), if_neg (by omega), if_pos (by omega)] at hp0
    exact hp0
  · refine s_aload_n 160 dX11_rule_159 rfl rfl ?_
    refine s_aload_n 161 dX11_rule_160 rfl rfl ?_
    refine g_X6_size 164 dX11_rule_161 rfl fl_X11_141 (fun hr161 => ?_)
    rw [u4]
    have hr4 := wr.2.2.2.2.1
    refine s_V1i 167 dX11_rule_164 rfl km_X6_widestFrame ml_X11_157 ds_X6_widestFrame (Nat.le_of_ble_eq_true rfl) (q_rec (by assumption)) rfl (q_widestFrame (d := d + 1) h.sh.fr.2.1 (h.ru' rfl) (by have := wr.2.1; omega) (by omega) ?_)
    refine ⟨_, rfl, ?_⟩
    refine s_ireturn rfl dX11_rule_167 ?_
    rw [if_neg (by omega), if_neg (by omega), if_neg (by omega), if_neg (by omega), if_neg (by omega), if_neg (by omega), if_neg (by omega), if_neg (by omega), if_neg (by omega), if_neg (by omega), if_neg (by omega), if_pos (by omega)] at hp0
    exact hp0
  · refine s_ldc (-1000000) 170 dX11_rule_168 rfl kc_X11_122 rfl ?_
    refine s_ireturn rfl dX11_rule_170 ?_
    rw [if_neg (by omega), if_neg (by omega), if_neg (by omega), if_neg (by omega), if_neg (by omega), if_neg (by omega), if_neg (by omega), if_neg (by omega), if_neg (by omega), if_neg (by omega), if_neg (by omega), if_neg (by omega)] at hp0
    exact hp0
theorem u_most {z : Int} (hz : rg z) (hm : RepP q c0 u0 (T, N, R, P, S, cn, un) Y) (hw : WfSy b Y) (hb : b ≤ 80000000) (hp : ∀ a', RepP q c0 u0 a' Y → post (some (vi (aMost Y z))) a') : Cm G (AP G F) yX11_most cX11_most 2 (some .int) (d + 4) [.ref q, vi z] (T, N, R, P, S, cn, un) post := by
  obtain ⟨tp, bx, hd, rf, il, ru, tl, s, ps, im⟩ := Y
  obtain ⟨nw, nx, h⟩ := hm
  obtain ⟨⟨t0, t1, t2, t3, t4⟩, ⟨t5, t6, t7, t8, t9, t10⟩, ⟨t11, t12, t13, t14⟩, v0, v1, v2, v3, v4, v5⟩ := h.cx
  obtain ⟨-, -, -, -, wil, -, w0, -, w1⟩ := hw
  refine Cm_intro (L := [some (.ref q), some (vi z)]) (by decide +kernel) (Nat.le_of_ble_eq_true rfl) rfl ?_
  refine s_aload_n 1 dX11_most_0 rfl rfl ?_
  refine g_X11_hasLine 4 dX11_most_1 rfl fl_X11_112 (fun hr1 => ?_)
  rw [h.il']
  rcases wil with rfl | rfl
  · refine s_if_ne 7 10 dX11_most_4 rfl rfl (fun g => ?_) (fun g => ?_)
    · exact absurd rfl g
    refine s_ldc (-1000000) 9 dX11_most_7 rfl kc_X11_122 rfl ?_
    refine s_ireturn rfl dX11_most_9 ?_
    exact hp _ h.out
  obtain ⟨wr, wtl, ⟨ws, wtc⟩, wps, wim⟩ := w1 rfl
  have w5 := wr.2.2.2.2.2
  have n1 := h.pa.nr.1
  have eo : aMost (tp, bx, hd, rf, 1, ru, tl, s, ps, im) z = if z = 0 then ((mostL (fun c => (s.2.2.2.2 c).1 4) (ru 5).toNat : Nat) : Int) else if z = 1 then pickF s (ru 5).toNat else if z = 2 then badF s.2.2.2.1 else if z = 3 then lonF (frs s.1) else if z = 4 then sumC (fun c => waiB (s.2.2.2.2 c).2.1 - (s.2.2.2.2 c).1 1) (ru 5).toNat else if z = 5 then greF s.1 else -1000000 := rfl
  rw [eo] at hp
  have hp0 := hp _ (h.out (S := S))
  refine s_if_ne 7 10 dX11_most_4 rfl rfl (fun g => ?_) (fun g => ?_)
  rotate_left
  · exact absurd (show (1 : Int) = 0 by omega) (by decide)
  refine s_iload_n 11 dX11_most_10 rfl rfl ?_
  refine s_tabL [48, 56, 64, 72, 77, 85] 96 dX11_most_11 rfl rfl rfl (by decide) ⟨fun hc => ?_, fun hc => ?_, fun hc => ?_, fun hc => ?_, fun hc => ?_, fun hc => ?_, trivial⟩ (fun hc => ?_)
  · refine s_aload_n 49 dX11_most_48 rfl rfl ?_
    refine u_now 52 dX11_most_49 rfl fl_X11_70 ?_
    refine s_V0i 55 dX11_most_52 rfl km_X7_portWithMostLost ml_X11_354 ds_X7_portWithMostLost (Nat.le_of_ble_eq_true rfl) (q_rec (by assumption)) rfl (q_mostLost h.pa.ns h.pa.nr ws (by omega) (by have : chOf 1 ru = (ru 5).toNat := rfl; omega) ?_)
    refine ⟨_, rfl, ?_⟩
    refine s_ireturn rfl dX11_most_55 ?_
    rw [if_pos (by omega)] at hp0
    exact hp0
  · refine s_aload_n 57 dX11_most_56 rfl rfl ?_
    refine u_now 60 dX11_most_57 rfl fl_X11_70 ?_
    refine s_V0i 63 dX11_most_60 rfl km_X7_pick ml_X11_357 ds_X7_pick (Nat.le_of_ble_eq_true rfl) (q_rec (by assumption)) rfl (q_pick h.pa.ns h.pa.nr ws (by have : chOf 1 ru = (ru 5).toNat := rfl; omega) ?_)
    refine ⟨_, rfl, ?_⟩
    refine s_ireturn rfl dX11_most_63 ?_
    rw [if_neg (by omega), if_pos (by omega)] at hp0
    exact hp0
  · refine s_aload_n 65 dX11_most_64 rfl rfl ?_
    refine u_now 68 dX11_most_65 rfl fl_X11_70 ?_
    refine s_V0i 71 dX11_most_68 rfl km_X7_eventsUnreadable ml_X11_360 ds_X7_eventsUnreadable (Nat.le_of_ble_eq_true rfl) (q_rec (by assumption)) rfl (q_unreadable h.pa.ns h.pa.nr ws ?_)
    refine ⟨_, rfl, ?_⟩
    refine s_ireturn rfl dX11_most_71 ?_
    rw [if_neg (by omega), if_neg (by omega), if_pos (by omega)] at hp0
    exact hp0
  · refine s_aload_n 73 dX11_most_72 rfl rfl ?_
    refine s_V0i 76 dX11_most_73 rfl km_X11_longestFrame ml_X11_363 ds_X11_longestFrame (Nat.le_of_ble_eq_true rfl) (q_rec (by assumption)) rfl (u_longestFrame t0 t8 v0 v1 v4 n1 ws.2.1 ws.1 (fun N2 f2 => ?_))
    refine ⟨_, rfl, ?_⟩
    refine s_ireturn rfl dX11_most_76 ?_
    have hp1 := hp _ (RepQ.out (S := S) (h.scr (N' := N2) (R' := R) (fun y hy => f2 y (by omega)) (fun _ _ => rfl)))
    rw [if_neg (by omega), if_neg (by omega), if_neg (by omega), if_pos (by omega)] at hp1
    exact hp1
  · refine s_aload_n 78 dX11_most_77 rfl rfl ?_
    refine u_now 81 dX11_most_78 rfl fl_X11_70 ?_
    refine s_V0i 84 dX11_most_81 rfl km_X7_bytesWaiting ml_X11_366 ds_X7_bytesWaiting (Nat.le_of_ble_eq_true rfl) (q_rec (by assumption)) rfl (q_bytesWaiting h.pa.ns h.pa.nr h.pa.c4 ?_)
    refine ⟨_, rfl, ?_⟩
    refine s_ireturn rfl dX11_most_84 ?_
    rw [if_neg (by omega), if_neg (by omega), if_neg (by omega), if_neg (by omega), if_pos (by omega)] at hp0
    exact hp0
  · refine s_aload_n 86 dX11_most_85 rfl rfl ?_
    refine u_now 89 dX11_most_86 rfl fl_X11_70 ?_
    refine g_X7_wire 92 dX11_most_89 rfl fl_X11_142 ?_
    refine s_V0i 95 dX11_most_92 rfl km_X5_greatest ml_X11_369 ds_X5_greatest (Nat.le_of_ble_eq_true rfl) (q_recR (by assumption)) rfl (r_greatest v1 (by rw [n1]; exact ws.2.1) ?_)
    refine ⟨_, rfl, ?_⟩
    refine s_ireturn rfl dX11_most_95 ?_
    rw [n1]
    rw [if_neg (by omega), if_neg (by omega), if_neg (by omega), if_neg (by omega), if_neg (by omega), if_pos (by omega)] at hp0
    exact hp0
  · refine s_ldc (-1000000) 98 dX11_most_96 rfl kc_X11_122 rfl ?_
    refine s_ireturn rfl dX11_most_98 ?_
    rw [if_neg (by omega), if_neg (by omega), if_neg (by omega), if_neg (by omega), if_neg (by omega), if_neg (by omega)] at hp0
    exact hp0
end U7
