section U9
variable {G : GT} {F : HS} {d : Nat} {T : Nat → Nat} {N : Nat → Nat → Int} {R : Nat → List Int} {P : Nat → Nat → Option Nat} {S : Nat → Int64} {cn un : Nat} {post : Option Value → PT → Prop} {q c0 u0 : Nat} {Y : SY} {b : Int}
theorem u_harm {z v : Int} (hz : rg z) (hv : rg v) (hm : RepP q c0 u0 (T, N, R, P, S, cn, un) Y) (hw : WfSy b Y) (hb : b ≤ 80000000) (hp : ∀ a', RepP q c0 u0 a' Y → post (some (vi (aHarm Y.2.2.2.2.1 Y.2.2.2.2.2.1 Y.2.2.2.2.2.2.2.1 z v))) a') : Cm G (AP G F) yX11_harm cX11_harm 4 (some .int) (d + 7) [.ref q, vi z, vi v] (T, N, R, P, S, cn, un) post := by
  obtain ⟨tp, bx, hd, rf, il, ru, tl, s, ps, im⟩ := Y
  obtain ⟨nw, nx, h⟩ := hm
  have hp : ∀ a', RepP q c0 u0 a' (tp, bx, hd, rf, il, ru, tl, s, ps, im) → post (some (vi (aHarm il ru s z v))) a' := hp
  obtain ⟨⟨t0, t1, t2, t3, t4⟩, ⟨t5, t6, t7, t8, t9, t10⟩, ⟨t11, t12, t13, t14⟩, v0, v1, v2, v3, v4, v5⟩ := h.cx
  obtain ⟨-, -, -, -, wil, -, w0, -, w1⟩ := hw
  have hS1 : R (nw + 1) = s.1 := h.pa.nr.1
  have no : ¬ (il = 1 ∧ (0 ≤ z ∧ z < s.1.length) ∧ (1 ≤ v ∧ v ≤ 255)) → V G (AP G F) yX11_harm cX11_harm 4 (some .int) (d + 7) (T, N, R, P, S, cn, un) 28 [some (.ref q), some (vi z), some (vi v), none] [] post := fun hn => by
    refine s_ldc (-1000000) 30 dX11_harm_28 rfl kc_X11_122 rfl ?_
    refine s_ireturn rfl dX11_harm_30 ?_
    rw [show aHarm il ru s z v = -1000000 from if_neg hn] at hp
    exact hp _ h.out
  refine Cm_intro (L := [some (.ref q), some (vi z), some (vi v), none]) (by decide +kernel) (Nat.le_of_ble_eq_true rfl) rfl ?_
  refine s_aload_n 1 dX11_harm_0 rfl rfl ?_
  refine g_X11_hasLine 4 dX11_harm_1 rfl fl_X11_112 (fun hr1 => ?_)
  rw [h.il']
  refine s_if_eq 7 28 dX11_harm_4 rfl rfl (fun g1 => ?_) (fun g1 => ?_)
  · exact no (by omega)
  have hil : il = 1 := by omega
  refine s_aload_n 8 dX11_harm_7 rfl rfl ?_
  refine u_now 11 dX11_harm_8 rfl fl_X11_70 ?_
  refine g_X7_wire 14 dX11_harm_11 rfl fl_X11_142 ?_
  refine s_iload_n 15 dX11_harm_14 rfl rfl ?_
  refine s_V1b 18 dX11_harm_15 rfl km_X5_has ml_X11_204 ds_X5_has (Nat.le_of_ble_eq_true rfl) (q_recR (by assumption)) rfl (r_has v1 hz ?_)
  refine ⟨_, rfl, ?_⟩
  rw [hS1]
  refine s_if_eqb 21 28 dX11_harm_18 rfl rfl (fun g2 => ?_) (fun g2 => ?_)
  · exact no (fun hn => (of_decide_eq_false g2) hn.2.1)
  have g2 : 0 ≤ z ∧ z < s.1.length := of_decide_eq_true g2
  refine s_iload_n 22 dX11_harm_21 rfl rfl ?_
  refine s_S1b 25 dX11_harm_22 rfl km_X11_isFlip rfl ml_X11_208 ds_X11_isFlip (Nat.le_of_ble_eq_true rfl) (u_isFlip hv ?_)
  refine ⟨_, rfl, ?_⟩
  refine s_if_neb 28 31 dX11_harm_25 rfl rfl (fun g3 => ?_) (fun g3 => ?_)
  rotate_left
  · exact no (fun hn => (of_decide_eq_false g3) hn.2.2)
  have g3 : 1 ≤ v ∧ v ≤ 255 := of_decide_eq_true g3
  subst hil
  obtain ⟨wr, wtl, ⟨ws, wtc⟩, wps, wim⟩ := w1 rfl
  have h600 := ws.1
  have w5 := wr.2.2.2.2.2
  rw [show aHarm 1 ru s z v = theF (readF ru s s.1.length) (ru 5).toNat - theF (readF ru (flpL s.1 z.toNat v, s.2) s.1.length) (ru 5).toNat from if_pos ⟨rfl, g2, g3⟩] at hp
  refine s_aload_n 32 dX11_harm_31 rfl rfl ?_
  refine g_X11_spare 35 dX11_harm_32 rfl fl_X11_59 ?_
  refine s_aload_n 36 dX11_harm_35 rfl rfl ?_
  refine u_now 39 dX11_harm_36 rfl fl_X11_70 ?_
  refine s_V1v 42 dX11_harm_39 rfl km_X7_copyFrom ml_X11_322 ds_X7_copyFrom (Nat.le_of_ble_eq_true rfl) (q_rec (by assumption)) rfl (q_scopy (d := d + 1) h.sh.sp h.pa.ns (by omega) h.pa.nr ws (by omega) h.pa.c4 (fun N1 R1 f1 f2 hs1 => ?_))
  refine ⟨rfl, ?_⟩
  have hru1 : RuP N1 (q + 11 + 1) ru := (h.ru' rfl).fr f1 (by omega)
  refine s_aload_n 43 dX11_harm_42 rfl rfl ?_
  refine g_X11_spare 46 dX11_harm_43 rfl fl_X11_59 ?_
  refine s_sipush 49 dX11_harm_46 rfl (k := ?_)
  refine s_aload_n 50 dX11_harm_49 rfl rfl ?_
  refine g_X11_framing 53 dX11_harm_50 rfl fl_X11_31 ?_
  refine s_V2i 56 dX11_harm_53 rfl km_X7_readBytes ml_X11_229 ds_X7_readBytes (Nat.le_of_ble_eq_true rfl) (q_rec (by assumption)) rfl (q_readBytes (d := d) (n0 := 600) (by omega) h.sh.sp h.sh.fr (by omega) hru1 wr rfl hs1 ws (by omega) (fun N2 R2 f3 f4 hs2 => ?_))
  refine ⟨_, rfl, ?_⟩
  refine s_pop (q := 57) (hd := dX11_harm_56) (hq := rfl) (k := ?_)
  rw [Nat.min_eq_right h600] at hs2
  have hw2 := readF_wf (k := s.1.length) ws wr rfl
  refine s_aload_n 58 dX11_harm_57 rfl rfl ?_
  refine g_X11_spare 61 dX11_harm_58 rfl fl_X11_59 ?_
  refine s_V0i 64 dX11_harm_61 rfl km_X7_messagesThere ml_X11_324 ds_X7_messagesThere (Nat.le_of_ble_eq_true rfl) (q_rec (by assumption)) rfl (q_there (d := d + 5) h.sh.sp hs2 hw2 h.pa.c4 ?_)
  refine ⟨_, rfl, ?_⟩
  refine s_istore_n 65 dX11_harm_64 rfl (Nat.le_of_ble_eq_true rfl) rfl ?_
  have a1 : ∀ y, (y < q + 11 ∨ q + 12 ≤ y) → (y < q + 25 ∨ q + 101 ≤ y) → N2 y = N y := fun y x1 x2 => by rw [f3 y (by omega) (by omega), f1 y (by omega)]
  have a2 : ∀ y, (y < q + 15 ∨ q + 21 ≤ y) → (y < q + 25 ∨ q + 101 ≤ y) → R2 y = R y := fun y x1 x2 => by rw [f4 y (by omega) (by omega), f2 y (by omega)]
  have h2 := h.scr (N' := N2) (R' := R2) (fun y hy => a1 y (by omega) (by omega)) (fun y hy => a2 y (by omega) (by omega))
  refine s_aload_n 66 dX11_harm_65 rfl rfl ?_
  refine g_X11_spare 69 dX11_harm_66 rfl fl_X11_59 ?_
  refine s_aload_n 70 dX11_harm_69 rfl rfl ?_
  refine u_now 73 dX11_harm_70 rfl fl_X11_70 ?_
  refine s_V1v 76 dX11_harm_73 rfl km_X7_copyFrom ml_X11_322 ds_X7_copyFrom (Nat.le_of_ble_eq_true rfl) (q_rec (by assumption)) rfl (q_scopy (d := d + 1) h.sh.sp h.pa.ns (by omega) h2.pa.nr ws (by omega) h.pa.c4 (fun N3 R3 f5 f6 hs3 => ?_))
  refine ⟨rfl, ?_⟩
  have hby := byt_at ws.2.1 z.toNat
  have hxr := xr_rg hby (b := v) (by omega)
  have hflp := flpL_ok (i := z.toNat) (v := v) ws.2.1 (by omega)
  refine s_aload_n 77 dX11_harm_76 rfl rfl ?_
  refine g_X11_spare 80 dX11_harm_77 rfl fl_X11_59 ?_
  refine g_X7_wire 83 dX11_harm_80 rfl fl_X11_142 ?_
  refine s_iload_n 84 dX11_harm_83 rfl rfl ?_
  refine s_aload_n 85 dX11_harm_84 rfl rfl ?_
  refine u_now 88 dX11_harm_85 rfl fl_X11_70 ?_
  refine g_X7_wire 91 dX11_harm_88 rfl fl_X11_142 ?_
  refine s_iload_n 92 dX11_harm_91 rfl rfl ?_
  refine s_V1i 95 dX11_harm_92 rfl km_X5_at ml_X11_201 ds_X5_at (Nat.le_of_ble_eq_true rfl) (q_recR (by assumption)) rfl (r_atK v1 (show R3 (nw + 1) = s.1 by rw [f6 _ (by omega)]; exact h2.pa.nr.1) hz (fun _ => ?_))
  refine ⟨_, rfl, ?_⟩
  rw [show atF s.1 z = s.1.getD z.toNat 0 from if_pos g2]
  refine s_iload_n 96 dX11_harm_95 rfl rfl ?_
  refine s_ixor 97 (xr (s.1.getD z.toNat 0) v) dX11_harm_96 rfl ((xor_xr hby.1 (by omega))) ?_
  refine s_V2v 100 dX11_harm_97 rfl km_X5_set ml_X11_211 ds_X5_set (Nat.le_of_ble_eq_true rfl) (q_recR (by assumption)) rfl (r_setK t12 hs3.1 g2 hz (by unfold rg; omega) ?_)
  refine ⟨rfl, ?_⟩
  have hs4 := hs3.wire (w := flpL s.1 z.toNat v)
  have hw4 := ws.wire hflp.1 (by rw [hflp.2]; exact h600)
  have hru3 : RuP N3 (q + 11 + 1) ru := (h2.ru' rfl).fr f5 (by omega)
  refine s_aload_n 101 dX11_harm_100 rfl rfl ?_
  refine g_X11_spare 104 dX11_harm_101 rfl fl_X11_59 ?_
  refine s_sipush 107 dX11_harm_104 rfl (k := ?_)
  refine s_aload_n 108 dX11_harm_107 rfl rfl ?_
  refine g_X11_framing 111 dX11_harm_108 rfl fl_X11_31 ?_
  refine s_V2i 114 dX11_harm_111 rfl km_X7_readBytes ml_X11_229 ds_X7_readBytes (Nat.le_of_ble_eq_true rfl) (q_rec (by assumption)) rfl (q_readBytes (d := d) (n0 := 600) (by omega) h.sh.sp h.sh.fr (by omega) hru3 wr rfl hs4 hw4 (by omega) (fun N4 R4 f7 f8 hs5 => ?_))
  refine ⟨_, rfl, ?_⟩
  refine s_pop (q := 115) (hd := dX11_harm_114) (hq := rfl) (k := ?_)
  refine s_iload_n 116 dX11_harm_115 rfl rfl ?_
  refine s_aload_n 117 dX11_harm_116 rfl rfl ?_
  have hmn : min 600 (flpL s.1 z.toNat v, s.2).1.length = s.1.length := by
    show min 600 (flpL s.1 z.toNat v).length = _
    rw [hflp.2]; omega
  rw [hmn] at hs5
  have hw5 := readF_wf (k := s.1.length) hw4 wr rfl
  have r5 : ∀ (x : ST), WfSt (b + 12000) (chOf 1 ru) x → 0 ≤ theF x (ru 5).toNat ∧ theF x (ru 5).toNat ≤ 32 := fun x hx => by
    have := sumC_rg (f := fun c => ((x.2.2.2.2 c).2.2.1.length : Int)) (ch := (ru 5).toNat) (b := 8) (fun c hc => ⟨by omega, by have := (hx.2.2.2.2.2.2.2.2.2.2 c hc).2.2.2.2.2.2.2.2.2.2.1; omega⟩) (ru 5).toNat (Nat.le_refl _)
    unfold theF
    omega
  have r6 := r5 _ hw2
  have r7 := r5 _ hw5
  refine g_X11_spare 120 dX11_harm_117 rfl fl_X11_59 ?_
  refine s_V0i 123 dX11_harm_120 rfl km_X7_messagesThere ml_X11_324 ds_X7_messagesThere (Nat.le_of_ble_eq_true rfl) (q_rec (by assumption)) rfl (q_there (d := d + 5) h.sh.sp hs5 hw5 h.pa.c4 ?_)
  refine ⟨_, rfl, ?_⟩
  refine s_isub 124 dX11_harm_123 rfl ?_
  refine s_ireturn rfl dX11_harm_124 ?_
  refine hp _ (RepQ.out (h2.scr (N' := N4) (R' := R4) (fun y hy => ?_) (fun y hy => ?_)))
  · rw [f7 y (by omega) (by omega), f5 y (by omega)]
  · rw [f8 y (by omega) (by omega), up_n (by omega), f6 y (by omega)]
theorem u_cost {z w : Int} (hz : rg z) (hv : rg w) (hm : RepP q c0 u0 (T, N, R, P, S, cn, un) Y) (hw : WfSy b Y) (hp : ∀ a', RepP q c0 u0 a' Y → post (some (vi (aCost Y.2.2.2.2.1 Y.2.2.2.2.2.1 z w))) a') : Cm G (AP G F) yX11_cost cX11_cost 9 (some .int) (d + 3) [.ref q, vi z, vi w] (T, N, R, P, S, cn, un) post := by
  obtain ⟨tp, bx, hd, rf, il, ru, tl, s, ps, im⟩ := Y
  obtain ⟨nw, nx, h⟩ := hm
  have hp : post (some (vi (aCost il ru z w))) (T, N, R, P, S, cn, un) := hp _ h.out
  obtain ⟨⟨t0, t1, t2, t3, t4⟩, ⟨t5, t6, t7, t8, t9, t10⟩, ⟨t11, t12, t13, t14⟩, v0, v1, v2, v3, v4, v5⟩ := h.cx
  obtain ⟨-, -, -, -, wil, -, w0, -, w1⟩ := hw
  have no : ¬ (il = 1 ∧ (0 ≤ z ∧ z ≤ 120) ∧ 0 ≤ w ∧ w ≤ 1) → V G (AP G F) yX11_cost cX11_cost 9 (some .int) (d + 3) (T, N, R, P, S, cn, un) 26 [some (.ref q), some (vi z), some (vi w), none, none, none, none, none, none] [] post := fun hn => by
    refine s_iconst 27 dX11_cost_26 rfl ?_
    refine s_ireturn rfl dX11_cost_27 ?_
    rw [show aCost il ru z w = -1 from if_neg hn] at hp
    exact hp
  refine Cm_intro (L := [some (.ref q), some (vi z), some (vi w), none, none, none, none, none, none]) (by decide +kernel) (Nat.le_of_ble_eq_true rfl) rfl ?_
  refine s_aload_n 1 dX11_cost_0 rfl rfl ?_
  refine g_X11_hasLine 4 dX11_cost_1 rfl fl_X11_112 (fun hr1 => ?_)
  rw [h.il']
  refine s_if_eq 7 26 dX11_cost_4 rfl rfl (fun g1 => ?_) (fun g1 => ?_)
  · exact no (by omega)
  refine s_iload_n 8 dX11_cost_7 rfl rfl ?_
  refine s_if_lt 11 26 dX11_cost_8 rfl rfl (fun g2 => ?_) (fun g2 => ?_)
  · exact no (by omega)
  refine s_iload_n 12 dX11_cost_11 rfl rfl ?_
  refine s_bipush 14 dX11_cost_12 rfl (k := ?_)
  refine s_icmp_gt 17 26 dX11_cost_14 rfl rfl (fun g3 => ?_) (fun g3 => ?_)
  · exact no (by omega)
  refine s_iload_n 18 dX11_cost_17 rfl rfl ?_
  refine s_if_lt 21 26 dX11_cost_18 rfl rfl (fun g4 => ?_) (fun g4 => ?_)
  · exact no (by omega)
  refine s_iload_n 22 dX11_cost_21 rfl rfl ?_
  refine s_iconst 23 dX11_cost_22 rfl ?_
  refine s_icmp_le 26 28 dX11_cost_23 rfl rfl (fun g5 => ?_) (fun g5 => ?_)
  rotate_left
  · exact no (by omega)
  have hil : il = 1 := by omega
  subst hil
  obtain ⟨wr, wtl, ⟨ws, wtc⟩, wps, wim⟩ := w1 rfl
  have hru := h.ru' rfl
  have w4 := wr.2.2.2.2.1
  have w2 := wr.2.1
  rw [show aCost 1 ru z w = if w = 0 then (cosL ru 200 z).1 else (cosL ru 200 z).2 from if_pos ⟨rfl, ⟨by omega, by omega⟩, by omega, by omega⟩] at hp
  have hck : ckl (ru 3) ≤ 1 := by unfold ckl; split <;> omega
  refine s_aload_n 29 dX11_cost_28 rfl rfl ?_
  refine g_X11_framing 32 dX11_cost_29 rfl fl_X11_31 ?_
  refine g_X1_rules 35 dX11_cost_32 rfl fl_X11_90 ?_
  refine g_X6_size 38 dX11_cost_35 rfl fl_X11_141 (fun hr35 => ?_)
  rw [hru.2.2.2.2.1]
  refine s_istore_n 39 dX11_cost_38 rfl (Nat.le_of_ble_eq_true rfl) rfl ?_
  refine s_iconst 40 dX11_cost_39 rfl ?_
  refine s_istore 42 dX11_cost_40 rfl (Nat.le_of_ble_eq_true rfl) rfl ?_
  refine s_iconst 43 dX11_cost_42 rfl ?_
  refine s_istore 45 dX11_cost_43 rfl (Nat.le_of_ble_eq_true rfl) rfl ?_
  refine s_iload_n 46 dX11_cost_45 rfl rfl ?_
  refine s_istore 48 dX11_cost_46 rfl (Nat.le_of_ble_eq_true rfl) rfl ?_
  refine s_iconst 49 dX11_cost_48 rfl ?_
  refine s_istore 51 dX11_cost_49 rfl (Nat.le_of_ble_eq_true rfl) rfl ?_
  have key : ∀ (f : Nat) (many bytes left k : Int) (o : Option Value), 0 ≤ left → left ≤ f → 0 ≤ k → k + left ≤ 120 → (k = 0 ∨ 0 < left) → (0 ≤ many ∧ many ≤ k) → cosL ru 200 z = (many + (cosL ru (f + 1) left).1, bytes + (cosL ru (f + 1) left).2) → V G (AP G F) yX11_cost cX11_cost 9 (some .int) (d + 3) (T, N, R, P, S, cn, un) 51 [some (.ref q), some (vi z), some (vi w), some (vi (ru 4)), some (vi many), some (vi bytes), some (vi left), some (vi k), o] [] post := by
    intro f
    induction f with
    | zero =>
      intro many bytes left k o h1 h2 h3 h4 h5 h6 h8
      have hl0 : left = 0 := by omega
      have hk0 : k = 0 := by omega
      subst hl0 hk0
      refine s_iload 53 dX11_cost_51 rfl rfl ?_
      refine s_bipush 55 dX11_cost_53 rfl (k := ?_)
      refine s_icmp_gt 58 109 dX11_cost_55 rfl rfl (fun e1 => ?_) (fun e1 => ?_)
      · omega
      refine s_iload 60 dX11_cost_58 rfl rfl ?_
      refine s_if_eq 63 68 dX11_cost_60 rfl rfl (fun e2 => ?_) (fun e2 => ?_)
      rotate_left
      · omega
      refine s_iload_n 69 dX11_cost_68 rfl rfl ?_
      refine s_iload 71 dX11_cost_69 rfl rfl ?_
      refine s_min (q := 74) (hd := dX11_cost_71) (hq := rfl) (hw := ml_X11_330) (hrest := Nat.le_of_ble_eq_true rfl) (k := ?_)
      refine s_istore 76 dX11_cost_74 rfl (Nat.le_of_ble_eq_true rfl) rfl ?_
      refine s_iinc 79 dX11_cost_76 rfl rfl (Nat.le_of_ble_eq_true rfl) rfl ?_
      refine s_iload 81 dX11_cost_79 rfl rfl ?_
      refine s_aload_n 82 dX11_cost_81 rfl rfl ?_
      refine g_X11_framing 85 dX11_cost_82 rfl fl_X11_31 ?_
      refine g_X1_rules 88 dX11_cost_85 rfl fl_X11_90 ?_
      refine s_iload 90 dX11_cost_88 rfl rfl ?_
      refine s_V1i 93 dX11_cost_90 rfl km_X6_widestFrame ml_X11_157 ds_X6_widestFrame (Nat.le_of_ble_eq_true rfl) (q_rec (by assumption)) rfl (q_widestFrame (d := d) h.sh.fr.2.1 hru (by omega) (by omega) ?_)
      refine ⟨_, rfl, ?_⟩
      refine s_iadd 94 dX11_cost_93 rfl ?_
      refine s_istore 96 dX11_cost_94 rfl (Nat.le_of_ble_eq_true rfl) rfl ?_
      refine s_iload 98 dX11_cost_96 rfl rfl ?_
      refine s_iload 100 dX11_cost_98 rfl rfl ?_
      refine s_isub 101 dX11_cost_100 rfl ?_
      refine s_istore 103 dX11_cost_101 rfl (Nat.le_of_ble_eq_true rfl) rfl ?_
      refine s_iinc 106 dX11_cost_103 rfl rfl (Nat.le_of_ble_eq_true rfl) rfl ?_
      refine s_goto 51 dX11_cost_106 rfl ?_
      refine s_iload 53 dX11_cost_51 rfl rfl ?_
      refine s_bipush 55 dX11_cost_53 rfl (k := ?_)
      refine s_icmp_gt 58 109 dX11_cost_55 rfl rfl (fun e3 => ?_) (fun e3 => ?_)
      · omega
      refine s_iload 60 dX11_cost_58 rfl rfl ?_
      refine s_if_eq 63 68 dX11_cost_60 rfl rfl (fun e4 => ?_) (fun e4 => ?_)
      · omega
      refine s_iload 65 dX11_cost_63 rfl rfl ?_
      refine s_if_le 68 109 dX11_cost_65 rfl rfl (fun e5 => ?_) (fun e5 => ?_)
      rotate_left
      · omega
      rw [h8, cosL_e (by omega)] at hp
      refine s_iload_n 110 dX11_cost_109 rfl rfl ?_
      refine s_if_ne 113 118 dX11_cost_110 rfl rfl (fun e6 => ?_) (fun e6 => ?_)
      · refine s_iload 120 dX11_cost_118 rfl rfl ?_
        refine s_ireturn rfl dX11_cost_120 ?_
        rw [if_neg e6] at hp
        exact hp
      · refine s_iload 115 dX11_cost_113 rfl rfl ?_
        refine s_goto 120 dX11_cost_115 rfl ?_
        refine s_ireturn rfl dX11_cost_120 ?_
        rw [if_pos (by omega)] at hp
        exact hp
    | succ f ih =>
      intro many bytes left k o h1 h2 h3 h4 h5 h6 h8
      refine s_iload 53 dX11_cost_51 rfl rfl ?_
      refine s_bipush 55 dX11_cost_53 rfl (k := ?_)
      refine s_icmp_gt 58 109 dX11_cost_55 rfl rfl (fun e1 => ?_) (fun e1 => ?_)
      · omega
      have go : V G (AP G F) yX11_cost cX11_cost 9 (some .int) (d + 3) (T, N, R, P, S, cn, un) 68 [some (.ref q), some (vi z), some (vi w), some (vi (ru 4)), some (vi many), some (vi bytes), some (vi left), some (vi k), o] [] post := by
        refine s_iload_n 69 dX11_cost_68 rfl rfl ?_
        refine s_iload 71 dX11_cost_69 rfl rfl ?_
        refine s_min (q := 74) (hd := dX11_cost_71) (hq := rfl) (hw := ml_X11_330) (hrest := Nat.le_of_ble_eq_true rfl) (k := ?_)
        refine s_istore 76 dX11_cost_74 rfl (Nat.le_of_ble_eq_true rfl) rfl ?_
        refine s_iinc 79 dX11_cost_76 rfl rfl (Nat.le_of_ble_eq_true rfl) rfl ?_
        refine s_iload 81 dX11_cost_79 rfl rfl ?_
        refine s_aload_n 82 dX11_cost_81 rfl rfl ?_
        refine g_X11_framing 85 dX11_cost_82 rfl fl_X11_31 ?_
        refine g_X1_rules 88 dX11_cost_85 rfl fl_X11_90 ?_
        refine s_iload 90 dX11_cost_88 rfl rfl ?_
        refine s_V1i 93 dX11_cost_90 rfl km_X6_widestFrame ml_X11_157 ds_X6_widestFrame (Nat.le_of_ble_eq_true rfl) (q_rec (by assumption)) rfl (q_widestFrame (d := d) h.sh.fr.2.1 hru (by omega) (by omega) ?_)
        refine ⟨_, rfl, ?_⟩
        refine s_iadd 94 dX11_cost_93 rfl ?_
        refine s_istore 96 dX11_cost_94 rfl (Nat.le_of_ble_eq_true rfl) rfl ?_
        refine s_iload 98 dX11_cost_96 rfl rfl ?_
        refine s_iload 100 dX11_cost_98 rfl rfl ?_
        refine s_isub 101 dX11_cost_100 rfl ?_
        refine s_istore 103 dX11_cost_101 rfl (Nat.le_of_ble_eq_true rfl) rfl ?_
        refine s_iinc 106 dX11_cost_103 rfl rfl (Nat.le_of_ble_eq_true rfl) rfl ?_
        refine s_goto 51 dX11_cost_106 rfl ?_
        by_cases hg : 0 < left - min (ru 4) left
        · refine ih (many + 1) _ (left - min (ru 4) left) (k + 1) _ (by omega) (by omega) (by omega) (by omega) (by omega) (by omega) ?_
          rw [h8, cosL_g hg]
          exact Prod.ext (by show many + (1 + _) = many + 1 + _; omega) (by show bytes + (_ + 1 + _) = bytes + (_ + 1) + _; omega)
        refine s_iload 53 dX11_cost_51 rfl rfl ?_
        refine s_bipush 55 dX11_cost_53 rfl (k := ?_)
        refine s_icmp_gt 58 109 dX11_cost_55 rfl rfl (fun e3 => ?_) (fun e3 => ?_)
        · omega
        refine s_iload 60 dX11_cost_58 rfl rfl ?_
        refine s_if_eq 63 68 dX11_cost_60 rfl rfl (fun e4 => ?_) (fun e4 => ?_)
        · omega
        refine s_iload 65 dX11_cost_63 rfl rfl ?_
        refine s_if_le 68 109 dX11_cost_65 rfl rfl (fun e5 => ?_) (fun e5 => ?_)
        rotate_left
        · omega
        rw [h8, cosL_e hg] at hp
        refine s_iload_n 110 dX11_cost_109 rfl rfl ?_
        refine s_if_ne 113 118 dX11_cost_110 rfl rfl (fun e6 => ?_) (fun e6 => ?_)
        · refine s_iload 120 dX11_cost_118 rfl rfl ?_
          refine s_ireturn rfl dX11_cost_120 ?_
          rw [if_neg e6] at hp
          exact hp
        · refine s_iload 115 dX11_cost_113 rfl rfl ?_
          refine s_goto 120 dX11_cost_115 rfl ?_
          refine s_ireturn rfl dX11_cost_120 ?_
          rw [if_pos (by omega)] at hp
          exact hp
      refine s_iload 60 dX11_cost_58 rfl rfl ?_
      refine s_if_eq 63 68 dX11_cost_60 rfl rfl (fun e2 => ?_) (fun e2 => ?_)
      · exact go
      refine s_iload 65 dX11_cost_63 rfl rfl ?_
      refine s_if_le 68 109 dX11_cost_65 rfl rfl (fun e3 => ?_) (fun e3 => ?_)
      · omega
      exact go
  exact key 199 0 0 z 0 none (by omega) (by omega) (by omega) (by omega) (by omega) (by omega) (Prod.ext (Int.zero_add _).symm (Int.zero_add _).symm)
end U9
