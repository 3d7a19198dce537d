section M38
variable {G : GT} {m0 n u : Nat} {F : HS} {d : Nat} {I : Nat → Int} {A : Nat → Int → Int} {D : Int64} {post : Option Value → MT → Prop} {S : SY} {b : Int}
theorem o_harm {z v : Int} (hz : rg z) (hv : rg v) (hm : RepM I A S) (hw : WfSy b S) (hb : b ≤ 90000000) (hp : ∀ I' A', RepM I' A' S → post (some (vi (aHarm S.2.2.2.2.1 S.2.2.2.2.2.1 S.2.2.2.2.2.2.2.1 z v))) (I', A', D)) : Cm G (AM G m0 F n u) yX12_harm cX12_harm 5 (some .int) (d + 8) [.ref m0, vi z, vi v] (I, A, D) post := by
  obtain ⟨tp, bx, hd, rf, il, ru, tl, s, ps, im⟩ := S
  have hp : ∀ I' A', RepM I' A' (tp, bx, hd, rf, il, ru, tl, s, ps, im) → post (some (vi (aHarm il ru s z v))) (I', A', D) := hp
  obtain ⟨-, -, -, -, m1, -, -, m3, m4, m2⟩ := id hm
  obtain ⟨-, -, -, -, w1, -, w3, w4, w2⟩ := id hw
  refine Cm_intro (L := [some (.ref m0), some (vi z), some (vi v), none, none]) (by decide +kernel) (Nat.le_of_ble_eq_true rfl) rfl ?_
  have e17 : up I 0 0 17 = il := by rw [up_n (by decide)]; exact m1
  have no : ¬ (il = 1 ∧ (0 ≤ z ∧ z < s.1.length) ∧ (1 ≤ v ∧ v ≤ 255)) → V G (AM G m0 F n u) yX12_harm cX12_harm 5 (some .int) (d + 8) (up I 0 0, A, D) 25 [some (.ref m0), some (vi z), some (vi v), none, none] [] post := by
    intro hno
    refine s_ldcw (-1000000) 28 dX12_harm_25 rfl kc_X12_392 rfl ?_
    refine s_ireturn rfl dX12_harm_28 ?_
    rw [show aHarm il ru s z v = -1000000 from if_neg hno] at hp
    exact hp _ _ (hm.scr (frI.rf.up (by decide)) frA.rf)
  refine s_aload_n 1 dX12_harm_0 rfl rfl ?_
  refine s_iconst 2 dX12_harm_1 rfl ?_
  refine m_putI 5 0 dX12_harm_2 rfl fl_X12_60 (by decide) rfl rfl rfl rfl ?_
  refine s_aload_n 6 dX12_harm_5 rfl rfl ?_
  refine s_iload_n 7 dX12_harm_6 rfl rfl ?_
  refine s_V1b 10 dX12_harm_7 rfl km_X12_isByte ml_X12_315 ds_X12_isByte (Nat.le_of_ble_eq_true rfl) m_rec rfl (c_isByte (s := s) (b := b) (ch := (ru 5).toNat) hz (by rw [e17]; exact w1) (fun h => ⟨(m2 (by omega)).2.2.1, (w2 (by omega)).2.2.1.1⟩) ?_)
  refine ⟨_, rfl, ?_⟩
  refine s_if_eqb 13 25 dX12_harm_10 rfl rfl (fun g => ?_) (fun g => ?_)
  · have g := of_decide_eq_false g
    exact no (fun h => g ⟨by omega, h.2.1⟩)
  have g := of_decide_eq_true g
  have hil : il = 1 := by omega
  subst hil
  obtain ⟨hru, htl, hs, hps, him⟩ := m2 rfl
  obtain ⟨hwr, hwt, ⟨hws, hwc⟩, hwp, hwi⟩ := w2 rfl
  have hl := hws.1
  have g1 := g.2
  refine s_iload_n 14 dX12_harm_13 rfl rfl ?_
  refine s_i2lz 15 dX12_harm_14 rfl ?_
  refine s_lconstz 16 dX12_harm_15 rfl ?_
  refine s_ldc2z 19 (255) dX12_harm_16 rfl kc_X12_318 rfl ?_
  refine s_S3b 22 dX12_harm_19 rfl km_X12_in rfl ml_X12_70 ds_X12_in (Nat.le_of_ble_eq_true rfl) (c_in hv (by decide) (by decide) ?_)
  refine ⟨_, rfl, ?_⟩
  refine s_if_neb 25 29 dX12_harm_22 rfl rfl (fun g2 => ?_) (fun g2 => ?_)
  rotate_left
  · have g2 := of_decide_eq_false g2
    exact no (fun h => g2 h.2.2)
  have g2 : 1 ≤ v ∧ v ≤ 255 := of_decide_eq_true g2
  rw [show aHarm 1 ru s z v = theF (readF ru s s.1.length) (ru 5).toNat - theF (readF ru (flpL s.1 z.toNat v, s.2) s.1.length) (ru 5).toNat from if_pos ⟨rfl, g1, g2⟩] at hp
  have h5 := hwr.2.2.2.2.2
  have hru1 : RuM (up I 0 0) ru := hru.fr (ks := [0]) (frI.rf.up (by decide)) (by decide)
  refine s_aload_n 30 dX12_harm_29 rfl rfl ?_
  refine s_V0v 33 dX12_harm_30 rfl km_X12_putAside ml_X12_340 ds_X12_putAside (Nat.le_of_ble_eq_true rfl) m_rec rfl (c_putAside (fun A1 f1 f2 => ?_))
  refine ⟨rfl, ?_⟩
  have hs1 : RepSt (ru 5).toNat (A1 3) s := by rw [f1 3 (by decide)]; exact hs
  refine s_aload_n 34 dX12_harm_33 rfl rfl ?_
  refine s_aload_n 35 dX12_harm_34 rfl rfl ?_
  refine m_getV (k := 16) 38 dX12_harm_35 rfl fl_X12_16 (by decide) rfl ?_
  refine s_iconst 39 dX12_harm_38 rfl ?_
  refine m_ald 40 3 9309 dX12_harm_39 rfl (by decide) rfl (fun hr39 => ?_)
  rw [hs1.1]
  refine s_V1v 43 dX12_harm_40 rfl km_X12_readsBytes ml_X12_376 ds_X12_readsBytes (Nat.le_of_ble_eq_true rfl) m_rec rfl (c_readsBytes rfl hs1 hws (by omega) hru1 hwr (Nat.le_refl _) (fun I2 A2 y1 y2 y3 => ?_))
  refine ⟨rfl, ?_⟩
  have hru2 : RuM I2 ru := hru1.fr y1 (by decide)
  have hw3 := readF_wf (k := s.1.length) hws hwr rfl
  refine s_aload_n 44 dX12_harm_43 rfl rfl ?_
  refine s_V0i 47 dX12_harm_44 rfl km_X12_thereAll ml_X12_393 ds_X12_thereAll (Nat.le_of_ble_eq_true rfl) m_rec rfl (c_thereAll rfl y3 hw3 hru2 hwr ?_)
  refine ⟨_, rfl, ?_⟩
  refine s_istore_n 48 dX12_harm_47 rfl (Nat.le_of_ble_eq_true rfl) rfl ?_
  refine s_aload_n 49 dX12_harm_48 rfl rfl ?_
  refine s_V0v 52 dX12_harm_49 rfl km_X12_takeBack ml_X12_396 ds_X12_takeBack (Nat.le_of_ble_eq_true rfl) m_rec rfl (c_takeBack (fun A3 y4 y5 => ?_))
  refine ⟨rfl, ?_⟩
  have e3 : ∀ i, 0 ≤ i → i < 9309 → A3 3 i = A 3 i := fun i x y => by rw [y5 i x y, y2 9 (by decide), f2 i x y]
  have hs3 : RepSt (ru 5).toNat (A3 3) s := hs.congr hws (by omega) e3
  have ev : A3 3 (1 + z) = s.1.getD z.toNat 0 := by
    rw [← hs3.2.1 z.toNat (by omega)]
    congr 1
    omega
  have hby := byt_at hws.2.1 z.toNat
  have hxr := xr_rg hby (show 0 ≤ v ∧ v ≤ 255 by omega)
  have hflp := flpL_ok (i := z.toNat) (v := v) hws.2.1 (by omega)
  refine s_aload_n 53 dX12_harm_52 rfl rfl ?_
  refine m_getV (k := 16) 56 dX12_harm_53 rfl fl_X12_16 (by decide) rfl ?_
  refine s_iconst 57 dX12_harm_56 rfl ?_
  refine s_iload_n 58 dX12_harm_57 rfl rfl ?_
  refine s_iadd 59 dX12_harm_58 rfl ?_
  refine s_dup2 (q := 60) (hd := dX12_harm_59) (hq := rfl) (k := ?_)
  refine m_ald 61 3 9309 dX12_harm_60 rfl (by decide) rfl (fun hr60 => ?_)
  rw [ev]
  refine s_iload_n 62 dX12_harm_61 rfl rfl ?_
  refine s_ixor 63 ((xr (s.1.getD z.toNat 0) v)) dX12_harm_62 rfl ((xor_xr hby.1 (by omega))) ?_
  refine m_ast 64 3 9309 dX12_harm_63 rfl (by decide) rfl ?_
  have hs4 : RepSt (ru 5).toNat (up A3 3 (up (A3 3) (1 + z) (xr (s.1.getD z.toNat 0) v)) 3) (flpL s.1 z.toNat v, s.2) := by
    rw [up_s]
    refine hs3.wire hws ?_ ?_ ?_
    · rw [up_n (by omega), hflp.2]; exact hs3.1
    · exact sg_set hs3.2.1 (by omega) (by omega)
    · intro i hi; rw [up_n (by omega)]
  have hws4 := hws.wire hflp.1 (by rw [hflp.2]; exact hl)
  have e0 : up A3 3 (up (A3 3) (1 + z) (xr (s.1.getD z.toNat 0) v)) 3 0 = ((s.1.length : Nat) : Int) := by rw [up_s, up_n (by omega)]; exact hs3.1
  refine s_aload_n 65 dX12_harm_64 rfl rfl ?_
  refine s_aload_n 66 dX12_harm_65 rfl rfl ?_
  refine m_getV (k := 16) 69 dX12_harm_66 rfl fl_X12_16 (by decide) rfl ?_
  refine s_iconst 70 dX12_harm_69 rfl ?_
  refine m_ald 71 3 9309 dX12_harm_70 rfl (by decide) rfl (fun hr70 => ?_)
  rw [e0]
  refine s_V1v 74 dX12_harm_71 rfl km_X12_readsBytes ml_X12_376 ds_X12_readsBytes (Nat.le_of_ble_eq_true rfl) m_rec rfl (c_readsBytes rfl hs4 hws4 (by omega) hru2 hwr (by show s.1.length ≤ (flpL s.1 z.toNat v).length; rw [hflp.2]; exact Nat.le_refl _) (fun I5 A5 y6 y7 y8 => ?_))
  refine ⟨rfl, ?_⟩
  have hru5 : RuM I5 ru := hru2.fr y6 (by decide)
  refine s_aload_n 75 dX12_harm_74 rfl rfl ?_
  refine s_V0i 78 dX12_harm_75 rfl km_X12_thereAll ml_X12_393 ds_X12_thereAll (Nat.le_of_ble_eq_true rfl) m_rec rfl (c_thereAll rfl y8 (readF_wf hws4 hwr rfl) hru5 hwr ?_)
  refine ⟨_, rfl, ?_⟩
  refine s_istore 80 dX12_harm_78 rfl (Nat.le_of_ble_eq_true rfl) rfl ?_
  refine s_aload_n 81 dX12_harm_80 rfl rfl ?_
  refine s_V0v 84 dX12_harm_81 rfl km_X12_takeBack ml_X12_396 ds_X12_takeBack (Nat.le_of_ble_eq_true rfl) m_rec rfl (c_takeBack (fun A6 y9 y10 => ?_))
  refine ⟨rfl, ?_⟩
  refine s_iload_n 85 dX12_harm_84 rfl rfl ?_
  refine s_iload 87 dX12_harm_85 rfl rfl ?_
  refine s_isub 88 dX12_harm_87 rfl ?_
  refine s_ireturn rfl dX12_harm_88 ?_
  refine hp _ _ (hm.now hw (((frI.rf.up (ks := [0, 26, 28]) (by decide)).trans (y1.trans y6 (by decide)) (by decide)).wk (by decide)) (((((f1.wk (ls := [3, 5, 6, 9, 12, 13]) (by decide)).trans y2 (by decide)).trans y4 (by decide)).up (by decide)).trans (y7.trans (y9.wk (ls := [3, 5, 6]) (by decide)) (by decide)) (by decide)) (fun i x y => ?_))
  rw [y10 i x y, y7 9 (by decide), up_n (by decide), y4 9 (by decide), y2 9 (by decide), f2 i x y]
theorem cosL_s (ru : RU) (f : Nat) (l : Int) : cosL ru (f + 1) l = (1 + (if 0 < l - min (ru 4) l then (cosL ru f (l - min (ru 4) l)).1 else 0), mstF (ru 1) (1 + min (ru 4) l + ckl (ru 3)) + 1 + (if 0 < l - min (ru 4) l then (cosL ru f (l - min (ru 4) l)).2 else 0)) := rfl
theorem cosL_e {ru : RU} {f : Nat} {l : Int} (h : ¬ 0 < l - min (ru 4) l) : cosL ru (f + 1) l = (1, mstF (ru 1) (1 + min (ru 4) l + ckl (ru 3)) + 1) := by
  rw [cosL_s, if_neg h, if_neg h, Int.add_zero, Int.add_zero]
theorem cosL_g {ru : RU} {f : Nat} {l : Int} (h : 0 < l - min (ru 4) l) : cosL ru (f + 1) l = (1 + (cosL ru f (l - min (ru 4) l)).1, mstF (ru 1) (1 + min (ru 4) l + ckl (ru 3)) + 1 + (cosL ru f (l - min (ru 4) l)).2) := by
  rw [cosL_s, if_pos h, if_pos h]
theorem o_cost {z w : Int} (hz : rg z) (hv : rg w) (hm : RepM I A S) (hw : WfSy b S) (hp : ∀ I' A', RepM I' A' S → post (some (vi (aCost S.2.2.2.2.1 S.2.2.2.2.2.1 z w))) (I', A', D)) : Cm G (AM G m0 F n u) yX12_cost cX12_cost 7 (some .int) (d + 2) [.ref m0, vi z, vi w] (I, A, D) post := by
  obtain ⟨tp, bx, hd, rf, il, ru, tl, s, ps, im⟩ := S
  have hp := hp (up I 0 0) A (hm.scr (frI.rf.up (by decide)) frA.rf)
  have hp : post (some (vi (aCost il ru z w))) (up I 0 0, A, D) := hp
  obtain ⟨-, -, -, -, m1, -, -, m3, m4, m2⟩ := id hm
  obtain ⟨-, -, -, -, w1, -, w3, w4, w2⟩ := id hw
  refine Cm_intro (L := [some (.ref m0), some (vi z), some (vi w), none, none, none, none]) (by decide +kernel) (Nat.le_of_ble_eq_true rfl) rfl ?_
  have e17 : up I 0 0 17 = il := by rw [up_n (by decide)]; exact m1
  have no : ¬ (il = 1 ∧ (0 ≤ z ∧ z ≤ 120) ∧ 0 ≤ w ∧ w ≤ 1) → V G (AM G m0 F n u) yX12_cost cX12_cost 7 (some .int) (d + 2) (up I 0 0, A, D) 34 [some (.ref m0), some (vi z), some (vi w), none, none, none, none] [] post := by
    intro hno
    refine s_iconst 35 dX12_cost_34 rfl ?_
    refine s_ireturn rfl dX12_cost_35 ?_
    rw [show aCost il ru z w = -1 from if_neg hno] at hp
    exact hp
  refine s_aload_n 1 dX12_cost_0 rfl rfl ?_
  refine s_iconst 2 dX12_cost_1 rfl ?_
  refine m_putI 5 0 dX12_cost_2 rfl fl_X12_60 (by decide) rfl rfl rfl rfl ?_
  refine s_aload_n 6 dX12_cost_5 rfl rfl ?_
  refine m_getI 9 17 dX12_cost_6 rfl fl_X12_188 (by decide) rfl (fun hr6 => ?_)
  refine s_if_eq 12 34 dX12_cost_9 rfl rfl (fun g => ?_) (fun g => ?_)
  · exact no (fun h => by omega)
  refine s_iload_n 13 dX12_cost_12 rfl rfl ?_
  refine s_i2lz 14 dX12_cost_13 rfl ?_
  refine s_lconstz 15 dX12_cost_14 rfl ?_
  refine s_ldc2z 18 (120) dX12_cost_15 rfl kc_X12_399 rfl ?_
  refine s_S3b 21 dX12_cost_18 rfl km_X12_in rfl ml_X12_70 ds_X12_in (Nat.le_of_ble_eq_true rfl) (c_in hz (by decide) (by decide) ?_)
  refine ⟨_, rfl, ?_⟩
  refine s_if_eqb 24 34 dX12_cost_21 rfl rfl (fun g2 => ?_) (fun g2 => ?_)
  · have g2 := of_decide_eq_false g2
    exact no (fun h => g2 h.2.1)
  have g2 : 0 ≤ z ∧ z ≤ 120 := of_decide_eq_true g2
  refine s_iload_n 25 dX12_cost_24 rfl rfl ?_
  refine s_i2lz 26 dX12_cost_25 rfl ?_
  refine s_lconstz 27 dX12_cost_26 rfl ?_
  refine s_lconstz 28 dX12_cost_27 rfl ?_
  refine s_S3b 31 dX12_cost_28 rfl km_X12_in rfl ml_X12_70 ds_X12_in (Nat.le_of_ble_eq_true rfl) (c_in hv (by decide) (by decide) ?_)
  refine ⟨_, rfl, ?_⟩
  refine s_if_neb 34 36 dX12_cost_31 rfl rfl (fun g3 => ?_) (fun g3 => ?_)
  rotate_left
  · have g3 := of_decide_eq_false g3
    exact no (fun h => g3 h.2.2)
  have g3 : 0 ≤ w ∧ w ≤ 1 := of_decide_eq_true g3
  have hil : il = 1 := by omega
  subst hil
  obtain ⟨hru, htl, hs, hps, him⟩ := m2 rfl
  obtain ⟨hwr, hwt, ⟨hws, hwc⟩, hwp, hwi⟩ := w2 rfl
  obtain ⟨v0, v1, v2, v3, v4, v5⟩ := hwr
  have hru1 : RuM (up I 0 0) ru := hru.fr (ks := [0]) (frI.rf.up (by decide)) (by decide)
  obtain ⟨r0, r1, r2, r3, r4, r5⟩ := hru1
  have hck : ckl (ru 3) ≤ 1 := by unfold ckl; split <;> omega
  rw [show aCost 1 ru z w = if w = 0 then (cosL ru 200 z).1 else (cosL ru 200 z).2 from if_pos ⟨rfl, g2, g3⟩] at hp
  refine s_iconst 37 dX12_cost_36 rfl ?_
  refine s_istore_n 38 dX12_cost_37 rfl (Nat.le_of_ble_eq_true rfl) rfl ?_
  refine s_iconst 39 dX12_cost_38 rfl ?_
  refine s_istore 41 dX12_cost_39 rfl (Nat.le_of_ble_eq_true rfl) rfl ?_
  refine s_iload_n 42 dX12_cost_41 rfl rfl ?_
  refine s_istore 44 dX12_cost_42 rfl (Nat.le_of_ble_eq_true rfl) rfl ?_
  have key : ∀ (f : Nat) (many bytes left : Int), 0 ≤ left → left ≤ 120 → left ≤ f → cosL ru 200 z = (many + (cosL ru (f + 1) left).1, bytes + (cosL ru (f + 1) left).2) → V G (AM G m0 F n u) yX12_cost cX12_cost 7 (some .int) (d + 2) (up I 0 0, A, D) 44 [some (.ref m0), some (vi z), some (vi w), some (vi many), some (vi bytes), some (vi left), none] [] post := by
    intro f
    induction f with
    | zero =>
      intro many bytes left h1 h2 h3 h4
      have hl0 : left = 0 := by omega
      subst hl0
      refine s_aload_n 45 dX12_cost_44 rfl rfl ?_
      refine m_getI 48 22 dX12_cost_45 rfl fl_X12_196 (by decide) rfl (fun hr45 => ?_)
      refine s_iload 50 dX12_cost_48 rfl rfl ?_
      rw [r4]
      refine s_min (q := 53) (hd := dX12_cost_50) (hq := rfl) (hw := ml_X12_97) (hrest := Nat.le_of_ble_eq_true rfl) (k := ?_)
      refine s_istore 55 dX12_cost_53 rfl (Nat.le_of_ble_eq_true rfl) rfl ?_
      refine s_iinc 58 dX12_cost_55 rfl rfl (Nat.le_of_ble_eq_true rfl) rfl ?_
      refine s_iload 60 dX12_cost_58 rfl rfl ?_
      refine s_aload_n 61 dX12_cost_60 rfl rfl ?_
      refine s_iconst 62 dX12_cost_61 rfl ?_
      refine s_iload 64 dX12_cost_62 rfl rfl ?_
      refine s_iadd 65 dX12_cost_64 rfl ?_
      refine s_aload_n 66 dX12_cost_65 rfl rfl ?_
      refine s_V0i 69 dX12_cost_66 rfl km_X12_checkLong ml_X12_268 ds_X12_checkLong (Nat.le_of_ble_eq_true rfl) m_rec rfl (c_checkLong ?_)
      refine ⟨_, rfl, ?_⟩
      rw [r3]
      refine s_iadd 70 dX12_cost_69 rfl ?_
      refine s_V1i 73 dX12_cost_70 rfl km_X12_mostOf ml_X12_265 ds_X12_mostOf (Nat.le_of_ble_eq_true rfl) m_rec rfl (c_mostOf (by constructor <;> omega) (by omega) ?_)
      refine ⟨_, rfl, ?_⟩
      rw [r1]
      refine s_iconst 74 dX12_cost_73 rfl ?_
      refine s_iadd 75 dX12_cost_74 rfl ?_
      refine s_iadd 76 dX12_cost_75 rfl ?_
      refine s_istore 78 dX12_cost_76 rfl (Nat.le_of_ble_eq_true rfl) rfl ?_
      refine s_iload 80 dX12_cost_78 rfl rfl ?_
      refine s_iload 82 dX12_cost_80 rfl rfl ?_
      refine s_isub 83 dX12_cost_82 rfl ?_
      refine s_istore 85 dX12_cost_83 rfl (Nat.le_of_ble_eq_true rfl) rfl ?_
      refine s_iload 87 dX12_cost_85 rfl rfl ?_
      refine s_if_gt 90 44 dX12_cost_87 rfl rfl (fun g6 => ?_) (fun g6 => ?_)
      · omega
      rw [h4, cosL_e g6] at hp
      refine s_iload_n 91 dX12_cost_90 rfl rfl ?_
      refine s_if_ne 94 98 dX12_cost_91 rfl rfl (fun g7 => ?_) (fun g7 => ?_)
      · refine s_iload 100 dX12_cost_98 rfl rfl ?_
        refine s_ireturn rfl dX12_cost_100 ?_
        rw [if_neg g7] at hp
        have hp : post (some (vi (bytes + (mstF (ru 1) (1 + min (ru 4) 0 + (ckl (ru 3) : Nat)) + 1)))) (up I 0 0, A, D) := hp
        exact hp
      · refine s_iload_n 95 dX12_cost_94 rfl rfl ?_
        refine s_goto 100 dX12_cost_95 rfl ?_
        refine s_ireturn rfl dX12_cost_100 ?_
        rw [if_pos g7] at hp
        have hp : post (some (vi (many + 1))) (up I 0 0, A, D) := hp
        exact hp
    | succ f ih =>
      intro many bytes left h1 h2 h3 h4
      refine s_aload_n 45 dX12_cost_44 rfl rfl ?_
      refine m_getI 48 22 dX12_cost_45 rfl fl_X12_196 (by decide) rfl (fun hr45 => ?_)
      refine s_iload 50 dX12_cost_48 rfl rfl ?_
      rw [r4]
      refine s_min (q := 53) (hd := dX12_cost_50) (hq := rfl) (hw := ml_X12_97) (hrest := Nat.le_of_ble_eq_true rfl) (k := ?_)
      refine s_istore 55 dX12_cost_53 rfl (Nat.le_of_ble_eq_true rfl) rfl ?_
      refine s_iinc 58 dX12_cost_55 rfl rfl (Nat.le_of_ble_eq_true rfl) rfl ?_
      refine s_iload 60 dX12_cost_58 rfl rfl ?_
      refine s_aload_n 61 dX12_cost_60 rfl rfl ?_
      refine s_iconst 62 dX12_cost_61 rfl ?_
      refine s_iload 64 dX12_cost_62 rfl rfl ?_
      refine s_iadd 65 dX12_cost_64 rfl ?_
      refine s_aload_n 66 dX12_cost_65 rfl rfl ?_
      refine s_V0i 69 dX12_cost_66 rfl km_X12_checkLong ml_X12_268 ds_X12_checkLong (Nat.le_of_ble_eq_true rfl) m_rec rfl (c_checkLong ?_)
      refine ⟨_, rfl, ?_⟩
      rw [r3]
      refine s_iadd 70 dX12_cost_69 rfl ?_
      refine s_V1i 73 dX12_cost_70 rfl km_X12_mostOf ml_X12_265 ds_X12_mostOf (Nat.le_of_ble_eq_true rfl) m_rec rfl (c_mostOf (by constructor <;> omega) (by omega) ?_)
      refine ⟨_, rfl, ?_⟩
      rw [r1]
      refine s_iconst 74 dX12_cost_73 rfl ?_
      refine s_iadd 75 dX12_cost_74 rfl ?_
      refine s_iadd 76 dX12_cost_75 rfl ?_
      refine s_istore 78 dX12_cost_76 rfl (Nat.le_of_ble_eq_true rfl) rfl ?_
      refine s_iload 80 dX12_cost_78 rfl rfl ?_
      refine s_iload 82 dX12_cost_80 rfl rfl ?_
      refine s_isub 83 dX12_cost_82 rfl ?_
      refine s_istore 85 dX12_cost_83 rfl (Nat.le_of_ble_eq_true rfl) rfl ?_
      refine s_iload 87 dX12_cost_85 rfl rfl ?_
      refine s_if_gt 90 44 dX12_cost_87 rfl rfl (fun g6 => ?_) (fun g6 => ?_)
      · refine V_kill 6 ?_
        refine ih (many + 1) _ (left - min (ru 4) left) (by omega) (by omega) (by omega) ?_
        rw [h4, cosL_g g6]
        exact Prod.ext (by show many + (1 + _) = many + 1 + _; omega) (by show bytes + (_ + 1 + _) = bytes + (_ + 1) + _; omega)
      rw [h4, cosL_e g6] at hp
      refine s_iload_n 91 dX12_cost_90 rfl rfl ?_
      refine s_if_ne 94 98 dX12_cost_91 rfl rfl (fun g7 => ?_) (fun g7 => ?_)
      · refine s_iload 100 dX12_cost_98 rfl rfl ?_
        refine s_ireturn rfl dX12_cost_100 ?_
        rw [if_neg g7] at hp
        have hp : post (some (vi (bytes + (mstF (ru 1) (1 + min (ru 4) left + (ckl (ru 3) : Nat)) + 1)))) (up I 0 0, A, D) := hp
        exact hp
      · refine s_iload_n 95 dX12_cost_94 rfl rfl ?_
        refine s_goto 100 dX12_cost_95 rfl ?_
        refine s_ireturn rfl dX12_cost_100 ?_
        rw [if_pos g7] at hp
        have hp : post (some (vi (many + 1))) (up I 0 0, A, D) := hp
        exact hp
  exact key 199 0 0 z g2.1 g2.2 (by omega) (Prod.ext (Int.zero_add _).symm (Int.zero_add _).symm)
theorem o_share {z w : Int} (hz : rg z) (hv : rg w) (hm : RepM I A S) (hw : WfSy b S) (hp : ∀ I' A', RepM I' A' S → post (some (vi (aShare S.2.2.2.2.1 S.2.2.2.2.2.1 S.2.2.2.2.2.2.2.1.1 z w))) (I', A', D)) : Cm G (AM G m0 F n u) yX12_share cX12_share 10 (some .int) (d + 5) [.ref m0, vi z, vi w] (I, A, D) post := by
  obtain ⟨tp, bx, hd, rf, il, ru, tl, s, ps, im⟩ := S
  have hp : ∀ I' A', RepM I' A' (tp, bx, hd, rf, il, ru, tl, s, ps, im) → post (some (vi (aShare il ru s.1 z w))) (I', A', D) := hp
  obtain ⟨-, -, -, -, m1, -, m5, m3, m4, m2⟩ := id hm
  obtain ⟨-, -, -, -, w1, -, w3, w4, w2⟩ := id hw
  refine Cm_intro (L := [some (.ref m0), some (vi z), some (vi w), none, none, none, none, none, none, none]) (by decide +kernel) (Nat.le_of_ble_eq_true rfl) rfl ?_
  have e17 : up I 0 0 17 = il := by rw [up_n (by decide)]; exact m1
  have e23 : up I 0 0 23 = I 23 := by rw [up_n (by decide)]
  have no : ¬ (il = 1 ∧ (0 ≤ z ∧ z < ru 5) ∧ 0 ≤ w ∧ w ≤ 3) → V G (AM G m0 F n u) yX12_share cX12_share 10 (some .int) (d + 5) (up I 0 0, A, D) 25 [some (.ref m0), some (vi z), some (vi w), none, none, none, none, none, none, none] [] post := by
    intro hno
    refine s_iconst 26 dX12_share_25 rfl ?_
    refine s_ireturn rfl dX12_share_26 ?_
    rw [show aShare il ru s.1 z w = -1 from if_neg hno] at hp
    exact hp _ _ (hm.scr (frI.rf.up (by decide)) frA.rf)
  refine s_aload_n 1 dX12_share_0 rfl rfl ?_
  refine s_iconst 2 dX12_share_1 rfl ?_
  refine m_putI 5 0 dX12_share_2 rfl fl_X12_60 (by decide) rfl rfl rfl rfl ?_
  refine s_aload_n 6 dX12_share_5 rfl rfl ?_
  refine s_iload_n 7 dX12_share_6 rfl rfl ?_
  refine s_V1b 10 dX12_share_7 rfl km_X12_isChannel ml_X12_283 ds_X12_isChannel (Nat.le_of_ble_eq_true rfl) m_rec rfl (c_isChannel hz (by rw [e17]; exact w1) (by rw [e23]; exact m5) ?_)
  refine ⟨_, rfl, ?_⟩
  refine s_if_eqb 13 25 dX12_share_10 rfl rfl (fun g => ?_) (fun g => ?_)
  · have g := of_decide_eq_false g
    refine no (fun h => g ⟨by omega, h.2.1.1, ?_⟩)
    have := (m2 h.1).1.2.2.2.2.2
    omega
  have g := of_decide_eq_true g
  have hil : il = 1 := by omega
  subst hil
  obtain ⟨hru, htl, hs, hps, him⟩ := m2 rfl
  obtain ⟨hwr, hwt, ⟨hws, hwc⟩, hwp, hwi⟩ := w2 rfl
  have hl := hws.1
  have hfl := (frs_ok s.1).1
  have h23 := hru.2.2.2.2.2
  refine s_iload_n 14 dX12_share_13 rfl rfl ?_
  refine s_i2lz 15 dX12_share_14 rfl ?_
  refine s_lconstz 16 dX12_share_15 rfl ?_
  refine s_ldc2z 19 (3) dX12_share_16 rfl kc_X12_278 rfl ?_
  refine s_S3b 22 dX12_share_19 rfl km_X12_in rfl ml_X12_70 ds_X12_in (Nat.le_of_ble_eq_true rfl) (c_in hv (by decide) (by decide) ?_)
  refine ⟨_, rfl, ?_⟩
  refine s_if_neb 25 27 dX12_share_22 rfl rfl (fun g2 => ?_) (fun g2 => ?_)
  rotate_left
  · have g2 := of_decide_eq_false g2
    exact no (fun h => g2 h.2.2)
  have g2 : 0 ≤ w ∧ w ≤ 3 := of_decide_eq_true g2
  rw [show aShare 1 ru s.1 z w = if w = 0 then (shrF ru s.1 z).1 else if w = 1 then (shrF ru s.1 z).2.1 else if w = 2 then (shrF ru s.1 z).2.2.1 else (shrF ru s.1 z).2.2.2.1 from if_pos ⟨rfl, ⟨g.2.1, by omega⟩, g2⟩] at hp
  refine s_iconst 28 dX12_share_27 rfl ?_
  refine s_istore_n 29 dX12_share_28 rfl (Nat.le_of_ble_eq_true rfl) rfl ?_
  refine s_iconst 30 dX12_share_29 rfl ?_
  refine s_istore 32 dX12_share_30 rfl (Nat.le_of_ble_eq_true rfl) rfl ?_
  refine s_iconst 33 dX12_share_32 rfl ?_
  refine s_istore 35 dX12_share_33 rfl (Nat.le_of_ble_eq_true rfl) rfl ?_
  refine s_iconst 36 dX12_share_35 rfl ?_
  refine s_istore 38 dX12_share_36 rfl (Nat.le_of_ble_eq_true rfl) rfl ?_
  refine s_iconst 39 dX12_share_38 rfl ?_
  refine s_istore 41 dX12_share_39 rfl (Nat.le_of_ble_eq_true rfl) rfl ?_
  refine s_aload_n 42 dX12_share_41 rfl rfl ?_
  refine s_V0i 45 dX12_share_42 rfl km_X12_laysFrames ml_X12_386 ds_X12_laysFrames (Nat.le_of_ble_eq_true rfl) m_rec rfl (c_laysFrames hs hws (fun I1 A1 f1 f2 f3 f4 => ?_))
  refine ⟨_, rfl, ?_⟩
  refine s_pop (q := 46) (hd := dX12_share_45) (hq := rfl) (k := ?_)
  refine s_iconst 47 dX12_share_46 rfl ?_
  refine s_istore 49 dX12_share_47 rfl (Nat.le_of_ble_eq_true rfl) rfl ?_
  have hI1 : frI [0, 41] I I1 := (frI.rf.up (by decide)).trans f1 (by decide)
  have hru1 : RuM I1 ru := hru.fr hI1 (by decide)
  have key : ∀ (m k : Nat) (a : Int × Int × Int × Int × Int) (I3 : Nat → Int) (A3 : Nat → Int → Int), k + m = (frs s.1).length → ((frs s.1).take k).foldl (shr1 ru s.1 z) (0, 0, 0, 0, -1) = a → (-1 ≤ a.2.2.2.2 ∧ a.2.2.2.2 ≤ 15) → frI [26, 28] I1 I3 → frA [5, 6] A1 A3 → V G (AM G m0 F n u) yX12_share cX12_share 10 (some .int) (d + 5) (I3, A3, D) 49 [some (.ref m0), some (vi z), some (vi w), some (vi a.1), some (vi a.2.1), some (vi a.2.2.1), some (vi a.2.2.2.1), some (vi a.2.2.2.2), some (vi k), none] [] post := by
    intro m
    induction m with
    | zero =>
      intro k a I3 A3 hk ha hab x1 x2
      rw [List.take_of_length_le (by omega)] at ha
      have hp := hp _ _ (hm.scr ((hI1.wk (by decide)).trans x1 (by decide)) ((f2.wk (by decide)).trans x2 (by decide)))
      rw [show shrF ru s.1 z = a from ha] at hp
      have e41 : I3 41 = (frs s.1).length := by rw [x1 41 (by decide)]; exact f3
      refine s_iload 51 dX12_share_49 rfl rfl ?_
      refine s_aload_n 52 dX12_share_51 rfl rfl ?_
      refine m_getI 55 41 dX12_share_52 rfl fl_X12_383 (by decide) rfl (fun hr52 => ?_)
      refine s_icmp_ge 58 163 dX12_share_55 rfl rfl (fun g6 => ?_) (fun g6 => ?_)
      rotate_left
      · omega
      refine s_iload_n 164 dX12_share_163 rfl rfl ?_
      refine s_if_ne 167 171 dX12_share_164 rfl rfl (fun g7 => ?_) (fun g7 => ?_)
      rotate_left
      · refine s_iload_n 168 dX12_share_167 rfl rfl ?_
        refine s_goto 193 dX12_share_168 rfl ?_
        refine s_ireturn rfl dX12_share_193 ?_
        rw [if_pos g7] at hp
        exact hp
      refine s_iload_n 172 dX12_share_171 rfl rfl ?_
      refine s_iconst 173 dX12_share_172 rfl ?_
      refine s_icmp_ne 176 181 dX12_share_173 rfl rfl (fun g8 => ?_) (fun g8 => ?_)
      rotate_left
      · refine s_iload 178 dX12_share_176 rfl rfl ?_
        refine s_goto 193 dX12_share_178 rfl ?_
        refine s_ireturn rfl dX12_share_193 ?_
        rw [if_neg g7, if_pos g8] at hp
        exact hp
      refine s_iload_n 182 dX12_share_181 rfl rfl ?_
      refine s_iconst 183 dX12_share_182 rfl ?_
      refine s_icmp_ne 186 191 dX12_share_183 rfl rfl (fun g9 => ?_) (fun g9 => ?_)
      rotate_left
      · refine s_iload 188 dX12_share_186 rfl rfl ?_
        refine s_goto 193 dX12_share_188 rfl ?_
        refine s_ireturn rfl dX12_share_193 ?_
        rw [if_neg g7, if_neg g8, if_pos g9] at hp
        exact hp
      refine s_iload 193 dX12_share_191 rfl rfl ?_
      refine s_ireturn rfl dX12_share_193 ?_
      rw [if_neg g7, if_neg g8, if_neg g9] at hp
      exact hp
    | succ m ih =>
      intro k a I3 A3 hk ha hab x1 x2
      have e41 : I3 41 = (frs s.1).length := by rw [x1 41 (by decide)]; exact f3
      have hkl : k < (frs s.1).length := by omega
      have hq := frs_q s.1 hkl
      obtain ⟨q1, q2⟩ := f4 k hkl
      have hst := foldl_snoc (shr1 ru s.1 z) (0, 0, 0, 0, -1) (frs s.1) k (0, 0) hkl
      rw [ha] at hst
      generalize (frs s.1).getD k (0, 0) = q at *
      have q1' : A3 12 (k : Int) = q.1 := by rw [x2 12 (by decide)]; exact q1
      have q2' : A3 13 (k : Int) = q.2 := by rw [x2 13 (by decide)]; exact q2
      have hs3 : sg (A3 3) 1 s.1 := by rw [x2 3 (by decide), f2 3 (by decide)]; exact hs.2.1
      have hru3 : RuM I3 ru := hru1.fr x1 (by decide)
      refine s_iload 51 dX12_share_49 rfl rfl ?_
      refine s_aload_n 52 dX12_share_51 rfl rfl ?_
      refine m_getI 55 41 dX12_share_52 rfl fl_X12_383 (by decide) rfl (fun hr52 => ?_)
      refine s_icmp_ge 58 163 dX12_share_55 rfl rfl (fun g6 => ?_) (fun g6 => ?_)
      · omega
      refine s_aload_n 59 dX12_share_58 rfl rfl ?_
      refine s_iload 61 dX12_share_59 rfl rfl ?_
      refine s_V1i 64 dX12_share_61 rfl km_X12_frameAt ml_X12_389 ds_X12_frameAt (Nat.le_of_ble_eq_true rfl) m_rec rfl (c_frameAt hs3 hws.2.1 hl (by omega) q1' q2' hq hru3 hwr (fun I4 A4 y1 y2 y3 => ?_))
      refine ⟨_, rfl, ?_⟩
      have hkd := frK_kind (ru := ru) (q := q) hws.2.1
      refine s_if_ne 67 157 dX12_share_64 rfl rfl (fun g7 => ?_) (fun g7 => ?_)
      · refine s_iinc 160 dX12_share_157 rfl rfl (Nat.le_of_ble_eq_true rfl) rfl ?_
        refine s_goto 49 dX12_share_160 rfl ?_
        refine ih (k + 1) a I4 A4 (by omega) ?_ hab (x1.trans y1 (by decide)) (x2.trans y2 (by decide))
        rw [hst]
        exact if_neg (fun h => g7 h.1)
      obtain ⟨t1, t2, t3⟩ := frP_told (ru := ru) (q := q) hws.2.1 (Or.inl g7)
      obtain ⟨y4, y5⟩ := y3 (Or.inl g7)
      have ev : A4 5 0 = (frP_ ru s.1 q).getD 0 0 := sg_slice (k := 0) y5 (by omega)
      have hby := byt_at t1 0
      refine s_aload_n 68 dX12_share_67 rfl rfl ?_
      refine m_getV (k := 25) 71 dX12_share_68 rfl fl_X12_29 (by decide) rfl ?_
      refine s_iconst 72 dX12_share_71 rfl ?_
      refine m_ald 73 5 1400 dX12_share_72 rfl (by decide) rfl (fun hr72 => ?_)
      rw [ev]
      refine s_bipush 75 dX12_share_73 rfl (k := ?_)
      refine s_idiv (q := 76) (hd := dX12_share_75) (hq := rfl) (k := ?_)
      refine s_iload_n 77 dX12_share_76 rfl rfl ?_
      refine s_icmp_ne 80 157 dX12_share_77 rfl rfl (fun g8 => ?_) (fun g8 => ?_)
      · refine s_iinc 160 dX12_share_157 rfl rfl (Nat.le_of_ble_eq_true rfl) rfl ?_
        refine s_goto 49 dX12_share_160 rfl ?_
        refine ih (k + 1) a I4 A4 (by omega) ?_ hab (x1.trans y1 (by decide)) (x2.trans y2 (by decide))
        rw [hst]
        exact if_neg (fun h => g8 h.2)
      have hst : ((frs s.1).take (k + 1)).foldl (shr1 ru s.1 z) (0, 0, 0, 0, -1) = (a.1 + 1, a.2.1 + ((q.2 : Int) - q.1 + 1), a.2.2.1 + (if a.2.2.2.2 = -1 then 0 else ((frP_ ru s.1 q).getD 0 0 % 16 - a.2.2.2.2 - 1) % 16), a.2.2.2.1 + (partF ru (frP_ ru s.1 q)).length, (frP_ ru s.1 q).getD 0 0 % 16) := hst.trans (if_pos ⟨g7, g8⟩)
      have q1'' : A4 12 (k : Int) = q.1 := by rw [y2 12 (by decide)]; exact q1'
      have q2'' : A4 13 (k : Int) = q.2 := by rw [y2 13 (by decide)]; exact q2'
      have hru4 : RuM I4 ru := hru3.fr y1 (by decide)
      refine s_aload_n 81 dX12_share_80 rfl rfl ?_
      refine m_getV (k := 25) 84 dX12_share_81 rfl fl_X12_29 (by decide) rfl ?_
      refine s_iconst 85 dX12_share_84 rfl ?_
      refine m_ald 86 5 1400 dX12_share_85 rfl (by decide) rfl (fun hr85 => ?_)
      rw [ev]
      refine s_bipush 88 dX12_share_86 rfl (k := ?_)
      refine s_irem (q := 89) (hd := dX12_share_88) (hq := rfl) (k := ?_)
      refine s_istore 91 dX12_share_89 rfl (Nat.le_of_ble_eq_true rfl) rfl ?_
      refine s_iinc 94 dX12_share_91 rfl rfl (Nat.le_of_ble_eq_true rfl) rfl ?_
      refine s_iload 96 dX12_share_94 rfl rfl ?_
      refine s_aload_n 97 dX12_share_96 rfl rfl ?_
      refine m_getV (k := 40) 100 dX12_share_97 rfl fl_X12_54 (by decide) rfl ?_
      refine s_iload 102 dX12_share_100 rfl rfl ?_
      refine m_ald 103 13 600 dX12_share_102 rfl (by decide) rfl (fun hr102 => ?_)
      rw [q2'']
      refine s_aload_n 104 dX12_share_103 rfl rfl ?_
      refine m_getV (k := 39) 107 dX12_share_104 rfl fl_X12_51 (by decide) rfl ?_
      refine s_iload 109 dX12_share_107 rfl rfl ?_
      refine m_ald 110 12 600 dX12_share_109 rfl (by decide) rfl (fun hr109 => ?_)
      rw [q1'']
      refine s_isub 111 dX12_share_110 rfl ?_
      refine s_iconst 112 dX12_share_111 rfl ?_
      refine s_iadd 113 dX12_share_112 rfl ?_
      refine s_iadd 114 dX12_share_113 rfl ?_
      refine s_istore 116 dX12_share_114 rfl (Nat.le_of_ble_eq_true rfl) rfl ?_
      refine s_iload 118 dX12_share_116 rfl rfl ?_
      refine s_aload_n 119 dX12_share_118 rfl rfl ?_
      refine s_V0i 122 dX12_share_119 rfl km_X12_partLong ml_X12_352 ds_X12_partLong (Nat.le_of_ble_eq_true rfl) m_rec rfl (c_partLong ?_)
      refine ⟨_, rfl, ?_⟩
      rw [y4, hru4.2.2.2.1, show ((frP_ ru s.1 q).length : Int) - 1 - ((ckl (ru 3) : Nat) : Int) = ((partF ru (frP_ ru s.1 q)).length : Int) by rw [partF_len]; omega]
      refine s_iadd 123 dX12_share_122 rfl ?_
      refine s_istore 125 dX12_share_123 rfl (Nat.le_of_ble_eq_true rfl) rfl ?_
      refine s_iload 127 dX12_share_125 rfl rfl ?_
      refine s_iload 129 dX12_share_127 rfl rfl ?_
      refine s_iconst 130 dX12_share_129 rfl ?_
      refine s_icmp_ne 133 137 dX12_share_130 rfl rfl (fun g9 => ?_) (fun g9 => ?_)
      · refine s_iload 139 dX12_share_137 rfl rfl ?_
        refine s_iload 141 dX12_share_139 rfl rfl ?_
        refine s_isub 142 dX12_share_141 rfl ?_
        refine s_iconst 143 dX12_share_142 rfl ?_
        refine s_isub 144 dX12_share_143 rfl ?_
        refine s_bipush 146 dX12_share_144 rfl (k := ?_)
        refine s_iadd 147 dX12_share_146 rfl ?_
        refine s_bipush 149 dX12_share_147 rfl (k := ?_)
        refine s_irem (q := 150) (hd := dX12_share_149) (hq := rfl) (k := ?_)
        refine s_iadd 151 dX12_share_150 rfl ?_
        refine s_istore 153 dX12_share_151 rfl (Nat.le_of_ble_eq_true rfl) rfl ?_
        refine s_iload 155 dX12_share_153 rfl rfl ?_
        refine s_istore 157 dX12_share_155 rfl (Nat.le_of_ble_eq_true rfl) rfl ?_
        refine s_iinc 160 dX12_share_157 rfl rfl (Nat.le_of_ble_eq_true rfl) rfl ?_
        refine s_goto 49 dX12_share_160 rfl ?_
        refine V_kill 9 ?_
        refine ih (k + 1) (a.1 + 1, a.2.1 + ((q.2 : Int) - q.1 + 1), a.2.2.1 + ((frP_ ru s.1 q).getD 0 0 % 16 - a.2.2.2.2 - 1 + 32) % 16, a.2.2.2.1 + (partF ru (frP_ ru s.1 q)).length, (frP_ ru s.1 q).getD 0 0 % 16) I4 A4 (by omega) ?_ (by show -1 ≤ (frP_ ru s.1 q).getD 0 0 % 16 ∧ (frP_ ru s.1 q).getD 0 0 % 16 ≤ 15; omega) (x1.trans y1 (by decide)) (x2.trans y2 (by decide))
        rw [hst, if_neg g9, show ((frP_ ru s.1 q).getD 0 0 % 16 - a.2.2.2.2 - 1 + 32) % 16 = ((frP_ ru s.1 q).getD 0 0 % 16 - a.2.2.2.2 - 1) % 16 by omega]
      · refine s_iconst 134 dX12_share_133 rfl ?_
        refine s_goto 150 dX12_share_134 rfl ?_
        refine s_iadd 151 dX12_share_150 rfl ?_
        refine s_istore 153 dX12_share_151 rfl (Nat.le_of_ble_eq_true rfl) rfl ?_
        refine s_iload 155 dX12_share_153 rfl rfl ?_
        refine s_istore 157 dX12_share_155 rfl (Nat.le_of_ble_eq_true rfl) rfl ?_
        refine s_iinc 160 dX12_share_157 rfl rfl (Nat.le_of_ble_eq_true rfl) rfl ?_
        refine s_goto 49 dX12_share_160 rfl ?_
        refine V_kill 9 ?_
        refine ih (k + 1) (a.1 + 1, a.2.1 + ((q.2 : Int) - q.1 + 1), a.2.2.1 + 0, a.2.2.2.1 + (partF ru (frP_ ru s.1 q)).length, (frP_ ru s.1 q).getD 0 0 % 16) I4 A4 (by omega) ?_ (by show -1 ≤ (frP_ ru s.1 q).getD 0 0 % 16 ∧ (frP_ ru s.1 q).getD 0 0 % 16 ≤ 15; omega) (x1.trans y1 (by decide)) (x2.trans y2 (by decide))
        rw [hst, if_pos g9]
  exact key (frs s.1).length 0 (0, 0, 0, 0, -1) I1 A1 (by omega) rfl (by decide) frI.rf frA.rf
end M38
