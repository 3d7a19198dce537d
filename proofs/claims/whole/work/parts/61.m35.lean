section M35
variable {G : GT} {m0 n u : Nat} {F : HS} {d : Nat} {I : Nat → Int} {A : Nat → Int → Int} {D : Int64} {post : Option Value → MT → Prop} {S : SY} {b : Int}
theorem getD_drop1T (l : List (List Int × Int)) (k : Nat) : (l.drop 1).getD k ([], 0) = l.getD (k + 1) ([], 0) := by
  rw [List.getD_eq_getElem?_getD, List.getD_eq_getElem?_getD, List.getElem?_drop, Nat.add_comm]
theorem o_take {z : Int} (hz : rg z) (hm : RepM I A S) (hw : WfSy b S) (hb : b ≤ 90000000) (hp : ∀ I' A', RepM I' A' (oTake S z).2 → post (some (vi (oTake S z).1)) (I', A', D)) : Cm G (AM G m0 F n u) yX12_take cX12_take 4 (some .int) (d + 2) [.ref m0, vi z] (I, A, D) post := by
  obtain ⟨tp, bx, hd, rf, il, ru, tl, s, ps, im⟩ := S
  have hm0 := hm
  have hw0 := hw
  obtain ⟨-, -, -, -, m1, -, -, m3, -, m2⟩ := hm0
  obtain ⟨-, -, -, -, w1, -, w3, w4, w2⟩ := hw0
  refine Cm_intro (L := [some (.ref m0), some (vi z), none, none]) (by decide +kernel) (Nat.le_of_ble_eq_true rfl) rfl ?_
  have e17 : up I 0 0 17 = il := by rw [up_n (by decide)]; exact m1
  have e33 : up I 0 0 33 = ps.length := by rw [up_n (by decide)]; exact m3
  refine s_aload_n 1 dX12_take_0 rfl rfl ?_
  refine s_iconst 2 dX12_take_1 rfl ?_
  refine m_putI 5 0 dX12_take_2 rfl fl_X12_60 (by decide) rfl rfl rfl rfl ?_
  refine s_aload_n 6 dX12_take_5 rfl rfl ?_
  refine m_getI 9 17 dX12_take_6 rfl fl_X12_188 (by decide) rfl (fun hr6 => ?_)
  refine s_if_ne 12 18 dX12_take_9 rfl rfl (fun g => ?_) (fun g => ?_)
  rotate_left
  · rw [show oTake (tp, bx, hd, rf, il, ru, tl, s, ps, im) z = (-1, tp, bx, hd, rfF rf 0, il, ru, tl, s, ps, im) from if_pos (by omega)] at hp
    refine s_aload_n 13 dX12_take_12 rfl rfl ?_
    refine s_iconst 14 dX12_take_13 rfl ?_
    refine s_V1i 17 dX12_take_14 rfl km_X12_refuses ml_X12_280 ds_X12_refuses (Nat.le_of_ble_eq_true rfl) m_rec rfl (c_refuses (by omega) (rf_rg hm hw hb 0 (by decide)) ?_)
    refine ⟨_, rfl, ?_⟩
    refine s_ireturn rfl dX12_take_17 ?_
    exact hp _ _ (hm.rf' 0 (by decide))
  have hil : il = 1 := by omega
  subst hil
  obtain ⟨hru, htl, hs, hps, him⟩ := m2 rfl
  obtain ⟨hwr, hwt, ⟨hws, hwc⟩, hwp, hwi⟩ := w2 rfl
  have hl := hws.1
  have h0 := hs.1
  have e23 : up I 0 0 23 = ru 5 := by rw [up_n (by decide)]; exact hru.2.2.2.2.2
  have hr5 := hwr.2.2.2.2.2
  have eo : oTake (tp, bx, hd, rf, 1, ru, tl, s, ps, im) z = if ¬ (0 ≤ z ∧ z < ru 5) ∨ (s.2.2.2.2 z.toNat).2.2.1.length = 0 then (-1, tp, bx, hd, rfF rf 1, 1, ru, tl, s, ps, im) else (((((s.2.2.2.2 z.toNat).2.2.1.getD 0 ([], 0)).1.length : Nat) : Int), tp, bx, ((s.2.2.2.2 z.toNat).2.2.1.getD 0 ([], 0)).1, rf, 1, ru, tl, chS s z.toNat (up (up (s.2.2.2.2 z.toNat).1 0 (min (tl z.toNat) ((s.2.2.2.2 z.toNat).1 0 + ((s.2.2.2.2 z.toNat).2.2.1.getD 0 ([], 0)).2))) 7 ((s.2.2.2.2 z.toNat).1 7 + 1), (s.2.2.2.2 z.toNat).2.1, (s.2.2.2.2 z.toNat).2.2.1.drop 1, (s.2.2.2.2 z.toNat).2.2.2), kpF ps s, im) := by rw [oTake]; exact if_neg (by decide)
  rw [eo] at hp
  refine s_aload_n 19 dX12_take_18 rfl rfl ?_
  refine s_iload_n 20 dX12_take_19 rfl rfl ?_
  refine s_V1b 23 dX12_take_20 rfl km_X12_isChannel ml_X12_283 ds_X12_isChannel (Nat.le_of_ble_eq_true rfl) m_rec rfl (c_isChannel hz (by rw [e17]; exact w1) (by omega) ?_)
  refine ⟨_, rfl, ?_⟩
  refine s_if_eqb 26 36 dX12_take_23 rfl rfl (fun g2 => ?_) (fun g2 => ?_)
  · have g2 := of_decide_eq_false g2
    rw [if_pos (Or.inl (fun h => g2 ⟨e17, h.1, by omega⟩))] at hp
    refine s_aload_n 37 dX12_take_36 rfl rfl ?_
    refine s_iconst 38 dX12_take_37 rfl ?_
    refine s_V1i 41 dX12_take_38 rfl km_X12_refuses ml_X12_280 ds_X12_refuses (Nat.le_of_ble_eq_true rfl) m_rec rfl (c_refuses (by omega) (rf_rg hm hw hb 1 (by decide)) ?_)
    refine ⟨_, rfl, ?_⟩
    refine s_ireturn rfl dX12_take_41 ?_
    exact hp _ _ (hm.rf' 1 (by decide))
  have g2 := (of_decide_eq_true g2).2
  have g3 : 0 ≤ z ∧ z < ru 5 := ⟨g2.1, by omega⟩
  obtain ⟨c, rfl⟩ := Int.eq_ofNat_of_zero_le g2.1
  have hcc : c < (ru 5).toNat := by omega
  rw [show ((c : Nat) : Int).toNat = c from rfl] at hp
  have hx := hs.2.2.2.2.2.2.2.2 c hcc
  have hwx := hws.2.2.2.2.2.2.2.2.2.2 c hcc
  have ht1 := htl c hcc
  have ht2 := hwt c hcc
  generalize hxe : s.2.2.2.2 c = x at *
  obtain ⟨⟨a0, a1, a2, a3, a4, a5, a6, a7, a8, a9, a10, a11⟩, hW, hS, hT⟩ := id hx
  obtain ⟨v0, v1, v2, v3, v4, v5, v6, v7, v8, v9, v10, v11, v12, v13, v14⟩ := hwx
  refine s_aload_n 27 dX12_take_26 rfl rfl ?_
  refine s_iload_n 28 dX12_take_27 rfl rfl ?_
  refine s_bipush 30 dX12_take_28 rfl (k := ?_)
  refine s_V2i 33 dX12_take_30 rfl km_X12_its ml_X12_286 ds_X12_its (Nat.le_of_ble_eq_true rfl) m_rec rfl (c_itsP (by omega) (by omega) (fun hr => ?_))
  refine ⟨_, rfl, ?_⟩
  rw [a7]
  refine s_if_ne 36 42 dX12_take_33 rfl rfl (fun g4 => ?_) (fun g4 => ?_)
  rotate_left
  · rw [if_pos (Or.inr (by omega))] at hp
    refine s_aload_n 37 dX12_take_36 rfl rfl ?_
    refine s_iconst 38 dX12_take_37 rfl ?_
    refine s_V1i 41 dX12_take_38 rfl km_X12_refuses ml_X12_280 ds_X12_refuses (Nat.le_of_ble_eq_true rfl) m_rec rfl (c_refuses (by omega) (rf_rg hm hw hb 1 (by decide)) ?_)
    refine ⟨_, rfl, ?_⟩
    refine s_ireturn rfl dX12_take_41 ?_
    exact hp _ _ (hm.rf' 1 (by decide))
  rw [if_neg (fun h => h.elim (fun h => h g3) (fun h => by omega))] at hp
  have hT0 := hT 0 (by omega)
  have hwm := v11 _ (getD_mem (x := ([], 0)) (show 0 < x.2.2.1.length by omega))
  generalize hwe : x.2.2.1.getD 0 ([], 0) = w0 at *
  obtain ⟨t1, t2, t3⟩ := hT0
  rw [show (1100 + 122 * ((0 : Nat) : Int)) = 1100 by decide] at t1 t2 t3
  obtain ⟨u1, u2, u3, u4⟩ := hwm
  refine s_aload_n 43 dX12_take_42 rfl rfl ?_
  refine s_V0v 46 dX12_take_43 rfl km_X12_keeps ml_X12_289 ds_X12_keeps (Nat.le_of_ble_eq_true rfl) m_rec rfl (c_keeps e33 w4 (fun A1 f1 f2 f3 => ?_))
  refine ⟨rfl, ?_⟩
  have e13 : A1 3 = A 3 := f1 3 (by decide)
  refine s_iconst 47 dX12_take_46 rfl ?_
  refine s_S1i 50 dX12_take_47 rfl km_X12_hereAt rfl ml_X12_349 ds_X12_hereAt (Nat.le_of_ble_eq_true rfl) (c_hereAt ?_)
  refine ⟨_, rfl, ?_⟩
  refine s_istore_n 51 dX12_take_50 rfl (Nat.le_of_ble_eq_true rfl) rfl ?_
  rw [show (1100 + 122 * (0 : Int)) = 1100 by decide]
  refine s_aload_n 52 dX12_take_51 rfl rfl ?_
  refine s_aload_n 53 dX12_take_52 rfl rfl ?_
  refine s_iload_n 54 dX12_take_53 rfl rfl ?_
  refine s_iload_n 55 dX12_take_54 rfl rfl ?_
  refine s_V2i 58 dX12_take_55 rfl km_X12_its ml_X12_286 ds_X12_its (Nat.le_of_ble_eq_true rfl) m_rec rfl (c_itsP (by omega) (by omega) (fun hr => ?_))
  refine ⟨_, rfl, ?_⟩
  rw [e13, t1]
  refine m_putI 61 38 dX12_take_58 rfl fl_X12_211 (by decide) rfl rfl rfl rfl ?_
  refine s_iconst 62 dX12_take_61 rfl ?_
  refine s_istore_n 63 dX12_take_62 rfl (Nat.le_of_ble_eq_true rfl) rfl ?_
  -- what is left of it behind the copy
  have rest : ∀ A3 : Nat → Int → Int, frA [11] A1 A3 → sg (A3 11) 0 w0.1 → V G (AM G m0 F n u) yX12_take cX12_take 4 (some .int) (d + 2) (up (up (up I 0 0) 33 (((min ps.length 11 : Nat) : Int) + 1)) 38 (w0.1.length : Int), A3, D) 93 [some (.ref m0), some (vi c), some (vi 1100), none] [] post := by
    intro A3 q1 q2
    have e33' : A3 3 = A 3 := (q1 3 (by decide)).trans e13
    have e4 : A3 4 (c : Int) = tl c := by rw [q1 4 (by decide), f1 4 (by decide)]; exact ht1
    refine s_aload_n 94 dX12_take_93 rfl rfl ?_
    refine s_iload_n 95 dX12_take_94 rfl rfl ?_
    refine s_iconst 96 dX12_take_95 rfl ?_
    refine s_aload_n 97 dX12_take_96 rfl rfl ?_
    refine m_getV (k := 24) 100 dX12_take_97 rfl fl_X12_26 (by decide) rfl ?_
    refine s_iload_n 101 dX12_take_100 rfl rfl ?_
    refine m_ald 102 4 4 dX12_take_101 rfl (by decide) rfl (fun hr101 => ?_)
    rw [e4]
    refine s_aload_n 103 dX12_take_102 rfl rfl ?_
    refine s_iload_n 104 dX12_take_103 rfl rfl ?_
    refine s_iconst 105 dX12_take_104 rfl ?_
    refine s_V2i 108 dX12_take_105 rfl km_X12_its ml_X12_286 ds_X12_its (Nat.le_of_ble_eq_true rfl) m_rec rfl (c_itsP (by omega) (by omega) (fun hr => ?_))
    refine ⟨_, rfl, ?_⟩
    rw [e33', a0]
    refine s_aload_n 109 dX12_take_108 rfl rfl ?_
    refine s_iload_n 110 dX12_take_109 rfl rfl ?_
    refine s_iload_n 111 dX12_take_110 rfl rfl ?_
    refine s_iconst 112 dX12_take_111 rfl ?_
    refine s_iadd 113 dX12_take_112 rfl ?_
    refine s_V2i 116 dX12_take_113 rfl km_X12_its ml_X12_286 ds_X12_its (Nat.le_of_ble_eq_true rfl) m_rec rfl (c_itsP (by omega) (by omega) (fun hr => ?_))
    refine ⟨_, rfl, ?_⟩
    rw [e33', t2]
    refine s_iadd 117 dX12_take_116 rfl ?_
    refine s_min (q := 120) (hd := dX12_take_117) (hq := rfl) (hw := ml_X12_97) (hrest := Nat.le_of_ble_eq_true rfl) (k := ?_)
    refine s_V3v 123 dX12_take_120 rfl km_X12_lay ml_X12_201 ds_X12_lay (Nat.le_of_ble_eq_true rfl) m_rec rfl (c_layP (c := c) (by omega) (by omega) (by constructor <;> omega) (fun A4 y1 y2 y3 => ?_))
    refine ⟨rfl, ?_⟩
    rw [e33'] at y2 y3
    refine s_iconst 124 dX12_take_123 rfl ?_
    refine s_S1i 127 dX12_take_124 rfl km_X12_hereAt rfl ml_X12_349 ds_X12_hereAt (Nat.le_of_ble_eq_true rfl) (c_hereAt ?_)
    refine ⟨_, rfl, ?_⟩
    refine s_istore_n 128 dX12_take_127 rfl (Nat.le_of_ble_eq_true rfl) rfl ?_
    rw [show (1100 + 122 * (1 : Int)) = 1222 by decide]
    generalize hcr : min (tl c) (x.1 0 + w0.2) = cr at *
    have key : ∀ (m k : Nat) (A5 : Nat → Int → Int), k + m = 854 → frA [3] A4 A5 → frP c (A 3) (A5 3) → (∀ i, 1100 ≤ i → i < 1100 + (k : Int) → atc (A5 3) c i = atc (A 3) c (i + 122)) → (∀ i, ¬ (1100 ≤ i ∧ i < 1100 + (k : Int)) → atc (A5 3) c i = up (atc (A 3) c) 0 cr i) → V G (AM G m0 F n u) yX12_take cX12_take 4 (some .int) (d + 2) (up (up (up I 0 0) 33 (((min ps.length 11 : Nat) : Int) + 1)) 38 (w0.1.length : Int), A5, D) 128 [some (.ref m0), some (vi c), some (vi 1100), some (vi (1222 + (k : Int)))] [] post := by
      intro m
      induction m with
      | zero =>
        intro k A5 hk r1 r2 r3 r4
        refine s_iload_n 129 dX12_take_128 rfl rfl ?_
        refine s_bipush 131 dX12_take_129 rfl (k := ?_)
        refine s_S1i 134 dX12_take_131 rfl km_X12_hereAt rfl ml_X12_349 ds_X12_hereAt (Nat.le_of_ble_eq_true rfl) (c_hereAt ?_)
        refine ⟨_, rfl, ?_⟩
        rw [show (1100 + 122 * (8 : Int)) = 2076 by decide]
        refine s_icmp_ge 137 160 dX12_take_134 rfl rfl (fun g6 => ?_) (fun g6 => ?_)
        rotate_left
        · omega
        have e7 : atc (A5 3) c 7 = x.2.2.1.length := by rw [r4 7 (by omega), up_n (by decide)]; exact a7
        refine s_aload_n 161 dX12_take_160 rfl rfl ?_
        refine s_iload_n 162 dX12_take_161 rfl rfl ?_
        refine s_bipush 164 dX12_take_162 rfl (k := ?_)
        refine s_iconst 165 dX12_take_164 rfl ?_
        refine s_V3v 168 dX12_take_165 rfl km_X12_more ml_X12_295 ds_X12_more (Nat.le_of_ble_eq_true rfl) m_rec rfl (c_moreP (c := c) (by omega) (by omega) (by rw [e7]; constructor <;> omega) (fun A6 z1 z2 z3 => ?_))
        refine ⟨rfl, ?_⟩
        rw [e7] at z3
        have e10 : atc (A6 3) c 10 = x.1 7 := by rw [z3, up_n (by decide), r4 10 (by omega), up_n (by decide)]; exact a10
        refine s_aload_n 169 dX12_take_168 rfl rfl ?_
        refine s_iload_n 170 dX12_take_169 rfl rfl ?_
        refine s_bipush 172 dX12_take_170 rfl (k := ?_)
        refine s_iconst 173 dX12_take_172 rfl ?_
        refine s_V3v 176 dX12_take_173 rfl km_X12_more ml_X12_295 ds_X12_more (Nat.le_of_ble_eq_true rfl) m_rec rfl (c_moreP (c := c) (by omega) (by omega) (by rw [e10]; constructor <;> omega) (fun A7 x1 x2 x3 => ?_))
        refine ⟨rfl, ?_⟩
        rw [e10, z3] at x3
        refine s_aload_n 177 dX12_take_176 rfl rfl ?_
        refine m_getI 180 38 dX12_take_177 rfl fl_X12_211 (by decide) rfl (fun hr177 => ?_)
        refine s_ireturn rfl dX12_take_180 ?_
        rw [up_s]
        refine hp _ _ (hm.act hw (((frI.rf.up (by decide)).up (by decide)).up (by decide)) ((((((f1.wk (by decide)).trans q1 (by decide)).trans y1 (by decide)).trans r1 (by decide)).trans z1 (by decide)).trans x1 (by decide)) (by rw [up_n (by decide), up_s]) (fun i x y => by rw [x1 8 (by decide), z1 8 (by decide), r1 8 (by decide), y1 8 (by decide), q1 8 (by decide)]; exact f2 i x y) (fun i x y => by rw [x1 8 (by decide), z1 8 (by decide), r1 8 (by decide), y1 8 (by decide), q1 8 (by decide)]; exact f3 i x y) ?_ (by rw [up_n (by decide), up_n (by decide), up_n (by decide)]; exact hm.1.1) (Or.inl rfl) (by rw [up_s]) (by rw [x1 11 (by decide), z1 11 (by decide), r1 11 (by decide), y1 11 (by decide)]; exact q2))
        refine hs.port hws ((r2.trans z2).trans x2) ?_
        rw [x3]
        have hg : ∀ i, i ≠ 0 → i ≠ 7 → i ≠ 10 → i < 1100 → up (up (atc (A5 3) c) 7 ((x.2.2.1.length : Int) + -1)) 10 (x.1 7 + 1) i = atc (A 3) c i := fun i h1 h2 h3 h4 => by rw [up_n h3, up_n h2, r4 i (by omega), up_n h1]
        have hg2 : ∀ i, 1100 ≤ i → i < 1954 → up (up (atc (A5 3) c) 7 ((x.2.2.1.length : Int) + -1)) 10 (x.1 7 + 1) i = atc (A 3) c (i + 122) := fun i h1 h2 => by rw [up_n (by omega), up_n (by omega), r3 i (by omega) (by omega)]
        refine ⟨⟨?_, (hg 1 (by decide) (by decide) (by decide) (by decide)).trans a1, (hg 2 (by decide) (by decide) (by decide) (by decide)).trans a2, (hg 3 (by decide) (by decide) (by decide) (by decide)).trans a3, (hg 4 (by decide) (by decide) (by decide) (by decide)).trans a4, (hg 5 (by decide) (by decide) (by decide) (by decide)).trans a5, (hg 6 (by decide) (by decide) (by decide) (by decide)).trans a6, ?_, (hg 8 (by decide) (by decide) (by decide) (by decide)).trans a8, (hg 9 (by decide) (by decide) (by decide) (by decide)).trans a9, ?_, (hg 11 (by decide) (by decide) (by decide) (by decide)).trans a11⟩, hW.congr v8 v9 (fun i p q => hg i (by omega) (by omega) (by omega) (by omega)), show sg _ 980 x.2.2.2 from sg_congr hS (fun i p q => hg i (by omega) (by omega) (by omega) (by omega)), fun k9 hk9 => ?_⟩
        · rw [up_n (by decide), up_n (by decide), r4 0 (by omega), up_s]
          show cr = up (up x.1 0 cr) 7 (x.1 7 + 1) 0
          rw [up_n (by decide), up_s]
        · rw [up_n (by decide), up_s]
          show _ = ((x.2.2.1.drop 1).length : Int)
          rw [List.length_drop]
          omega
        · rw [up_s]
          show x.1 7 + 1 = up (up x.1 0 cr) 7 (x.1 7 + 1) 7
          rw [up_s]
        · have hk9 : k9 < (x.2.2.1.drop 1).length := hk9
          rw [List.length_drop] at hk9
          show up _ _ _ _ = (((x.2.2.1.drop 1).getD k9 ([], 0)).1.length : Int) ∧ up _ _ _ _ = ((x.2.2.1.drop 1).getD k9 ([], 0)).2 ∧ sg _ _ ((x.2.2.1.drop 1).getD k9 ([], 0)).1
          rw [getD_drop1T]
          obtain ⟨b1, b2, b3⟩ := hT (k9 + 1) (by omega)
          have b4 := (v11 _ (getD_mem (x := ([], 0)) (show k9 + 1 < x.2.2.1.length by omega))).1
          refine ⟨?_, ?_, fun j hj => ?_⟩
          · rw [hg2 _ (by omega) (by omega), ← b1]; congr 1 <;> omega
          · rw [hg2 _ (by omega) (by omega), ← b2]; congr 1 <;> omega
          · rw [hg2 _ (by omega) (by omega), ← b3 j hj]; congr 1 <;> omega
      | succ m ih =>
        intro k A5 hk r1 r2 r3 r4
        refine s_iload_n 129 dX12_take_128 rfl rfl ?_
        refine s_bipush 131 dX12_take_129 rfl (k := ?_)
        refine s_S1i 134 dX12_take_131 rfl km_X12_hereAt rfl ml_X12_349 ds_X12_hereAt (Nat.le_of_ble_eq_true rfl) (c_hereAt ?_)
        refine ⟨_, rfl, ?_⟩
        rw [show (1100 + 122 * (8 : Int)) = 2076 by decide]
        refine s_icmp_ge 137 160 dX12_take_134 rfl rfl (fun g6 => ?_) (fun g6 => ?_)
        · omega
        refine s_aload_n 138 dX12_take_137 rfl rfl ?_
        refine s_iload_n 139 dX12_take_138 rfl rfl ?_
        refine s_iload_n 140 dX12_take_139 rfl rfl ?_
        refine s_bipush 142 dX12_take_140 rfl (k := ?_)
        refine s_isub 143 dX12_take_142 rfl ?_
        refine s_iconst 144 dX12_take_143 rfl ?_
        refine s_isub 145 dX12_take_144 rfl ?_
        refine s_aload_n 146 dX12_take_145 rfl rfl ?_
        refine s_iload_n 147 dX12_take_146 rfl rfl ?_
        refine s_iload_n 148 dX12_take_147 rfl rfl ?_
        refine s_V2i 151 dX12_take_148 rfl km_X12_its ml_X12_286 ds_X12_its (Nat.le_of_ble_eq_true rfl) m_rec rfl (c_itsP (by omega) (by omega) (fun hr => ?_))
        refine ⟨_, rfl, ?_⟩
        have ev : atc (A5 3) c (1222 + (k : Int)) = atc (A 3) c (1222 + (k : Int)) := by rw [r4 _ (by omega), up_n (by omega)]
        refine s_V3v 154 dX12_take_151 rfl km_X12_lay ml_X12_201 ds_X12_lay (Nat.le_of_ble_eq_true rfl) m_rec rfl (c_layP (c := c) (by omega) (by omega) (by assumption) (fun A6 z1 z2 z3 => ?_))
        refine ⟨rfl, ?_⟩
        rw [ev] at z3
        refine s_iinc 157 dX12_take_154 rfl rfl (Nat.le_of_ble_eq_true rfl) rfl ?_
        refine s_goto 128 dX12_take_157 rfl ?_
        rw [show (1222 + (k : Int) + 1) = 1222 + ((k + 1 : Nat) : Int) by omega]
        refine ih (k + 1) A6 (by omega) (r1.trans z1 (by decide)) (r2.trans z2) (fun i p q => ?_) (fun i p => ?_)
        · rw [z3]
          by_cases e : i = 1222 + (k : Int) - 120 - 2
          · subst e; rw [up_s]; congr 1 <;> omega
          · rw [up_n e]; exact r3 i p (by omega)
        · rw [z3, up_n (by omega)]; exact r4 i (by omega)
    refine key 854 0 A4 (by omega) frA.rf y2 (fun i p q => by omega) (fun i _ => by rw [y3])
  have key1 : ∀ (m k : Nat) (A3 : Nat → Int → Int), k + m = w0.1.length → frA [11] A1 A3 → sg (A3 11) 0 (w0.1.take k) → V G (AM G m0 F n u) yX12_take cX12_take 4 (some .int) (d + 2) (up (up (up I 0 0) 33 (((min ps.length 11 : Nat) : Int) + 1)) 38 (w0.1.length : Int), A3, D) 63 [some (.ref m0), some (vi c), some (vi 1100), some (vi k)] [] post := by
    intro m
    induction m with
    | zero =>
      intro k A3 hk q1 q2
      rw [List.take_of_length_le (by omega)] at q2
      refine s_iload_n 64 dX12_take_63 rfl rfl ?_
      refine s_aload_n 65 dX12_take_64 rfl rfl ?_
      refine m_getI 68 38 dX12_take_65 rfl fl_X12_211 (by decide) rfl (fun hr65 => ?_)
      rw [up_s]
      refine s_icmp_ge 71 93 dX12_take_68 rfl rfl (fun g6 => ?_) (fun g6 => ?_)
      rotate_left
      · omega
      exact V_kill 3 (rest A3 q1 q2)
    | succ m ih =>
      intro k A3 hk q1 q2
      have e33' : A3 3 = A 3 := (q1 3 (by decide)).trans e13
      have ev : atc (A3 3) c (1100 + 2 + (k : Int)) = w0.1.getD k 0 := by rw [e33', ← t3 k (by omega)]
      refine s_iload_n 64 dX12_take_63 rfl rfl ?_
      refine s_aload_n 65 dX12_take_64 rfl rfl ?_
      refine m_getI 68 38 dX12_take_65 rfl fl_X12_211 (by decide) rfl (fun hr65 => ?_)
      rw [up_s]
      refine s_icmp_ge 71 93 dX12_take_68 rfl rfl (fun g6 => ?_) (fun g6 => ?_)
      · omega
      refine s_aload_n 72 dX12_take_71 rfl rfl ?_
      refine m_getV (k := 37) 75 dX12_take_72 rfl fl_X12_48 (by decide) rfl ?_
      refine s_iload_n 76 dX12_take_75 rfl rfl ?_
      refine s_aload_n 77 dX12_take_76 rfl rfl ?_
      refine s_iload_n 78 dX12_take_77 rfl rfl ?_
      refine s_iload_n 79 dX12_take_78 rfl rfl ?_
      refine s_iconst 80 dX12_take_79 rfl ?_
      refine s_iadd 81 dX12_take_80 rfl ?_
      refine s_iload_n 82 dX12_take_81 rfl rfl ?_
      refine s_iadd 83 dX12_take_82 rfl ?_
      refine s_V2i 86 dX12_take_83 rfl km_X12_its ml_X12_286 ds_X12_its (Nat.le_of_ble_eq_true rfl) m_rec rfl (c_itsP (by omega) (by omega) (fun hr => ?_))
      refine ⟨_, rfl, ?_⟩
      rw [ev]
      have hby := byt_at u2 k
      refine m_ast 87 11 120 dX12_take_86 rfl (by decide) rfl ?_
      refine s_iinc 90 dX12_take_87 rfl rfl (Nat.le_of_ble_eq_true rfl) rfl ?_
      refine s_goto 63 dX12_take_90 rfl ?_
      refine ih (k + 1) _ (by omega) (q1.up (by decide)) ?_
      rw [up_s]
      have et : w0.1.take (k + 1) = w0.1.take k ++ [w0.1.getD k 0] := by
        have := take_snoc (bs := w0.1) (p := 0) (r := k) (by omega)
        rw [List.drop_zero, Nat.zero_add] at this
        exact this
      rw [et]
      exact sg_snoc' q2 (by rw [List.length_take_of_le (by omega)]; omega)
  exact key1 w0.1.length 0 A1 (by omega) frA.rf (by rw [List.take_zero]; exact sg_nil _ _)
end M35
