section M32
variable {G : GT} {m0 n u : Nat} {F : HS} {d : Nat} {I : Nat → Int} {A : Nat → Int → Int} {D : Int64} {post : Option Value → MT → Prop} {S : SY} {b : Int}
theorem o_send {z : Int} (hz : rg z) (hm : RepM I A S) (hw : WfSy b S) (hb : b ≤ 90000000) (hp : ∀ I' A', RepM I' A' (oSend S z).2 → post (some (vi (oSend S z).1)) (I', A', D)) : Cm G (AM G m0 F n u) yX12_send cX12_send 4 (some .int) (d + 2) [.ref m0, vi z] (I, A, D) post := by
  obtain ⟨tp, bx, hd, rf, il, ru, tl, s, ps, im⟩ := S
  have hm0 := hm
  have hw0 := hw
  obtain ⟨-, -, -, -, m1, -, -, m3, -, m2⟩ := hm0
  obtain ⟨-, -, -, -, w1, -, w3, w4, w2⟩ := hw0
  refine Cm_intro (L := [some (.ref m0), some (vi z), none, none]) (by decide +kernel) (Nat.le_of_ble_eq_true rfl) rfl ?_
  have e17 : up I 0 0 17 = il := by rw [up_n (by decide)]; exact m1
  have e33 : up I 0 0 33 = ps.length := by rw [up_n (by decide)]; exact m3
  refine s_aload_n 1 dX12_send_0 rfl rfl ?_
  refine s_iconst 2 dX12_send_1 rfl ?_
  refine m_putI 5 0 dX12_send_2 rfl fl_X12_60 (by decide) rfl rfl rfl rfl ?_
  refine s_aload_n 6 dX12_send_5 rfl rfl ?_
  refine m_getI 9 17 dX12_send_6 rfl fl_X12_188 (by decide) rfl (fun hr6 => ?_)
  refine s_if_ne 12 18 dX12_send_9 rfl rfl (fun g => ?_) (fun g => ?_)
  rotate_left
  · rw [show oSend (tp, bx, hd, rf, il, ru, tl, s, ps, im) z = (-1, tp, bx, hd, rfF rf 0, il, ru, tl, s, ps, im) from if_pos (by omega)] at hp
    refine s_aload_n 13 dX12_send_12 rfl rfl ?_
    refine s_iconst 14 dX12_send_13 rfl ?_
    refine s_V1i 17 dX12_send_14 rfl km_X12_refuses ml_X12_280 ds_X12_refuses (Nat.le_of_ble_eq_true rfl) m_rec rfl (c_refuses (by omega) (rf_rg hm hw hb 0 (by decide)) ?_)
    refine ⟨_, rfl, ?_⟩
    refine s_ireturn rfl dX12_send_17 ?_
    exact hp _ _ (hm.rf' 0 (by decide))
  have hil : il = 1 := by omega
  subst hil
  obtain ⟨hru, htl, hs, -, -⟩ := m2 rfl
  obtain ⟨hwr, hwt, ⟨hws, hwc⟩, -, -⟩ := w2 rfl
  have hl := hws.1
  have h0 := hs.1
  have e23 : up I 0 0 23 = ru 5 := by rw [up_n (by decide)]; exact hru.2.2.2.2.2
  have hr5 := hwr.2.2.2.2.2
  obtain ⟨mt1, mt2⟩ := hm.1
  obtain ⟨wt1, wt2⟩ := hw.1
  have e2 : up I 0 0 2 = tp.length := by rw [up_n (by decide)]; exact mt1
  have eo : oSend (tp, bx, hd, rf, 1, ru, tl, s, ps, im) z = if ¬ (0 ≤ z ∧ z < ru 5) then (-1, tp, bx, hd, rfF rf 1, 1, ru, tl, s, ps, im) else if 120 < tp.length then (-1, tp, bx, hd, rfF rf 2, 1, ru, tl, s, ps, im) else if (s.2.2.2.2 z.toNat).2.1.length = 8 then (-1, tp, bx, hd, rfF rf 3, 1, ru, tl, s, ps, im) else (((s.2.2.2.2 z.toNat).2.1.length : Int) + 1, [], bx, hd, rf, 1, ru, tl, chS s z.toNat ((s.2.2.2.2 z.toNat).1, (s.2.2.2.2 z.toNat).2.1 ++ [tp], (s.2.2.2.2 z.toNat).2.2), kpF ps s, im) := by rw [oSend]; exact if_neg (by decide)
  rw [eo] at hp
  refine s_aload_n 19 dX12_send_18 rfl rfl ?_
  refine s_iload_n 20 dX12_send_19 rfl rfl ?_
  refine s_V1b 23 dX12_send_20 rfl km_X12_isChannel ml_X12_283 ds_X12_isChannel (Nat.le_of_ble_eq_true rfl) m_rec rfl (c_isChannel hz (by rw [e17]; exact w1) (by omega) ?_)
  refine ⟨_, rfl, ?_⟩
  refine s_if_neb 26 32 dX12_send_23 rfl rfl (fun g2 => ?_) (fun g2 => ?_)
  rotate_left
  · have g2 := of_decide_eq_false g2
    rw [if_pos (fun h => g2 ⟨e17, h.1, by omega⟩)] at hp
    refine s_aload_n 27 dX12_send_26 rfl rfl ?_
    refine s_iconst 28 dX12_send_27 rfl ?_
    refine s_V1i 31 dX12_send_28 rfl km_X12_refuses ml_X12_280 ds_X12_refuses (Nat.le_of_ble_eq_true rfl) m_rec rfl (c_refuses (by omega) (rf_rg hm hw hb 1 (by decide)) ?_)
    refine ⟨_, rfl, ?_⟩
    refine s_ireturn rfl dX12_send_31 ?_
    exact hp _ _ (hm.rf' 1 (by decide))
  have g2 := (of_decide_eq_true g2).2
  have g3 : 0 ≤ z ∧ z < ru 5 := ⟨g2.1, by omega⟩
  rw [if_neg (fun h => h g3)] at hp
  obtain ⟨c, rfl⟩ := Int.eq_ofNat_of_zero_le g2.1
  have hcc : c < (ru 5).toNat := by omega
  rw [show ((c : Nat) : Int).toNat = c from rfl] at hp
  have hx := hs.2.2.2.2.2.2.2.2 c hcc
  have hwx := hws.2.2.2.2.2.2.2.2.2.2 c hcc
  generalize hxe : s.2.2.2.2 c = x at *
  obtain ⟨⟨a0, a1, a2, a3, a4, a5, a6, a7, a8, a9, a10, a11⟩, hW, hS, hT⟩ := id hx
  have wl := hwx.2.2.2.2.2.2.2.2.1
  have wq := hwx.2.2.2.2.2.2.2.2.2.1
  refine s_aload_n 33 dX12_send_32 rfl rfl ?_
  refine m_getI 36 2 dX12_send_33 rfl fl_X12_63 (by decide) rfl (fun hr33 => ?_)
  refine s_bipush 38 dX12_send_36 rfl (k := ?_)
  refine s_icmp_le 41 47 dX12_send_38 rfl rfl (fun g4 => ?_) (fun g4 => ?_)
  rotate_left
  · rw [if_pos (by omega)] at hp
    refine s_aload_n 42 dX12_send_41 rfl rfl ?_
    refine s_iconst 43 dX12_send_42 rfl ?_
    refine s_V1i 46 dX12_send_43 rfl km_X12_refuses ml_X12_280 ds_X12_refuses (Nat.le_of_ble_eq_true rfl) m_rec rfl (c_refuses (by omega) (rf_rg hm hw hb 2 (by decide)) ?_)
    refine ⟨_, rfl, ?_⟩
    refine s_ireturn rfl dX12_send_46 ?_
    exact hp _ _ (hm.rf' 2 (by decide))
  rw [if_neg (by omega)] at hp
  refine s_aload_n 48 dX12_send_47 rfl rfl ?_
  refine s_iload_n 49 dX12_send_48 rfl rfl ?_
  refine s_iconst 50 dX12_send_49 rfl ?_
  refine s_V2i 53 dX12_send_50 rfl km_X12_its ml_X12_286 ds_X12_its (Nat.le_of_ble_eq_true rfl) m_rec rfl (c_itsP (by omega) (by omega) (fun hr => ?_))
  refine ⟨_, rfl, ?_⟩
  rw [a1]
  refine s_bipush 55 dX12_send_53 rfl (k := ?_)
  refine s_icmp_ne 58 64 dX12_send_55 rfl rfl (fun g5 => ?_) (fun g5 => ?_)
  rotate_left
  · rw [if_pos (by omega)] at hp
    refine s_aload_n 59 dX12_send_58 rfl rfl ?_
    refine s_iconst 60 dX12_send_59 rfl ?_
    refine s_V1i 63 dX12_send_60 rfl km_X12_refuses ml_X12_280 ds_X12_refuses (Nat.le_of_ble_eq_true rfl) m_rec rfl (c_refuses (by omega) (rf_rg hm hw hb 3 (by decide)) ?_)
    refine ⟨_, rfl, ?_⟩
    refine s_ireturn rfl dX12_send_63 ?_
    exact hp _ _ (hm.rf' 3 (by decide))
  rw [if_neg (by omega)] at hp
  refine s_aload_n 65 dX12_send_64 rfl rfl ?_
  refine s_V0v 68 dX12_send_65 rfl km_X12_keeps ml_X12_289 ds_X12_keeps (Nat.le_of_ble_eq_true rfl) m_rec rfl (c_keeps e33 w4 (fun A1 f1 f2 f3 => ?_))
  refine ⟨rfl, ?_⟩
  have e13 : A1 3 = A 3 := f1 3 (by decide)
  refine s_aload_n 69 dX12_send_68 rfl rfl ?_
  refine s_iload_n 70 dX12_send_69 rfl rfl ?_
  refine s_iconst 71 dX12_send_70 rfl ?_
  refine s_V2i 74 dX12_send_71 rfl km_X12_its ml_X12_286 ds_X12_its (Nat.le_of_ble_eq_true rfl) m_rec rfl (c_itsP (by omega) (by omega) (fun hr => ?_))
  refine ⟨_, rfl, ?_⟩
  rw [e13, a1]
  refine s_S1i 77 dX12_send_74 rfl km_X12_waitAt rfl ml_X12_292 ds_X12_waitAt (Nat.le_of_ble_eq_true rfl) (c_waitAt ?_)
  refine ⟨_, rfl, ?_⟩
  refine s_istore_n 78 dX12_send_77 rfl (Nat.le_of_ble_eq_true rfl) rfl ?_
  have e2' : up (up I 0 0) 33 (((min ps.length 11 : Nat) : Int) + 1) 2 = tp.length := by rw [up_n (by decide)]; exact e2
  refine s_aload_n 79 dX12_send_78 rfl rfl ?_
  refine s_iload_n 80 dX12_send_79 rfl rfl ?_
  refine s_iload_n 81 dX12_send_80 rfl rfl ?_
  refine s_aload_n 82 dX12_send_81 rfl rfl ?_
  refine m_getI 85 2 dX12_send_82 rfl fl_X12_63 (by decide) rfl (fun hr82 => ?_)
  refine s_V3v 88 dX12_send_85 rfl km_X12_lay ml_X12_201 ds_X12_lay (Nat.le_of_ble_eq_true rfl) m_rec rfl (c_layP (c := c) (by omega) (by omega) (by assumption) (fun A2 y1 y2 y3 => ?_))
  refine ⟨rfl, ?_⟩
  refine s_iconst 89 dX12_send_88 rfl ?_
  refine s_istore_n 90 dX12_send_89 rfl (Nat.le_of_ble_eq_true rfl) rfl ?_
  rw [e2', e13] at y3
  rw [e13] at y2
  have key : ∀ (m k : Nat) (A3 : Nat → Int → Int), k + m = tp.length → frA [3] A1 A3 → frP c (A 3) (A3 3) → (∀ i, i < 12 + 121 * (x.2.1.length : Int) ∨ 12 + 121 * (x.2.1.length : Int) + 121 ≤ i → atc (A3 3) c i = atc (A 3) c i) → atc (A3 3) c (12 + 121 * (x.2.1.length : Int)) = tp.length → sg (atc (A3 3) c) (12 + 121 * (x.2.1.length : Int) + 1) (tp.take k) → V G (AM G m0 F n u) yX12_send cX12_send 4 (some .int) (d + 2) (up (up I 0 0) 33 (((min ps.length 11 : Nat) : Int) + 1), A3, D) 90 [some (.ref m0), some (vi c), some (vi (12 + 121 * (x.2.1.length : Int))), some (vi k)] [] post := by
    intro m
    induction m with
    | zero =>
      intro k A3 hk q1 q2 q3 q4 q5
      rw [List.take_of_length_le (by omega)] at q5
      refine s_iload_n 91 dX12_send_90 rfl rfl ?_
      refine s_aload_n 92 dX12_send_91 rfl rfl ?_
      refine m_getI 95 2 dX12_send_92 rfl fl_X12_63 (by decide) rfl (fun hr92 => ?_)
      refine s_icmp_ge 98 120 dX12_send_95 rfl rfl (fun g6 => ?_) (fun g6 => ?_)
      rotate_left
      · omega
      have e1 : atc (A3 3) c 1 = x.2.1.length := (q3 1 (by omega)).trans a1
      refine s_aload_n 121 dX12_send_120 rfl rfl ?_
      refine s_iload_n 122 dX12_send_121 rfl rfl ?_
      refine s_iconst 123 dX12_send_122 rfl ?_
      refine s_iconst 124 dX12_send_123 rfl ?_
      refine s_V3v 127 dX12_send_124 rfl km_X12_more ml_X12_295 ds_X12_more (Nat.le_of_ble_eq_true rfl) m_rec rfl (c_moreP (c := c) (by omega) (by omega) (by rw [e1]; constructor <;> omega) (fun A4 z1 z2 z3 => ?_))
      refine ⟨rfl, ?_⟩
      rw [e1] at z3
      refine s_aload_n 128 dX12_send_127 rfl rfl ?_
      refine s_iconst 129 dX12_send_128 rfl ?_
      refine m_putI 132 2 dX12_send_129 rfl fl_X12_63 (by decide) rfl rfl rfl rfl ?_
      refine s_aload_n 133 dX12_send_132 rfl rfl ?_
      refine s_iload_n 134 dX12_send_133 rfl rfl ?_
      refine s_iconst 135 dX12_send_134 rfl ?_
      refine s_V2i 138 dX12_send_135 rfl km_X12_its ml_X12_286 ds_X12_its (Nat.le_of_ble_eq_true rfl) m_rec rfl (c_itsP (by omega) (by omega) (fun hr => ?_))
      refine ⟨_, rfl, ?_⟩
      refine s_ireturn rfl dX12_send_138 ?_
      rw [z3, up_s]
      refine hp _ _ (hm.act hw (((frI.rf.up (by decide)).up (by decide)).up (by decide)) (((f1.wk (by decide)).trans q1 (by decide)).trans z1 (by decide)) (by rw [up_n (by decide), up_s]) (fun i x y => by rw [z1 8 (by decide), q1 8 (by decide)]; exact f2 i x y) (fun i x y => by rw [z1 8 (by decide), q1 8 (by decide)]; exact f3 i x y) ?_ (by rw [up_s]; rfl) (Or.inr rfl) (by rw [up_n (by decide), up_n (by decide), up_n (by decide)]; exact hm.2.2.1.1) (by rw [z1 11 (by decide), q1 11 (by decide), f1 11 (by decide)]; exact hm.2.2.1.2))
      refine hs.port hws (q2.trans z2) ?_
      rw [z3]
      have hg : ∀ i, i ≠ 1 → (i < 12 + 121 * (x.2.1.length : Int) ∨ 12 + 121 * (x.2.1.length : Int) + 121 ≤ i) → up (atc (A3 3) c) 1 ((x.2.1.length : Int) + 1) i = atc (A 3) c i := fun i h1 h2 => by rw [up_n h1]; exact q3 i h2
      refine ⟨⟨(hg 0 (by decide) (by omega)).trans a0, ?_, (hg 2 (by decide) (by omega)).trans a2, (hg 3 (by decide) (by omega)).trans a3, (hg 4 (by decide) (by omega)).trans a4, (hg 5 (by decide) (by omega)).trans a5, (hg 6 (by decide) (by omega)).trans a6, (hg 7 (by decide) (by omega)).trans a7, (hg 8 (by decide) (by omega)).trans a8, (hg 9 (by decide) (by omega)).trans a9, (hg 10 (by decide) (by omega)).trans a10, (hg 11 (by decide) (by omega)).trans a11⟩, fun k9 hk9 => ?_, sg_congr hS (fun i p q => hg i (by omega) (by have := hwx.2.2.2.2.2.2.2.2.2.2.2.2.1; omega)), hT.congr hwx.2.2.2.2.2.2.2.2.2.2.1 hwx.2.2.2.2.2.2.2.2.2.2.2.1 (fun i p q => hg i (by omega) (by omega))⟩
      · rw [up_s]
        show (x.2.1.length : Int) + 1 = ((x.2.1 ++ [tp]).length : Int)
        rw [List.length_append, List.length_singleton]
        omega
      · have hk9 : k9 < (x.2.1 ++ [tp]).length := hk9
        rw [List.length_append, List.length_singleton] at hk9
        show up _ _ _ _ = (((x.2.1 ++ [tp]).getD k9 []).length : Int) ∧ sg _ _ ((x.2.1 ++ [tp]).getD k9 [])
        by_cases e9 : k9 = x.2.1.length
        · subst e9
          have eg : (x.2.1 ++ [tp]).getD x.2.1.length [] = tp := by
            rw [List.getD_eq_getElem?_getD, List.getElem?_append_right (Nat.le_refl _)]
            simp
          rw [eg]
          exact ⟨by rw [up_n (by omega)]; exact q4, sg_congr q5 (fun i p q => up_n (by omega))⟩
        · have eg : (x.2.1 ++ [tp]).getD k9 [] = x.2.1.getD k9 [] := by
            rw [List.getD_eq_getElem?_getD, List.getD_eq_getElem?_getD, List.getElem?_append_left (by omega)]
          rw [eg]
          obtain ⟨u1, u2⟩ := hW k9 (by omega)
          have u3 := (wq _ (getD_mem (x := []) (show k9 < x.2.1.length by omega))).1
          exact ⟨by rw [hg _ (by omega) (by omega)]; exact u1, sg_congr u2 (fun i p q => hg i (by omega) (by omega))⟩
    | succ m ih =>
      intro k A3 hk q1 q2 q3 q4 q5
      have ev : A3 1 (k : Int) = tp.getD k 0 := by rw [q1 1 (by decide), f1 1 (by decide)]; exact sg_slice mt2 (by omega)
      have hby := byt_at wt2 k
      refine s_iload_n 91 dX12_send_90 rfl rfl ?_
      refine s_aload_n 92 dX12_send_91 rfl rfl ?_
      refine m_getI 95 2 dX12_send_92 rfl fl_X12_63 (by decide) rfl (fun hr92 => ?_)
      refine s_icmp_ge 98 120 dX12_send_95 rfl rfl (fun g6 => ?_) (fun g6 => ?_)
      · omega
      refine s_aload_n 99 dX12_send_98 rfl rfl ?_
      refine s_iload_n 100 dX12_send_99 rfl rfl ?_
      refine s_iload_n 101 dX12_send_100 rfl rfl ?_
      refine s_iconst 102 dX12_send_101 rfl ?_
      refine s_iadd 103 dX12_send_102 rfl ?_
      refine s_iload_n 104 dX12_send_103 rfl rfl ?_
      refine s_iadd 105 dX12_send_104 rfl ?_
      refine s_aload_n 106 dX12_send_105 rfl rfl ?_
      refine m_getV (k := 1) 109 dX12_send_106 rfl fl_X12_9 (by decide) rfl ?_
      refine s_iload_n 110 dX12_send_109 rfl rfl ?_
      refine m_ald 111 1 300 dX12_send_110 rfl (by decide) rfl (fun hr110 => ?_)
      rw [ev]
      refine s_V3v 114 dX12_send_111 rfl km_X12_lay ml_X12_201 ds_X12_lay (Nat.le_of_ble_eq_true rfl) m_rec rfl (c_layP (c := c) (by omega) (by omega) (by constructor <;> omega) (fun A4 z1 z2 z3 => ?_))
      refine ⟨rfl, ?_⟩
      refine s_iinc 117 dX12_send_114 rfl rfl (Nat.le_of_ble_eq_true rfl) rfl ?_
      refine s_goto 90 dX12_send_117 rfl ?_
      refine ih (k + 1) A4 (by omega) (q1.trans z1 (by decide)) (q2.trans z2) (fun i hi => ?_) ?_ ?_
      · rw [z3, up_n (by omega)]; exact q3 i hi
      · rw [z3, up_n (by omega)]; exact q4
      · have et : tp.take (k + 1) = tp.take k ++ [tp.getD k 0] := by
          have := take_snoc (bs := tp) (p := 0) (r := k) (by omega)
          rw [List.drop_zero, Nat.zero_add] at this
          exact this
        rw [z3, et]
        exact sg_snoc' q5 (by rw [List.length_take_of_le (by omega)])
  exact key tp.length 0 A2 (by omega) y1 y2 (fun i hi => by rw [y3]; exact up_n (by omega)) (by rw [y3, up_s]) (by rw [List.take_zero]; exact sg_nil _ _)
end M32
