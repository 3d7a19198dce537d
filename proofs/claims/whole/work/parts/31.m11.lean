section M11
variable {G : GT} {m0 n u : Nat} {F : HS} {d : Nat} {I : Nat → Int} {A : Nat → Int → Int} {D : Int64} {post : Option Value → MT → Prop} {ru : RU}
theorem getD_drop1 (l : List (List Int)) (k : Nat) : (l.drop 1).getD k [] = l.getD (k + 1) [] := by
  rw [List.getD_eq_getElem?_getD, List.getD_eq_getElem?_getD, List.getElem?_drop, Nat.add_comm]
theorem c_shiftsWaiting {c : Nat} {x : CH} {b : Int} (hc : c < 4) (hx : RepCh (atc (A 3) c) x) (hw : WfCh b x) (hl : 0 < x.2.1.length) (hp : ∀ A', frA [3] A A' → frP c (A 3) (A' 3) → RepCh (atc (A' 3) c) (up x.1 1 0, x.2.1.drop 1, x.2.2) → post none (I, A', D)) : Cm G (AM G m0 F n u) yX12_shiftsWaiting cX12_shiftsWaiting 3 none (d + 2) [.ref m0, vi c] (I, A, D) post := by
  refine Cm_intro (L := [some (.ref m0), some (vi c), none]) (by decide +kernel) (Nat.le_of_ble_eq_true rfl) rfl ?_
  obtain ⟨⟨a0, a1, a2, a3, a4, a5, a6, a7, a8, a9, a10, a11⟩, hW, hS, hT⟩ := id hx
  obtain ⟨w0, w1, w2, w3, w4, w5, w6, w7, w8, w9, w10, w11, w12, w13, w14⟩ := id hw
  refine s_iconst 1 dX12_shiftsWaiting_0 rfl ?_
  refine s_S1i 4 dX12_shiftsWaiting_1 rfl km_X12_waitAt rfl ml_X12_292 ds_X12_waitAt (Nat.le_of_ble_eq_true rfl) (c_waitAt ?_)
  refine ⟨_, rfl, ?_⟩
  refine s_istore_n 5 dX12_shiftsWaiting_4 rfl (Nat.le_of_ble_eq_true rfl) rfl ?_
  have key : ∀ (k j : Nat) (A' : Nat → Int → Int), j + k = 980 → 133 ≤ j → frA [3] A A' → frP c (A 3) (A' 3) → (∀ i, 12 ≤ i → i < (j : Int) - 121 → atc (A' 3) c i = atc (A 3) c (i + 121)) → (∀ i, i < 12 ∨ (j : Int) - 121 ≤ i → atc (A' 3) c i = atc (A 3) c i) → V G (AM G m0 F n u) yX12_shiftsWaiting cX12_shiftsWaiting 3 none (d + 2) (I, A', D) 5 [some (.ref m0), some (vi c), some (vi j)] [] post := by
    intro k
    induction k with
    | zero =>
      intro j A' hj h1 f1 f2 f3 f4
      refine s_iload_n 6 dX12_shiftsWaiting_5 rfl rfl ?_
      refine s_bipush 8 dX12_shiftsWaiting_6 rfl (k := ?_)
      refine s_S1i 11 dX12_shiftsWaiting_8 rfl km_X12_waitAt rfl ml_X12_292 ds_X12_waitAt (Nat.le_of_ble_eq_true rfl) (c_waitAt ?_)
      refine ⟨_, rfl, ?_⟩
      refine s_icmp_ge 14 37 dX12_shiftsWaiting_11 rfl rfl (fun g => ?_) (fun g => ?_)
      rotate_left
      · omega
      have f9 : atc (A' 3) c 1 = x.2.1.length := (f4 1 (by omega)).trans a1
      refine s_aload_n 38 dX12_shiftsWaiting_37 rfl rfl ?_
      refine s_iload_n 39 dX12_shiftsWaiting_38 rfl rfl ?_
      refine s_iconst 40 dX12_shiftsWaiting_39 rfl ?_
      refine s_iconst 41 dX12_shiftsWaiting_40 rfl ?_
      refine s_V3v 44 dX12_shiftsWaiting_41 rfl km_X12_more ml_X12_295 ds_X12_more (Nat.le_of_ble_eq_true rfl) m_rec rfl (c_moreP (by decide) hc (by omega) (fun B1 r1 r2 r3 => ?_))
      refine ⟨rfl, ?_⟩
      refine s_aload_n 45 dX12_shiftsWaiting_44 rfl rfl ?_
      refine s_iload_n 46 dX12_shiftsWaiting_45 rfl rfl ?_
      refine s_iconst 47 dX12_shiftsWaiting_46 rfl ?_
      refine s_iconst 48 dX12_shiftsWaiting_47 rfl ?_
      refine s_V3v 51 dX12_shiftsWaiting_48 rfl km_X12_lay ml_X12_201 ds_X12_lay (Nat.le_of_ble_eq_true rfl) m_rec rfl (c_layP (by decide) hc (by decide) (fun B2 s1 s2 s3 => ?_))
      refine ⟨rfl, ?_⟩
      refine s_return rfl dX12_shiftsWaiting_51 ?_
      rw [r3, f9] at s3
      refine hp B2 ((f1.trans r1 (fun _ h => h)).trans s1 (fun _ h => h)) ((f2.trans r2).trans s2) ?_
      have hi : ∀ i, 12 ≤ i → atc (B2 3) c i = atc (A' 3) c i := fun i hi => by rw [s3, up_n (by omega), up_n (by omega)]
      have hlow : ∀ i, i < 12 → atc (A' 3) c i = atc (A 3) c i := fun i hi => f4 i (by omega)
      refine ⟨⟨?_, ?_, ?_, ?_, ?_, ?_, ?_, ?_, ?_, ?_, ?_, ?_⟩, fun k2 hk2 => ?_, ?_, ?_⟩
      · rw [s3]; exact (hlow 0 (by omega)).trans a0
      · rw [s3]; show (x.2.1.length : Int) + -1 = ((x.2.1.drop 1).length : Nat); rw [List.length_drop]; omega
      · rw [s3]; rfl
      · rw [s3]; exact (hlow 3 (by omega)).trans a3
      · rw [s3]; exact (hlow 4 (by omega)).trans a4
      · rw [s3]; exact (hlow 5 (by omega)).trans a5
      · rw [s3]; exact (hlow 6 (by omega)).trans a6
      · rw [s3]; exact (hlow 7 (by omega)).trans a7
      · rw [s3]; exact (hlow 8 (by omega)).trans a8
      · rw [s3]; exact (hlow 9 (by omega)).trans a9
      · rw [s3]; exact (hlow 10 (by omega)).trans a10
      · rw [s3]; exact (hlow 11 (by omega)).trans a11
      · have hk2 : k2 < (x.2.1.drop 1).length := hk2
        rw [List.length_drop] at hk2
        show atc (B2 3) c (12 + 121 * (k2 : Int)) = (((x.2.1.drop 1).getD k2 []).length : Nat) ∧ sg (atc (B2 3) c) (12 + 121 * (k2 : Int) + 1) ((x.2.1.drop 1).getD k2 [])
        rw [getD_drop1]
        obtain ⟨v1, v2⟩ := hW (k2 + 1) (by omega)
        have v3 := (w9 _ (getD_mem (x := []) (show k2 + 1 < x.2.1.length by omega))).1
        refine ⟨?_, fun j2 hj2 => ?_⟩
        · rw [hi _ (by omega), f3 _ (by omega) (by omega), ← v1]
          congr 1 <;> omega
        · rw [hi _ (by omega), f3 _ (by omega) (by omega), ← v2 j2 hj2]
          congr 1 <;> omega
      · exact sg_congr hS fun i x1 x2 => by rw [hi i (by omega), f4 i (by omega)]
      · exact hT.congr w10 w11 fun i x1 x2 => by rw [hi i (by omega), f4 i (by omega)]
    | succ k ih =>
      intro j A' hj h1 f1 f2 f3 f4
      refine s_iload_n 6 dX12_shiftsWaiting_5 rfl rfl ?_
      refine s_bipush 8 dX12_shiftsWaiting_6 rfl (k := ?_)
      refine s_S1i 11 dX12_shiftsWaiting_8 rfl km_X12_waitAt rfl ml_X12_292 ds_X12_waitAt (Nat.le_of_ble_eq_true rfl) (c_waitAt ?_)
      refine ⟨_, rfl, ?_⟩
      refine s_icmp_ge 14 37 dX12_shiftsWaiting_11 rfl rfl (fun g => ?_) (fun g => ?_)
      · omega
      refine s_aload_n 15 dX12_shiftsWaiting_14 rfl rfl ?_
      refine s_iload_n 16 dX12_shiftsWaiting_15 rfl rfl ?_
      refine s_iload_n 17 dX12_shiftsWaiting_16 rfl rfl ?_
      refine s_bipush 19 dX12_shiftsWaiting_17 rfl (k := ?_)
      refine s_isub 20 dX12_shiftsWaiting_19 rfl ?_
      refine s_iconst 21 dX12_shiftsWaiting_20 rfl ?_
      refine s_isub 22 dX12_shiftsWaiting_21 rfl ?_
      refine s_aload_n 23 dX12_shiftsWaiting_22 rfl rfl ?_
      refine s_iload_n 24 dX12_shiftsWaiting_23 rfl rfl ?_
      refine s_iload_n 25 dX12_shiftsWaiting_24 rfl rfl ?_
      refine s_V2i 28 dX12_shiftsWaiting_25 rfl km_X12_its ml_X12_286 ds_X12_its (Nat.le_of_ble_eq_true rfl) m_rec rfl (c_itsP (by omega) hc (fun hr => ?_))
      refine ⟨_, rfl, ?_⟩
      refine s_V3v 31 dX12_shiftsWaiting_28 rfl km_X12_lay ml_X12_201 ds_X12_lay (Nat.le_of_ble_eq_true rfl) m_rec rfl (c_layP (by omega) hc hr (fun B1 r1 r2 r3 => ?_))
      refine ⟨rfl, ?_⟩
      refine s_iinc 34 dX12_shiftsWaiting_31 rfl rfl (Nat.le_of_ble_eq_true rfl) rfl ?_
      refine s_goto 5 dX12_shiftsWaiting_34 rfl ?_
      refine ih (j + 1) B1 (by omega) (by omega) (f1.trans r1 (fun _ h => h)) (f2.trans r2) (fun i x1 x2 => ?_) (fun i x1 => ?_)
      · rw [r3]
        by_cases e : i = (j : Int) - 120 - 1
        · subst e
          rw [up_s, f4 _ (by omega)]
          congr 1 <;> omega
        · rw [up_n e]
          exact f3 i x1 (by omega)
      · rw [r3, up_n (by omega)]
        exact f4 i (by omega)
  exact key 847 133 A (by omega) (by omega) frA.rf frP.rf (fun i x1 x2 => by omega) (fun _ _ => rfl)
theorem c_canPut {s : ST} {b : Int} {ch : Nat} (hch : ch = (ru 5).toNat) (hs : RepSt ch (A 3) s) (hw : WfSt b ch s) (hru : RuM I ru) (hwr : WfRu ru) (hp1 : canF ru s → ∀ I' A', frI [26, 28, 29] I I' → frA [5, 6] A A' → post (some (vb true)) (I', A', D)) (hp0 : ¬ canF ru s → ∀ I' A', frI [26, 28, 29] I I' → frA [5, 6] A A' → post (some (vb false)) (I', A', D)) : Cm G (AM G m0 F n u) yX12_canPut cX12_canPut 2 (some .boolean) (d + 4) [.ref m0] (I, A, D) post := by
  refine Cm_intro (L := [some (.ref m0), none]) (by decide +kernel) (Nat.le_of_ble_eq_true rfl) rfl ?_
  obtain ⟨w0, w1, w2, w3, w4, w5, w6, w7, w8, w9, w10⟩ := id hw
  have q5 := hwr.2.2.2.2.2
  have hpk := pickF_ok (s := s) (ch := ch) w6.1 (by omega)
  unfold canF at hp1 hp0
  rw [← hch] at hp1 hp0
  refine s_aload_n 1 dX12_canPut_0 rfl rfl ?_
  refine s_V0i 4 dX12_canPut_1 rfl km_X12_pick ml_X12_298 ds_X12_pick (Nat.le_of_ble_eq_true rfl) m_rec rfl (c_pick hch hs hw hru hwr ?_)
  refine ⟨_, rfl, ?_⟩
  refine s_istore_n 5 dX12_canPut_4 rfl (Nat.le_of_ble_eq_true rfl) rfl ?_
  refine s_iload_n 6 dX12_canPut_5 rfl rfl ?_
  refine s_iconst 7 dX12_canPut_6 rfl ?_
  refine s_icmp_ne 10 12 dX12_canPut_7 rfl rfl (fun g => ?_) (fun g => ?_)
  rotate_left
  · refine s_iconst 11 dX12_canPut_10 rfl ?_
    first | refine s_zreturn rfl dX12_canPut_11 ?_ | refine s_zreturn1 rfl dX12_canPut_11 ?_ | refine s_zreturn0 rfl dX12_canPut_11 ?_
    exact hp0 (fun h => h.1 (by omega)) I A frI.rf frA.rf
  obtain ⟨h1, h2, h3, h4⟩ := hpk.resolve_left g
  generalize pickF s ch = pk at *
  obtain ⟨c, rfl⟩ := Int.eq_ofNat_of_zero_le h1
  rw [Int.toNat_natCast] at *
  have hcc : c < ch := by omega
  have hfl := frmF_ok (k := (c : Int)) (w10 c hcc) hwr (by omega) h3
  refine s_aload_n 13 dX12_canPut_12 rfl rfl ?_
  refine s_iload_n 14 dX12_canPut_13 rfl rfl ?_
  refine s_V1i 17 dX12_canPut_14 rfl km_X12_laysFrame ml_X12_301 ds_X12_laysFrame (Nat.le_of_ble_eq_true rfl) m_rec rfl (c_laysFrame (by omega) (hs.2.2.2.2.2.2.2.2 c hcc) (w10 c hcc) h3 hru hwr (fun I1 A1 k1 k2 k3 k4 => ?_))
  refine ⟨_, rfl, ?_⟩
  refine s_pop (q := 18) (hd := dX12_canPut_17) (hq := rfl) (k := ?_)
  refine s_aload_n 19 dX12_canPut_18 rfl rfl ?_
  refine m_getV (k := 16) 22 dX12_canPut_19 rfl fl_X12_16 (by decide) rfl ?_
  refine s_iconst 23 dX12_canPut_22 rfl ?_
  refine m_ald 24 3 9309 dX12_canPut_23 rfl (by decide) rfl (fun hr23 => ?_)
  refine s_aload_n 25 dX12_canPut_24 rfl rfl ?_
  refine m_getI 28 28 dX12_canPut_25 rfl fl_X12_214 (by decide) rfl (fun hr25 => ?_)
  refine s_iadd 29 dX12_canPut_28 rfl ?_
  refine s_iconst 30 dX12_canPut_29 rfl ?_
  refine s_iadd 31 dX12_canPut_30 rfl ?_
  refine s_sipush 34 dX12_canPut_31 rfl (k := ?_)
  have e0 : A1 3 0 = s.1.length := by rw [k2 3 (by decide)]; exact hs.1
  refine s_icmp_gt 37 41 dX12_canPut_34 rfl rfl (fun g2 => ?_) (fun g2 => ?_)
  · refine s_iconst 42 dX12_canPut_41 rfl ?_
    first | refine s_zreturn rfl dX12_canPut_42 ?_ | refine s_zreturn1 rfl dX12_canPut_42 ?_ | refine s_zreturn0 rfl dX12_canPut_42 ?_
    exact hp0 (fun h => by have := h.2; omega) I1 A1 k1 k2
  · refine s_iconst 38 dX12_canPut_37 rfl ?_
    refine s_goto 42 dX12_canPut_38 rfl ?_
    first | refine s_zreturn rfl dX12_canPut_42 ?_ | refine s_zreturn1 rfl dX12_canPut_42 ?_ | refine s_zreturn0 rfl dX12_canPut_42 ?_
    exact hp1 ⟨g, by omega⟩ I1 A1 k1 k2
theorem c_putsOne {s : ST} {b : Int} {ch : Nat} (hch : ch = (ru 5).toNat) (hs : RepSt ch (A 3) s) (hw : WfSt b ch s) (hru : RuM I ru) (hwr : WfRu ru) (hp1 : canF ru s → ∀ I' A', frI [26, 28, 29] I I' → frA [3, 5, 6] A A' → RepSt ch (A' 3) (putF ru s) → post (some (vb true)) (I', A', D)) (hp0 : ¬ canF ru s → ∀ I' A', frI [26, 28, 29] I I' → frA [5, 6] A A' → post (some (vb false)) (I', A', D)) : Cm G (AM G m0 F n u) yX12_putsOne cX12_putsOne 4 (some .boolean) (d + 4) [.ref m0] (I, A, D) post := by
  refine Cm_intro (L := [some (.ref m0), none, none, none]) (by decide +kernel) (Nat.le_of_ble_eq_true rfl) rfl ?_
  obtain ⟨a0, a1, a2, a3, a4, a5, a6, a7, a8⟩ := id hs
  obtain ⟨w0, w1, w2, w3, w4, w5, w6, w7, w8, w9, w10⟩ := id hw
  have q5 := hwr.2.2.2.2.2
  have q4 := hwr.2.2.2.2.1
  have hpk := pickF_ok (s := s) (ch := ch) w6.1 (by omega)
  unfold canF at hp1 hp0
  unfold putF at hp1
  rw [← hch] at hp1 hp0
  refine s_aload_n 1 dX12_putsOne_0 rfl rfl ?_
  refine s_V0i 4 dX12_putsOne_1 rfl km_X12_pick ml_X12_298 ds_X12_pick (Nat.le_of_ble_eq_true rfl) m_rec rfl (c_pick hch hs hw hru hwr ?_)
  refine ⟨_, rfl, ?_⟩
  refine s_istore_n 5 dX12_putsOne_4 rfl (Nat.le_of_ble_eq_true rfl) rfl ?_
  refine s_iload_n 6 dX12_putsOne_5 rfl rfl ?_
  refine s_iconst 7 dX12_putsOne_6 rfl ?_
  refine s_icmp_ne 10 12 dX12_putsOne_7 rfl rfl (fun g => ?_) (fun g => ?_)
  rotate_left
  · refine s_iconst 11 dX12_putsOne_10 rfl ?_
    first | refine s_zreturn rfl dX12_putsOne_11 ?_ | refine s_zreturn1 rfl dX12_putsOne_11 ?_ | refine s_zreturn0 rfl dX12_putsOne_11 ?_
    exact hp0 (fun h => h.1 (by omega)) I A frI.rf frA.rf
  obtain ⟨h1, h2, h3, h4⟩ := hpk.resolve_left g
  clear hpk
  generalize pickF s ch = pk at *
  obtain ⟨c, rfl⟩ := Int.eq_ofNat_of_zero_le h1
  rw [Int.toNat_natCast] at *
  have hcc : c < ch := by omega
  have hc4 : c < 4 := by omega
  have hwx := w10 c hcc
  have hfl := frmF_ok (k := (c : Int)) hwx hwr (by omega) h3
  have hpn := prtF_len ru (s.2.2.2.2 c)
  refine s_aload_n 13 dX12_putsOne_12 rfl rfl ?_
  refine s_iload_n 14 dX12_putsOne_13 rfl rfl ?_
  refine s_V1i 17 dX12_putsOne_14 rfl km_X12_laysFrame ml_X12_301 ds_X12_laysFrame (Nat.le_of_ble_eq_true rfl) m_rec rfl (c_laysFrame hc4 (a8 c hcc) hwx h3 hru hwr (fun I1 A1 k1 k2 k3 k4 => ?_))
  refine ⟨_, rfl, ?_⟩
  refine s_istore_n 18 dX12_putsOne_17 rfl (Nat.le_of_ble_eq_true rfl) rfl ?_
  refine s_aload_n 19 dX12_putsOne_18 rfl rfl ?_
  refine m_getV (k := 16) 22 dX12_putsOne_19 rfl fl_X12_16 (by decide) rfl ?_
  refine s_iconst 23 dX12_putsOne_22 rfl ?_
  refine m_ald 24 3 9309 dX12_putsOne_23 rfl (by decide) rfl (fun hr23 => ?_)
  refine s_aload_n 25 dX12_putsOne_24 rfl rfl ?_
  refine m_getI 28 28 dX12_putsOne_25 rfl fl_X12_214 (by decide) rfl (fun hr25 => ?_)
  refine s_iadd 29 dX12_putsOne_28 rfl ?_
  refine s_iconst 30 dX12_putsOne_29 rfl ?_
  refine s_iadd 31 dX12_putsOne_30 rfl ?_
  refine s_sipush 34 dX12_putsOne_31 rfl (k := ?_)
  have e3 : A1 3 = A 3 := k2 3 (by decide)
  have e0 : A1 3 0 = s.1.length := by rw [e3]; exact a0
  generalize hfr : frmF ru c (s.2.2.2.2 c) = fr at *
  refine s_icmp_le 37 39 dX12_putsOne_34 rfl rfl (fun g2 => ?_) (fun g2 => ?_)
  rotate_left
  · refine s_iconst 38 dX12_putsOne_37 rfl ?_
    first | refine s_zreturn rfl dX12_putsOne_38 ?_ | refine s_zreturn1 rfl dX12_putsOne_38 ?_ | refine s_zreturn0 rfl dX12_putsOne_38 ?_
    exact hp0 (fun h => by have := h.2; omega) I1 A1 k1 k2
  have hcan : s.1.length + fr.length + 1 ≤ 600 := by omega
  have hp1 := hp1 ⟨g, hcan⟩
  clear hp0
  refine s_iconst 40 dX12_putsOne_39 rfl ?_
  refine s_istore_n 41 dX12_putsOne_40 rfl (Nat.le_of_ble_eq_true rfl) rfl ?_
  have key : ∀ (k j : Nat) (A' : Nat → Int → Int), j + k = fr.length → frA [3, 5, 6] A A' → A' 6 = A1 6 → (∀ i, i < 1 + (s.1.length : Int) ∨ 1 + (s.1.length : Int) + (j : Int) ≤ i → A' 3 i = A 3 i) → sg (A' 3) (1 + (s.1.length : Int)) (fr.take j) → V G (AM G m0 F n u) yX12_putsOne cX12_putsOne 4 (some .boolean) (d + 4) (I1, A', D) 41 [some (.ref m0), some (vi c), some (vi (prtF ru (s.2.2.2.2 c)).length), some (vi j)] [] post := by
    intro k
    induction k with
    | zero =>
      intro j A' hj f1 f2 f3 f4
      obtain rfl : j = fr.length := by omega
      rw [List.take_length] at f4
      have f0 : A' 3 0 = s.1.length := by rw [f3 0 (by omega)]; exact a0
      refine s_iload_n 42 dX12_putsOne_41 rfl rfl ?_
      refine s_aload_n 43 dX12_putsOne_42 rfl rfl ?_
      refine m_getI 46 28 dX12_putsOne_43 rfl fl_X12_214 (by decide) rfl (fun hr43 => ?_)
      refine s_icmp_ge 49 76 dX12_putsOne_46 rfl rfl (fun g3 => ?_) (fun g3 => ?_)
      rotate_left
      · omega
      refine s_aload_n 77 dX12_putsOne_76 rfl rfl ?_
      refine m_getV (k := 16) 80 dX12_putsOne_77 rfl fl_X12_16 (by decide) rfl ?_
      refine s_iconst 81 dX12_putsOne_80 rfl ?_
      refine s_aload_n 82 dX12_putsOne_81 rfl rfl ?_
      refine m_getV (k := 16) 85 dX12_putsOne_82 rfl fl_X12_16 (by decide) rfl ?_
      refine s_iconst 86 dX12_putsOne_85 rfl ?_
      refine m_ald 87 3 9309 dX12_putsOne_86 rfl (by decide) rfl (fun hr86 => ?_)
      refine s_iadd 88 dX12_putsOne_87 rfl ?_
      refine s_aload_n 89 dX12_putsOne_88 rfl rfl ?_
      refine m_getI 92 28 dX12_putsOne_89 rfl fl_X12_214 (by decide) rfl (fun hr89 => ?_)
      refine s_iadd 93 dX12_putsOne_92 rfl ?_
      refine s_iconst 94 dX12_putsOne_93 rfl ?_
      refine m_ast 95 3 9309 dX12_putsOne_94 rfl (by decide) rfl ?_
      rw [f0, k3]
      have f0b : up A' 3 (up (A' 3) (1 + (s.1.length : Int) + (fr.length : Int)) 0) 3 0 = s.1.length := by rw [up_s, up_n (by omega)]; exact f0
      refine s_aload_n 96 dX12_putsOne_95 rfl rfl ?_
      refine m_getV (k := 16) 99 dX12_putsOne_96 rfl fl_X12_16 (by decide) rfl ?_
      refine s_iconst 100 dX12_putsOne_99 rfl ?_
      refine s_dup2 (q := 101) (hd := dX12_putsOne_100) (hq := rfl) (k := ?_)
      refine m_ald 102 3 9309 dX12_putsOne_101 rfl (by decide) rfl (fun hr101 => ?_)
      refine s_aload_n 103 dX12_putsOne_102 rfl rfl ?_
      refine m_getI 106 28 dX12_putsOne_103 rfl fl_X12_214 (by decide) rfl (fun hr103 => ?_)
      refine s_iconst 107 dX12_putsOne_106 rfl ?_
      refine s_iadd 108 dX12_putsOne_107 rfl ?_
      refine s_iadd 109 dX12_putsOne_108 rfl ?_
      refine m_ast 110 3 9309 dX12_putsOne_109 rfl (by decide) rfl ?_
      refine s_aload_n 111 dX12_putsOne_110 rfl rfl ?_
      refine m_getV (k := 16) 114 dX12_putsOne_111 rfl fl_X12_16 (by decide) rfl ?_
      refine s_sipush 117 dX12_putsOne_114 rfl (k := ?_)
      refine s_iload_n 118 dX12_putsOne_117 rfl rfl ?_
      refine m_ast 119 3 9309 dX12_putsOne_118 rfl (by decide) rfl ?_
      rw [f0b, k3]
      simp only [up_s, up_up]
      generalize hX : up (up (up (A' 3) (1 + (s.1.length : Int) + (fr.length : Int)) 0) 0 ((s.1.length : Int) + ((fr.length : Int) + 1))) 803 (c : Int) = X
      have hXo : ∀ i, 803 < i ∨ (600 < i ∧ i < 803) → X i = A 3 i := fun i hi => by rw [← hX, up_n (by omega), up_n (by omega), up_n (by omega)]; exact f3 i (by omega)
      have hX0 : X 0 = (s.1.length : Int) + ((fr.length : Int) + 1) := by rw [← hX, up_n (by decide), up_s]
      have hX8 : X 803 = c := by rw [← hX, up_s]
      have hX1 : sg X 1 (s.1 ++ fr ++ [0]) := by
        rw [sg_append, sg_append]
        refine ⟨⟨sg_congr a1 fun i y1 y2 => ?_, sg_congr f4 fun i y1 y2 => ?_⟩, ?_⟩
        · rw [← hX, up_n (by omega), up_n (by omega), up_n (by omega)]
          exact f3 i (by omega)
        · rw [← hX, up_n (by omega), up_n (by omega), up_n (by omega)]
        · refine sg_cons.mpr ⟨?_, sg_nil _ _⟩
          rw [← hX, up_n (by rw [List.length_append]; omega), up_n (by rw [List.length_append]; omega), show (1 : Int) + ((s.1 ++ fr).length : Nat) = 1 + (s.1.length : Int) + (fr.length : Int) by rw [List.length_append]; omega, up_s]
      have hbase : RepSt ch X (s.1 ++ fr ++ [0], s.2.1, up s.2.2.1 1 (c : Int), s.2.2.2.1, s.2.2.2.2) := by
        refine ⟨?_, hX1, by rw [hXo _ (by omega)]; exact a2, by rw [hXo _ (by omega)]; exact a3, show sg X 603 s.2.1 from sg_congr a4 fun i y1 y2 => hXo i (by omega), hX8, by rw [hXo _ (by omega)]; exact a6, fun i hi => ?_, fun c2 hc2 => (a8 c2 hc2).congr (w10 c2 hc2) fun i y1 y2 => hXo _ (by omega)⟩
        · rw [hX0]
          show _ = ((s.1 ++ fr ++ [0]).length : Int)
          rw [List.length_append, List.length_append, List.length_singleton]
          omega
        · have hi : i < s.2.2.2.1.length := hi
          show sg X (805 + 5 * (i : Int)) (s.2.2.2.1.getD i [])
          exact sg_congr (a7 i hi) fun i y1 y2 => hXo i (by omega)
      have hwb : WfSt b ch (s.1 ++ fr ++ [0], s.2.1, up s.2.2.1 1 (c : Int), s.2.2.2.1, s.2.2.2.2) := ⟨by show (s.1 ++ fr ++ [0]).length ≤ 600; rw [List.length_append, List.length_append, List.length_singleton]; exact hcan, byt_append.mpr ⟨byt_append.mpr ⟨w1, hfl.1⟩, byt_cons.mpr ⟨by omega, byt_nil⟩⟩, w2, w3, w4, w5, by show -1 ≤ (c : Int) ∧ (c : Int) < ch; omega, w7, w8, w9, w10⟩
      have hxc : RepCh (atc X c) (s.2.2.2.2 c) := hbase.2.2.2.2.2.2.2.2 c hcc
      clear hX hXo hX0 hX8 hX1
      have fA : frA [3, 5, 6] A (up A' 3 X) := f1.up (by decide)
      generalize hA9 : up A' 3 X = A9 at fA ⊢
      have eX : X = A9 3 := by rw [← hA9, up_s]
      subst eX
      obtain ⟨⟨b0, b1, b2, b3, b4, b5, b6, b7, b8, b9, b10, b11⟩, hWx, hSx, hTx⟩ := id hxc
      have hm0 : atc (A9 3) c (12 + 121 * 0) = (((s.2.2.2.2 c).2.1.headD []).length : Nat) := by rw [headD_getD]; exact (hWx 0 h3).1
      have v0 := hwx.1
      have v1 := hwx.2.1
      have v2 := hwx.2.2.1
      have hml : ((s.2.2.2.2 c).2.1.headD []).length ≤ 120 := (hwx.2.2.2.2.2.2.2.2.2.1 _ (headD_mem h3)).1
      refine s_aload_n 120 dX12_putsOne_119 rfl rfl ?_
      refine s_iload_n 121 dX12_putsOne_120 rfl rfl ?_
      refine s_iconst 122 dX12_putsOne_121 rfl ?_
      refine s_iconst 123 dX12_putsOne_122 rfl ?_
      refine s_V3v 126 dX12_putsOne_123 rfl km_X12_more ml_X12_295 ds_X12_more (Nat.le_of_ble_eq_true rfl) m_rec rfl (c_moreP (by decide) hc4 (by omega) (fun B1 p1 p2 p3 => ?_))
      refine ⟨rfl, ?_⟩
      refine s_aload_n 127 dX12_putsOne_126 rfl rfl ?_
      refine s_iload_n 128 dX12_putsOne_127 rfl rfl ?_
      refine s_iconst 129 dX12_putsOne_128 rfl ?_
      refine s_aload_n 130 dX12_putsOne_129 rfl rfl ?_
      refine s_iload_n 131 dX12_putsOne_130 rfl rfl ?_
      refine s_iconst 132 dX12_putsOne_131 rfl ?_
      refine s_V2i 135 dX12_putsOne_132 rfl km_X12_its ml_X12_286 ds_X12_its (Nat.le_of_ble_eq_true rfl) m_rec rfl (c_itsP (by decide) hc4 (fun hr => ?_))
      refine ⟨_, rfl, ?_⟩
      have e1 : atc (B1 3) c 3 = (s.2.2.2.2 c).1 2 := by rw [p3, up_n (by decide)]; exact b3
      rw [e1]
      refine s_iconst 136 dX12_putsOne_135 rfl ?_
      refine s_iadd 137 dX12_putsOne_136 rfl ?_
      refine s_bipush 139 dX12_putsOne_137 rfl (k := ?_)
      refine s_irem (q := 140) (hd := dX12_putsOne_139) (hq := rfl) (k := ?_)
      refine s_V3v 143 dX12_putsOne_140 rfl km_X12_lay ml_X12_201 ds_X12_lay (Nat.le_of_ble_eq_true rfl) m_rec rfl (c_layP (by decide) hc4 (by omega) (fun B2 q1 q2 q3 => ?_))
      refine ⟨rfl, ?_⟩
      have e2 : atc (B2 3) c 2 = (s.2.2.2.2 c).1 1 := by rw [q3, up_n (by decide), p3, up_n (by decide)]; exact b2
      refine s_aload_n 144 dX12_putsOne_143 rfl rfl ?_
      refine s_iload_n 145 dX12_putsOne_144 rfl rfl ?_
      refine s_iconst 146 dX12_putsOne_145 rfl ?_
      refine s_iload_n 147 dX12_putsOne_146 rfl rfl ?_
      refine s_V3v 150 dX12_putsOne_147 rfl km_X12_more ml_X12_295 ds_X12_more (Nat.le_of_ble_eq_true rfl) m_rec rfl (c_moreP (by decide) hc4 (by omega) (fun B3 r1 r2 r3 => ?_))
      refine ⟨rfl, ?_⟩
      refine s_aload_n 151 dX12_putsOne_150 rfl rfl ?_
      refine s_iload_n 152 dX12_putsOne_151 rfl rfl ?_
      refine s_iconst 153 dX12_putsOne_152 rfl ?_
      refine s_V2i 156 dX12_putsOne_153 rfl km_X12_its ml_X12_286 ds_X12_its (Nat.le_of_ble_eq_true rfl) m_rec rfl (c_itsP (by decide) hc4 (fun hr => ?_))
      refine ⟨_, rfl, ?_⟩
      refine s_aload_n 157 dX12_putsOne_156 rfl rfl ?_
      refine s_iload_n 158 dX12_putsOne_157 rfl rfl ?_
      refine s_iconst 159 dX12_putsOne_158 rfl ?_
      refine s_S1i 162 dX12_putsOne_159 rfl km_X12_waitAt rfl ml_X12_292 ds_X12_waitAt (Nat.le_of_ble_eq_true rfl) (c_waitAt ?_)
      refine ⟨_, rfl, ?_⟩
      refine s_V2i 165 dX12_putsOne_162 rfl km_X12_its ml_X12_286 ds_X12_its (Nat.le_of_ble_eq_true rfl) m_rec rfl (c_itsP (by decide) hc4 (fun hr => ?_))
      refine ⟨_, rfl, ?_⟩
      have e3 : atc (B3 3) c 2 = (s.2.2.2.2 c).1 1 + ((prtF ru (s.2.2.2.2 c)).length : Int) := by rw [r3, up_s, e2]
      have e4 : atc (B3 3) c (12 + 121 * 0) = (((s.2.2.2.2 c).2.1.headD []).length : Nat) := by rw [r3, up_n (by decide), q3, up_n (by decide), p3, up_n (by decide)]; exact hm0
      rw [e3, e4]
      rw [e2, q3, p3, b0] at r3
      have u1 := (p1.trans q1 (fun _ h => h)).trans r1 (fun _ h => h)
      have u2 := (p2.trans q2).trans r2
      have hy : RepCh (atc (B3 3) c) (up (up (up (s.2.2.2.2 c).1 0 ((s.2.2.2.2 c).1 0 - 1)) 2 (((s.2.2.2.2 c).1 2 + 1) % 16)) 1 ((s.2.2.2.2 c).1 1 + ((prtF ru (s.2.2.2.2 c)).length : Int)), (s.2.2.2.2 c).2) := by
        refine RepCh.hdr hxc hwx (fun i y1 y2 => by rw [r3, up_n (by omega), up_n (by omega), up_n (by omega)]) ?_
        rw [r3]
        exact ⟨rfl, b1, rfl, rfl, b4, b5, b6, b7, b8, b9, b10, b11⟩
      have hwy : WfCh b (up (up (up (s.2.2.2.2 c).1 0 ((s.2.2.2.2 c).1 0 - 1)) 2 (((s.2.2.2.2 c).1 2 + 1) % 16)) 1 ((s.2.2.2.2 c).1 1 + ((prtF ru (s.2.2.2.2 c)).length : Int)), (s.2.2.2.2 c).2) := by
        obtain ⟨z0, z1, z2, z3, z4, z5, z6, z7, z8, z9, z10, z11, z12, z13, z14⟩ := id hwx
        exact ⟨by show 0 ≤ (s.2.2.2.2 c).1 0 - 1 ∧ (s.2.2.2.2 c).1 0 - 1 ≤ 8; omega, ⟨by show 0 ≤ (s.2.2.2.2 c).1 1 + ((prtF ru (s.2.2.2.2 c)).length : Int); omega, by show (s.2.2.2.2 c).1 1 + ((prtF ru (s.2.2.2.2 c)).length : Int) ≤ (((s.2.2.2.2 c).2.1.headD []).length : Int); omega⟩, by show 0 ≤ ((s.2.2.2.2 c).1 2 + 1) % 16 ∧ ((s.2.2.2.2 c).1 2 + 1) % 16 ≤ 15; omega, z3, z4, z5, z6, z7, z8, z9, z10, z11, z12, z13, z14⟩
      have v9 : frA [3, 5, 6] A B3 := fA.trans u1 (by decide)
      refine s_icmp_ne 168 173 dX12_putsOne_165 rfl rfl (fun g5 => ?_) (fun g5 => ?_)
      · refine s_iconst 174 dX12_putsOne_173 rfl ?_
        first | refine s_zreturn rfl dX12_putsOne_174 ?_ | refine s_zreturn1 rfl dX12_putsOne_174 ?_ | refine s_zreturn0 rfl dX12_putsOne_174 ?_
        refine hp1 I1 B3 k1 v9 ?_
        rw [show wasF ru (s.2.2.2.2 c) = (up (up (up (s.2.2.2.2 c).1 0 ((s.2.2.2.2 c).1 0 - 1)) 2 (((s.2.2.2.2 c).1 2 + 1) % 16)) 1 ((s.2.2.2.2 c).1 1 + ((prtF ru (s.2.2.2.2 c)).length : Int)), (s.2.2.2.2 c).2) from if_neg g5]
        exact hbase.port hwb u2 hy
      · refine s_aload_n 169 dX12_putsOne_168 rfl rfl ?_
        refine s_iload_n 170 dX12_putsOne_169 rfl rfl ?_
        refine s_V1v 173 dX12_putsOne_170 rfl km_X12_shiftsWaiting ml_X12_304 ds_X12_shiftsWaiting (Nat.le_of_ble_eq_true rfl) m_rec rfl (c_shiftsWaiting hc4 hy hwy h3 (fun B4 s1 s2 s3 => ?_))
        refine ⟨rfl, ?_⟩
        refine s_iconst 174 dX12_putsOne_173 rfl ?_
        first | refine s_zreturn rfl dX12_putsOne_174 ?_ | refine s_zreturn1 rfl dX12_putsOne_174 ?_ | refine s_zreturn0 rfl dX12_putsOne_174 ?_
        refine hp1 I1 B4 k1 (v9.trans s1 (by decide)) ?_
        rw [show wasF ru (s.2.2.2.2 c) = (up (up (up (s.2.2.2.2 c).1 0 ((s.2.2.2.2 c).1 0 - 1)) 2 (((s.2.2.2.2 c).1 2 + 1) % 16)) 1 0, (s.2.2.2.2 c).2.1.drop 1, (s.2.2.2.2 c).2.2) from if_pos (by omega)]
        have s4 : RepCh (atc (B4 3) c) (up (up (up (s.2.2.2.2 c).1 0 ((s.2.2.2.2 c).1 0 - 1)) 2 (((s.2.2.2.2 c).1 2 + 1) % 16)) 1 0, (s.2.2.2.2 c).2.1.drop 1, (s.2.2.2.2 c).2.2) := by
          have s5 := s3
          rw [up_up] at s5
          exact s5
        exact hbase.port hwb (u2.trans s2) s4
    | succ k ih =>
      intro j A' hj f1 f2 f3 f4
      have f0 : A' 3 0 = s.1.length := by rw [f3 0 (by omega)]; exact a0
      have fv : A' 6 (j : Int) = fr.getD j 0 := by rw [f2]; exact sg_slice k4 (by omega)
      refine s_iload_n 42 dX12_putsOne_41 rfl rfl ?_
      refine s_aload_n 43 dX12_putsOne_42 rfl rfl ?_
      refine m_getI 46 28 dX12_putsOne_43 rfl fl_X12_214 (by decide) rfl (fun hr43 => ?_)
      refine s_icmp_ge 49 76 dX12_putsOne_46 rfl rfl (fun g3 => ?_) (fun g3 => ?_)
      · omega
      refine s_aload_n 50 dX12_putsOne_49 rfl rfl ?_
      refine m_getV (k := 16) 53 dX12_putsOne_50 rfl fl_X12_16 (by decide) rfl ?_
      refine s_iconst 54 dX12_putsOne_53 rfl ?_
      refine s_aload_n 55 dX12_putsOne_54 rfl rfl ?_
      refine m_getV (k := 16) 58 dX12_putsOne_55 rfl fl_X12_16 (by decide) rfl ?_
      refine s_iconst 59 dX12_putsOne_58 rfl ?_
      refine m_ald 60 3 9309 dX12_putsOne_59 rfl (by decide) rfl (fun hr59 => ?_)
      refine s_iadd 61 dX12_putsOne_60 rfl ?_
      refine s_iload_n 62 dX12_putsOne_61 rfl rfl ?_
      refine s_iadd 63 dX12_putsOne_62 rfl ?_
      refine s_aload_n 64 dX12_putsOne_63 rfl rfl ?_
      refine m_getV (k := 27) 67 dX12_putsOne_64 rfl fl_X12_32 (by decide) rfl ?_
      refine s_iload_n 68 dX12_putsOne_67 rfl rfl ?_
      refine m_ald 69 6 1400 dX12_putsOne_68 rfl (by decide) rfl (fun hr68 => ?_)
      refine m_ast 70 3 9309 dX12_putsOne_69 rfl (by decide) rfl ?_
      refine s_iinc 73 dX12_putsOne_70 rfl rfl (Nat.le_of_ble_eq_true rfl) rfl ?_
      refine s_goto 41 dX12_putsOne_73 rfl ?_
      rw [f0, fv]
      have et : fr.take (j + 1) = fr.take j ++ [fr.getD j 0] := by
        have := take_snoc (bs := fr) (p := 0) (r := j) (by omega)
        rw [List.drop_zero, Nat.zero_add] at this
        exact this
      refine ih (j + 1) _ (by omega) (f1.up (by decide)) (by rw [up_n (by decide)]; exact f2) (fun i hi => ?_) ?_
      · rw [up_s, up_n (by omega)]
        exact f3 i (by omega)
      · rw [up_s, et]
        exact sg_snoc' f4 (by rw [List.length_take_of_le (by omega)])
  exact key fr.length 0 A1 (by omega) (k2.wk (by decide)) rfl (fun i _ => by rw [e3]) (by rw [List.take_zero]; exact sg_nil _ _)
end M11
