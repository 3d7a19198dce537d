section M10
variable {G : GT} {m0 n u : Nat} {F : HS} {d : Nat} {I : Nat → Int} {A : Nat → Int → Int} {D : Int64} {post : Option Value → MT → Prop} {ru : RU}
theorem c_pick {s : ST} {b : Int} {ch : Nat} (hch : ch = (ru 5).toNat) (hs : RepSt ch (A 3) s) (hw : WfSt b ch s) (hru : RuM I ru) (hwr : WfRu ru) (hp : post (some (vi (pickF s ch))) (I, A, D)) : Cm G (AM G m0 F n u) yX12_pick cX12_pick 4 (some .int) (d + 2) [.ref m0] (I, A, D) post := by
  refine Cm_intro (L := [some (.ref m0), none, none, none]) (by decide +kernel) (Nat.le_of_ble_eq_true rfl) rfl ?_
  obtain ⟨a0, a1, a2, a3, a4, a5, a6, a7, a8⟩ := id hs
  obtain ⟨w0, w1, w2, w3, w4, w5, w6, w7, w8, w9, w10⟩ := id hw
  have q5 := hwr.2.2.2.2.2
  have r5 : I 23 = ch := by rw [hru.2.2.2.2.2]; omega
  have key : ∀ (m k : Nat) (best : Int), k + m = ch + 1 → 1 ≤ k → pickL s ch m k best = pickF s ch → (best = -1 ∨ (0 ≤ best ∧ best < ch)) → V G (AM G m0 F n u) yX12_pick cX12_pick 4 (some .int) (d + 2) (I, A, D) 4 [some (.ref m0), some (vi best), some (vi k), none] [] post := by
    intro m
    induction m with
    | zero =>
      intro k best hk h1 h2 h3
      refine s_iload_n 5 dX12_pick_4 rfl rfl ?_
      refine s_aload_n 6 dX12_pick_5 rfl rfl ?_
      refine m_getI 9 23 dX12_pick_6 rfl fl_X12_198 (by decide) rfl (fun hr6 => ?_)
      refine s_icmp_gt 12 79 dX12_pick_9 rfl rfl (fun g => ?_) (fun g => ?_)
      · refine s_iload_n 80 dX12_pick_79 rfl rfl ?_
        refine s_ireturn rfl dX12_pick_80 ?_
        rw [← h2] at hp
        exact hp
      · omega
    | succ m ih =>
      intro k best hk h1 h2 h3
      refine s_iload_n 5 dX12_pick_4 rfl rfl ?_
      refine s_aload_n 6 dX12_pick_5 rfl rfl ?_
      refine m_getI 9 23 dX12_pick_6 rfl fl_X12_198 (by decide) rfl (fun hr6 => ?_)
      refine s_icmp_gt 12 79 dX12_pick_9 rfl rfl (fun g => ?_) (fun g => ?_)
      · omega
      refine s_aload_n 13 dX12_pick_12 rfl rfl ?_
      refine m_getV (k := 16) 16 dX12_pick_13 rfl fl_X12_16 (by decide) rfl ?_
      refine s_sipush 19 dX12_pick_16 rfl (k := ?_)
      refine m_ald 20 3 9309 dX12_pick_19 rfl (by decide) rfl (fun hr19 => ?_)
      refine s_iload_n 21 dX12_pick_20 rfl rfl ?_
      refine s_iadd 22 dX12_pick_21 rfl ?_
      refine s_aload_n 23 dX12_pick_22 rfl rfl ?_
      refine m_getI 26 23 dX12_pick_23 rfl fl_X12_198 (by decide) rfl (fun hr23 => ?_)
      refine s_iadd 27 dX12_pick_26 rfl ?_
      refine s_aload_n 28 dX12_pick_27 rfl rfl ?_
      refine m_getI 31 23 dX12_pick_28 rfl fl_X12_198 (by decide) rfl (fun hr28 => ?_)
      refine s_irem (q := 32) (hd := dX12_pick_31) (hq := rfl) (k := ?_)
      have hcl : 0 ≤ (s.2.2.1 1 + k + ch) % (ch : Int) ∧ (s.2.2.1 1 + k + ch) % (ch : Int) < ch := ⟨Int.emod_nonneg _ (by omega), Int.emod_lt_of_pos _ (by omega)⟩
      rw [a5, r5]
      rw [pickL] at h2
      generalize hcc : (s.2.2.1 1 + (k : Int) + (ch : Int)) % (ch : Int) = cc at hcl h2 ⊢
      obtain ⟨cn, rfl⟩ := Int.eq_ofNat_of_zero_le hcl.1
      rw [Int.toNat_natCast] at h2
      have hcn : cn < ch := by omega
      have hR := (a8 cn hcn).1
      have hW := w10 cn hcn
      have v0 := hW.1
      have v8 := hW.2.2.2.2.2.2.2.2.1
      have j73 : ∀ best' : Int, best' = (if 0 < (s.2.2.2.2 cn).2.1.length ∧ 0 < (s.2.2.2.2 cn).1 0 ∧ (best = -1 ∨ (s.2.2.2.2 best.toNat).1 0 < (s.2.2.2.2 cn).1 0) then (cn : Int) else best) → V G (AM G m0 F n u) yX12_pick cX12_pick 4 (some .int) (d + 2) (I, A, D) 73 [some (.ref m0), some (vi best'), some (vi k), none] [] post := by
        intro best' hb'
        refine s_iinc 76 dX12_pick_73 rfl rfl (Nat.le_of_ble_eq_true rfl) rfl ?_
        refine s_goto 4 dX12_pick_76 rfl ?_
        refine ih (k + 1) best' (by omega) (by omega) (by rw [hb']; exact h2) ?_
        rw [hb']
        split
        · exact Or.inr (by omega)
        · exact h3
      refine s_istore_n 33 dX12_pick_32 rfl (Nat.le_of_ble_eq_true rfl) rfl ?_
      refine s_aload_n 34 dX12_pick_33 rfl rfl ?_
      refine s_iload_n 35 dX12_pick_34 rfl rfl ?_
      refine s_iconst 36 dX12_pick_35 rfl ?_
      refine s_V2i 39 dX12_pick_36 rfl km_X12_its ml_X12_286 ds_X12_its (Nat.le_of_ble_eq_true rfl) m_rec rfl (c_itsP (by decide) (by omega) (fun hr => ?_))
      refine ⟨_, rfl, ?_⟩
      rw [hR.2.1]
      refine s_if_le 42 73 dX12_pick_39 rfl rfl (fun g2 => ?_) (fun g2 => ?_)
      · refine V_kill 3 (j73 best ?_)
        rw [if_neg (by omega)]
      refine s_aload_n 43 dX12_pick_42 rfl rfl ?_
      refine s_iload_n 44 dX12_pick_43 rfl rfl ?_
      refine s_iconst 45 dX12_pick_44 rfl ?_
      refine s_V2i 48 dX12_pick_45 rfl km_X12_its ml_X12_286 ds_X12_its (Nat.le_of_ble_eq_true rfl) m_rec rfl (c_itsP (by decide) (by omega) (fun hr => ?_))
      refine ⟨_, rfl, ?_⟩
      rw [hR.1]
      refine s_if_le 51 73 dX12_pick_48 rfl rfl (fun g3 => ?_) (fun g3 => ?_)
      · refine V_kill 3 (j73 best ?_)
        rw [if_neg (by omega)]
      refine s_iload_n 52 dX12_pick_51 rfl rfl ?_
      refine s_iconst 53 dX12_pick_52 rfl ?_
      refine s_icmp_eq 56 71 dX12_pick_53 rfl rfl (fun g4 => ?_) (fun g4 => ?_)
      · refine s_iload_n 72 dX12_pick_71 rfl rfl ?_
        refine s_istore_n 73 dX12_pick_72 rfl (Nat.le_of_ble_eq_true rfl) rfl ?_
        refine V_kill 3 (j73 cn ?_)
        rw [if_pos (by omega)]
      obtain ⟨bn, rfl⟩ := Int.eq_ofNat_of_zero_le (show 0 ≤ best by omega)
      have hbn : bn < ch := by omega
      have hRb := (a8 bn hbn).1
      have hWb := w10 bn hbn
      rw [Int.toNat_natCast] at j73
      refine s_aload_n 57 dX12_pick_56 rfl rfl ?_
      refine s_iload_n 58 dX12_pick_57 rfl rfl ?_
      refine s_iconst 59 dX12_pick_58 rfl ?_
      refine s_V2i 62 dX12_pick_59 rfl km_X12_its ml_X12_286 ds_X12_its (Nat.le_of_ble_eq_true rfl) m_rec rfl (c_itsP (by decide) (by omega) (fun hr => ?_))
      refine ⟨_, rfl, ?_⟩
      refine s_aload_n 63 dX12_pick_62 rfl rfl ?_
      refine s_iload_n 64 dX12_pick_63 rfl rfl ?_
      refine s_iconst 65 dX12_pick_64 rfl ?_
      refine s_V2i 68 dX12_pick_65 rfl km_X12_its ml_X12_286 ds_X12_its (Nat.le_of_ble_eq_true rfl) m_rec rfl (c_itsP (by decide) (by omega) (fun hr => ?_))
      refine ⟨_, rfl, ?_⟩
      rw [hR.1, hRb.1]
      have v1 := hWb.1
      refine s_icmp_le 71 73 dX12_pick_68 rfl rfl (fun g5 => ?_) (fun g5 => ?_)
      · refine V_kill 3 (j73 bn ?_)
        rw [if_neg (by omega)]
      · refine s_iload_n 72 dX12_pick_71 rfl rfl ?_
        refine s_istore_n 73 dX12_pick_72 rfl (Nat.le_of_ble_eq_true rfl) rfl ?_
        refine V_kill 3 (j73 cn ?_)
        rw [if_pos (by omega)]
  refine s_iconst 1 dX12_pick_0 rfl ?_
  refine s_istore_n 2 dX12_pick_1 rfl (Nat.le_of_ble_eq_true rfl) rfl ?_
  refine s_iconst 3 dX12_pick_2 rfl ?_
  refine s_istore_n 4 dX12_pick_3 rfl (Nat.le_of_ble_eq_true rfl) rfl ?_
  exact key ch 1 (-1) (by omega) (by omega) rfl (Or.inl rfl)
theorem headD_getD (l : List (List Int)) : l.headD [] = l.getD 0 [] := by cases l <;> rfl
theorem c_laysFrame {c : Nat} {x : CH} {b : Int} (hc : c < 4) (hx : RepCh (atc (A 3) c) x) (hw : WfCh b x) (hl : 0 < x.2.1.length) (hru : RuM I ru) (hwr : WfRu ru) (hp : ∀ I' A', frI [26, 28, 29] I I' → frA [5, 6] A A' → I' 28 = (frmF ru c x).length → sg (A' 6) 0 (frmF ru c x) → post (some (vi (prtF ru x).length)) (I', A', D)) : Cm G (AM G m0 F n u) yX12_laysFrame cX12_laysFrame 6 (some .int) (d + 3) [.ref m0, vi c] (I, A, D) post := by
  refine Cm_intro (L := [some (.ref m0), some (vi c), none, none, none, none]) (by decide +kernel) (Nat.le_of_ble_eq_true rfl) rfl ?_
  obtain ⟨⟨a0, a1, a2, a3, a4, a5, a6, a7, a8, a9, a10, a11⟩, hW, hS, hT⟩ := id hx
  obtain ⟨w0, w1, w2, w3, w4, w5, w6, w7, w8, w9, w10, w11, w12, w13, w14⟩ := id hw
  obtain ⟨r0, r1, r2, r3, r4, r5⟩ := id hru
  obtain ⟨q0, q1, q2, q3, q4, q5⟩ := id hwr
  obtain ⟨o1, o2, o3, o4, o5⟩ := plnF_ok (k := (c : Int)) hw hwr (by omega) hl
  have hpn := prtF_len ru x
  have hm : atc (A 3) c (12 + 121 * 0) = ((x.2.1.headD []).length : Nat) ∧ sg (atc (A 3) c) 13 (x.2.1.headD []) := by rw [headD_getD]; exact hW 0 hl
  have hml : (x.2.1.headD []).length ≤ 120 := (w9 _ (headD_mem hl)).1
  generalize hmsg : x.2.1.headD [] = msg at *
  refine s_aload_n 1 dX12_laysFrame_0 rfl rfl ?_
  refine s_iload_n 2 dX12_laysFrame_1 rfl rfl ?_
  refine s_iconst 3 dX12_laysFrame_2 rfl ?_
  refine s_S1i 6 dX12_laysFrame_3 rfl km_X12_waitAt rfl ml_X12_292 ds_X12_waitAt (Nat.le_of_ble_eq_true rfl) (c_waitAt ?_)
  refine ⟨_, rfl, ?_⟩
  refine s_V2i 9 dX12_laysFrame_6 rfl km_X12_its ml_X12_286 ds_X12_its (Nat.le_of_ble_eq_true rfl) m_rec rfl (c_itsP (by decide) hc (fun hr => ?_))
  refine ⟨_, rfl, ?_⟩
  rw [hm.1]
  refine s_istore_n 10 dX12_laysFrame_9 rfl (Nat.le_of_ble_eq_true rfl) rfl ?_
  refine s_aload_n 11 dX12_laysFrame_10 rfl rfl ?_
  refine s_iload_n 12 dX12_laysFrame_11 rfl rfl ?_
  refine s_iconst 13 dX12_laysFrame_12 rfl ?_
  refine s_V2i 16 dX12_laysFrame_13 rfl km_X12_its ml_X12_286 ds_X12_its (Nat.le_of_ble_eq_true rfl) m_rec rfl (c_itsP (by decide) hc (fun hr => ?_))
  refine ⟨_, rfl, ?_⟩
  rw [a2]
  refine s_istore_n 17 dX12_laysFrame_16 rfl (Nat.le_of_ble_eq_true rfl) rfl ?_
  refine s_aload_n 18 dX12_laysFrame_17 rfl rfl ?_
  refine m_getI 21 22 dX12_laysFrame_18 rfl fl_X12_196 (by decide) rfl (fun hr18 => ?_)
  refine s_iload_n 22 dX12_laysFrame_21 rfl rfl ?_
  refine s_iload_n 23 dX12_laysFrame_22 rfl rfl ?_
  refine s_isub 24 dX12_laysFrame_23 rfl ?_
  refine s_min (q := 27) (hd := dX12_laysFrame_24) (hq := rfl) (hw := ml_X12_97) (hrest := Nat.le_of_ble_eq_true rfl) (k := ?_)
  have hmin : min (I 22) ((msg.length : Int) - x.1 1) = ((prtF ru x).length : Nat) := by rw [hpn, r4]; omega
  rw [hmin]
  refine s_istore 29 dX12_laysFrame_27 rfl (Nat.le_of_ble_eq_true rfl) rfl ?_
  refine s_aload_n 30 dX12_laysFrame_29 rfl rfl ?_
  refine s_iconst 31 dX12_laysFrame_30 rfl ?_
  refine m_putI 34 26 dX12_laysFrame_31 rfl fl_X12_217 (by decide) rfl rfl rfl rfl ?_
  refine s_aload_n 35 dX12_laysFrame_34 rfl rfl ?_
  refine s_bipush 37 dX12_laysFrame_35 rfl (k := ?_)
  refine s_iload_n 38 dX12_laysFrame_37 rfl rfl ?_
  refine s_imul 39 dX12_laysFrame_38 rfl ?_
  refine s_iload_n 40 dX12_laysFrame_39 rfl rfl ?_
  have j49 : ∀ v : Int, v = (if x.1 1 = 0 then 32 else 0) → V G (AM G m0 F n u) yX12_laysFrame cX12_laysFrame 6 (some .int) (d + 3) (up I 26 0, A, D) 49 [some (.ref m0), some (vi c), some (vi msg.length), some (vi (x.1 1)), some (vi (prtF ru x).length), none] [vi v, vi (64 * (c : Int)), .ref m0] post := by
    intro v hv
    refine s_iadd 50 dX12_laysFrame_49 rfl ?_
    refine s_iload_n 51 dX12_laysFrame_50 rfl rfl ?_
    refine s_iload 53 dX12_laysFrame_51 rfl rfl ?_
    refine s_iadd 54 dX12_laysFrame_53 rfl ?_
    refine s_iload_n 55 dX12_laysFrame_54 rfl rfl ?_
    have j64 : ∀ v2 : Int, v2 = (if x.1 1 + ((prtF ru x).length : Int) = msg.length then 16 else 0) → V G (AM G m0 F n u) yX12_laysFrame cX12_laysFrame 6 (some .int) (d + 3) (up I 26 0, A, D) 64 [some (.ref m0), some (vi c), some (vi msg.length), some (vi (x.1 1)), some (vi (prtF ru x).length), none] [vi v2, vi (64 * (c : Int) + v), .ref m0] post := by
      intro v2 hv2
      have hhd : 64 * (c : Int) + v + v2 + x.1 2 = hdF ru c x := by unfold hdF; rw [hv, hv2, hmsg]
      refine s_iadd 65 dX12_laysFrame_64 rfl ?_
      refine s_aload_n 66 dX12_laysFrame_65 rfl rfl ?_
      refine s_iload_n 67 dX12_laysFrame_66 rfl rfl ?_
      refine s_iconst 68 dX12_laysFrame_67 rfl ?_
      refine s_V2i 71 dX12_laysFrame_68 rfl km_X12_its ml_X12_286 ds_X12_its (Nat.le_of_ble_eq_true rfl) m_rec rfl (c_itsP (by decide) hc (fun hr => ?_))
      refine ⟨_, rfl, ?_⟩
      refine s_iadd 72 dX12_laysFrame_71 rfl ?_
      rw [a3, hhd]
      refine s_V1v 75 dX12_laysFrame_72 rfl km_X12_plainly ml_X12_236 ds_X12_plainly (Nat.le_of_ble_eq_true rfl) m_rec rfl (c_plainly (by rw [up_s]; decide) (by omega) ?_)
      refine ⟨rfl, ?_⟩
      refine s_iconst 76 dX12_laysFrame_75 rfl ?_
      refine s_istore 78 dX12_laysFrame_76 rfl (Nat.le_of_ble_eq_true rfl) rfl ?_
      have key : ∀ (k j : Nat) (I' : Nat → Int) (A' : Nat → Int → Int), j + k = (prtF ru x).length → frI [26, 28, 29] I I' → I' 26 = 1 + (j : Int) → frA [5, 6] A A' → sg (A' 5) 0 (hdF ru c x :: (prtF ru x).take j) → V G (AM G m0 F n u) yX12_laysFrame cX12_laysFrame 6 (some .int) (d + 3) (I', A', D) 78 [some (.ref m0), some (vi c), some (vi msg.length), some (vi (x.1 1)), some (vi (prtF ru x).length), some (vi j)] [] post := by
        intro k
        induction k with
        | zero =>
          intro j I' A' hj f1 f2 f3 f4
          obtain rfl : j = (prtF ru x).length := by omega
          rw [List.take_length] at f4
          refine s_iload 80 dX12_laysFrame_78 rfl rfl ?_
          refine s_iload 82 dX12_laysFrame_80 rfl rfl ?_
          refine s_icmp_ge 85 111 dX12_laysFrame_82 rfl rfl (fun g => ?_) (fun g => ?_)
          rotate_left
          · omega
          have e21 : I' 21 = ru 3 := (f1 21 (by decide)).trans r3
          have fin : ∀ (I2 : Nat → Int) (A2 : Nat → Int → Int), frI [26, 28, 29] I I2 → frA [5, 6] A A2 → I2 26 = (plnF ru c x).length → sg (A2 5) 0 (plnF ru c x) → V G (AM G m0 F n u) yX12_laysFrame cX12_laysFrame 6 (some .int) (d + 3) (I2, A2, D) 130 [some (.ref m0), none, none, none, some (vi (prtF ru x).length), none] [] post := by
            intro I2 A2 k1 k2 k3 k4
            have e18 : I2 18 = ru 0 := (k1 18 (by decide)).trans r0
            have e19 : I2 19 = ru 1 := (k1 19 (by decide)).trans r1
            have e20 : I2 20 = ru 2 := (k1 20 (by decide)).trans r2
            refine s_aload_n 131 dX12_laysFrame_130 rfl rfl ?_
            refine s_aload_n 132 dX12_laysFrame_131 rfl rfl ?_
            refine m_getI 135 18 dX12_laysFrame_132 rfl fl_X12_192 (by decide) rfl (fun hr132 => ?_)
            refine s_V1v 138 dX12_laysFrame_135 rfl km_X12_stuffs ml_X12_251 ds_X12_stuffs (Nat.le_of_ble_eq_true rfl) m_rec rfl (c_stuffs (way := I2 18) (Ln := (ru 1).toNat) (Zn := (ru 2).toNat) (by omega) k4 k3 (by omega) (by omega) (by omega) (by omega) (by omega) (fun I3 A3 s1 s2 s3 s4 s5 => ?_))
            refine ⟨rfl, ?_⟩
            refine s_iload 140 dX12_laysFrame_138 rfl rfl ?_
            refine s_ireturn rfl dX12_laysFrame_140 ?_
            rw [e18] at s2 s4
            exact hp I3 A3 (k1.trans s1 (by decide)) (k2.trans s3 (by decide)) s2 s4
          refine s_aload_n 112 dX12_laysFrame_111 rfl rfl ?_
          refine m_getI 115 21 dX12_laysFrame_112 rfl fl_X12_194 (by decide) rfl (fun hr112 => ?_)
          refine s_if_eq 118 130 dX12_laysFrame_115 rfl rfl (fun g2 => ?_) (fun g2 => ?_)
          · refine V_kill 1 (V_kill 2 (V_kill 3 (V_kill 5 ?_)))
            have e9 : plnF ru c x = hdF ru c x :: prtF ru x := by unfold plnF; rw [if_pos (by omega), List.append_nil]
            exact fin I' A' f1 f3 (by rw [e9, List.length_cons, f2]; omega) (by rw [e9]; exact f4)
          · have e9 : plnF ru c x = (hdF ru c x :: prtF ru x) ++ [chkF (ru 3) (hdF ru c x :: prtF ru x)] := by unfold plnF; rw [if_neg (by omega)]
            have ln : I' 26 = ((hdF ru c x :: prtF ru x).length : Nat) := by rw [f2, List.length_cons]; omega
            have hby : byt (hdF ru c x :: prtF ru x) := byt_cons.mpr ⟨o3, o4⟩
            have hck := chkF_rg (ck := I' 21) hby
            refine s_aload_n 119 dX12_laysFrame_118 rfl rfl ?_
            refine s_aload_n 120 dX12_laysFrame_119 rfl rfl ?_
            refine s_aload_n 121 dX12_laysFrame_120 rfl rfl ?_
            refine m_getI 124 26 dX12_laysFrame_121 rfl fl_X12_217 (by decide) rfl (fun hr121 => ?_)
            rw [ln]
            refine s_V1i 127 dX12_laysFrame_124 rfl km_X12_checkOf ml_X12_271 ds_X12_checkOf (Nat.le_of_ble_eq_true rfl) m_rec rfl (c_checkOf f4 hby (by rw [List.length_cons]; omega) (by omega) ?_)
            refine ⟨_, rfl, ?_⟩
            refine s_V1v 130 dX12_laysFrame_127 rfl km_X12_plainly ml_X12_236 ds_X12_plainly (Nat.le_of_ble_eq_true rfl) m_rec rfl (c_plainly (by omega) (by omega) ?_)
            refine ⟨rfl, ?_⟩
            refine V_kill 1 (V_kill 2 (V_kill 3 (V_kill 5 ?_)))
            refine fin _ _ (f1.up (by decide)) (f3.up (by decide)) (by rw [up_s, e9, List.length_append, ln]; simp) ?_
            rw [up_s, e9, e21]
            exact sg_snoc' f4 (by rw [ln]; omega)
        | succ k ih =>
          intro j I' A' hj f1 f2 f3 f4
          have e3 : A' 3 = A 3 := f3 3 (by decide)
          have ev : atc (A' 3) c (12 + 121 * 0 + 1 + x.1 1 + (j : Int)) = (prtF ru x).getD j 0 := by
            have h1 := hm.2 ((x.1 1).toNat + j) (by omega)
            unfold prtF
            rw [hmsg, List.getD_eq_getElem?_getD, List.getElem?_take_of_lt (by omega), List.getElem?_drop, ← List.getD_eq_getElem?_getD, ← h1, e3]
            congr 1
            omega
          refine s_iload 80 dX12_laysFrame_78 rfl rfl ?_
          refine s_iload 82 dX12_laysFrame_80 rfl rfl ?_
          refine s_icmp_ge 85 111 dX12_laysFrame_82 rfl rfl (fun g => ?_) (fun g => ?_)
          · omega
          refine s_aload_n 86 dX12_laysFrame_85 rfl rfl ?_
          refine s_aload_n 87 dX12_laysFrame_86 rfl rfl ?_
          refine s_iload_n 88 dX12_laysFrame_87 rfl rfl ?_
          refine s_iconst 89 dX12_laysFrame_88 rfl ?_
          refine s_S1i 92 dX12_laysFrame_89 rfl km_X12_waitAt rfl ml_X12_292 ds_X12_waitAt (Nat.le_of_ble_eq_true rfl) (c_waitAt ?_)
          refine ⟨_, rfl, ?_⟩
          refine s_iconst 93 dX12_laysFrame_92 rfl ?_
          refine s_iadd 94 dX12_laysFrame_93 rfl ?_
          refine s_iload_n 95 dX12_laysFrame_94 rfl rfl ?_
          refine s_iadd 96 dX12_laysFrame_95 rfl ?_
          refine s_iload 98 dX12_laysFrame_96 rfl rfl ?_
          refine s_iadd 99 dX12_laysFrame_98 rfl ?_
          refine s_V2i 102 dX12_laysFrame_99 rfl km_X12_its ml_X12_286 ds_X12_its (Nat.le_of_ble_eq_true rfl) m_rec rfl (c_itsP (by omega) hc (fun hr => ?_))
          refine ⟨_, rfl, ?_⟩
          refine s_V1v 105 dX12_laysFrame_102 rfl km_X12_plainly ml_X12_236 ds_X12_plainly (Nat.le_of_ble_eq_true rfl) m_rec rfl (c_plainly (by omega) hr ?_)
          refine ⟨rfl, ?_⟩
          refine s_iinc 108 dX12_laysFrame_105 rfl rfl (Nat.le_of_ble_eq_true rfl) rfl ?_
          refine s_goto 78 dX12_laysFrame_108 rfl ?_
          refine ih (j + 1) _ _ (by omega) (f1.up (by decide)) (by rw [up_s, f2]; omega) (f3.up (by decide)) ?_
          have et : (prtF ru x).take (j + 1) = (prtF ru x).take j ++ [(prtF ru x).getD j 0] := by
            have := take_snoc (bs := prtF ru x) (p := 0) (r := j) (by omega)
            rw [List.drop_zero, Nat.zero_add] at this
            exact this
          rw [up_s, ev, et, ← List.cons_append]
          exact sg_snoc' f4 (by rw [List.length_cons, List.length_take_of_le (by omega), f2]; omega)
      refine key (prtF ru x).length 0 _ _ (by omega) ((frI.rf.up (by decide)).up (by decide)) (by rw [up_s, up_s]; rfl) (frA.rf.up (by decide)) ?_
      rw [up_s, up_s, List.take_zero]
      exact sg_snoc' (l := []) (sg_nil _ _) rfl
    refine s_icmp_ne 58 63 dX12_laysFrame_55 rfl rfl (fun g2 => ?_) (fun g2 => ?_)
    · refine s_iconst 64 dX12_laysFrame_63 rfl ?_
      exact j64 0 (by rw [if_neg g2])
    · refine s_bipush 60 dX12_laysFrame_58 rfl (k := ?_)
      refine s_goto 64 dX12_laysFrame_60 rfl ?_
      exact j64 16 (by rw [if_pos (by omega)])
  refine s_if_ne 43 48 dX12_laysFrame_40 rfl rfl (fun g => ?_) (fun g => ?_)
  · refine s_iconst 49 dX12_laysFrame_48 rfl ?_
    exact j49 0 (by rw [if_neg g])
  · refine s_bipush 45 dX12_laysFrame_43 rfl (k := ?_)
    refine s_goto 49 dX12_laysFrame_45 rfl ?_
    exact j49 32 (by rw [if_pos (by omega)])
end M10
