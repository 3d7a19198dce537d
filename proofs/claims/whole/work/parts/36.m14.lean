section M14
variable {G : GT} {m0 n u : Nat} {F : HS} {d : Nat} {I : Nat → Int} {A : Nat → Int → Int} {D : Int64} {post : Option Value → MT → Prop} {ru : RU}
theorem c_loses {s : ST} {b : Int} {ch i : Nat} (hs : RepSt ch (A 3) s) (hw : WfSt b ch s) (hi : i < s.1.length) (hp : ∀ A', frA [3] A A' → RepSt ch (A' 3) (losL s.1 i, s.2) → post none (I, A', D)) : Cm G (AM G m0 F n u) yX12_loses cX12_loses 3 none d [.ref m0, vi i] (I, A, D) post := by
  refine Cm_intro (L := [some (.ref m0), some (vi i), none]) (by decide +kernel) (Nat.le_of_ble_eq_true rfl) rfl ?_
  have hw0 := hw.1
  have a0 := hs.1
  have a1 := hs.2.1
  refine s_iload_n 1 dX12_loses_0 rfl rfl ?_
  refine s_iconst 2 dX12_loses_1 rfl ?_
  refine s_iadd 3 dX12_loses_2 rfl ?_
  refine s_istore_n 4 dX12_loses_3 rfl (Nat.le_of_ble_eq_true rfl) rfl ?_
  have key : ∀ (m j : Nat) (A' : Nat → Int → Int), j + m = s.1.length → i < j → frA [3] A A' → (∀ k, k < 1 + (i : Int) ∨ (j : Int) ≤ k → A' 3 k = A 3 k) → (∀ k, 1 + (i : Int) ≤ k → k < (j : Int) → A' 3 k = A 3 (k + 1)) → V G (AM G m0 F n u) yX12_loses cX12_loses 3 none d (I, A', D) 4 [some (.ref m0), some (vi i), some (vi j)] [] post := by
    intro m
    induction m with
    | zero =>
      intro j A' hj h1 f1 f2 f3
      have f0 : A' 3 0 = s.1.length := by rw [f2 0 (by omega)]; exact a0
      refine s_iload_n 5 dX12_loses_4 rfl rfl ?_
      refine s_aload_n 6 dX12_loses_5 rfl rfl ?_
      refine m_getV (k := 16) 9 dX12_loses_6 rfl fl_X12_16 (by decide) rfl ?_
      refine s_iconst 10 dX12_loses_9 rfl ?_
      refine m_ald 11 3 9309 dX12_loses_10 rfl (by decide) rfl (fun hr10 => ?_)
      refine s_icmp_ge 14 38 dX12_loses_11 rfl rfl (fun g => ?_) (fun g => ?_)
      rotate_left
      · omega
      refine s_aload_n 39 dX12_loses_38 rfl rfl ?_
      refine m_getV (k := 16) 42 dX12_loses_39 rfl fl_X12_16 (by decide) rfl ?_
      refine s_iconst 43 dX12_loses_42 rfl ?_
      refine s_dup2 (q := 44) (hd := dX12_loses_43) (hq := rfl) (k := ?_)
      refine m_ald 45 3 9309 dX12_loses_44 rfl (by decide) rfl (fun hr44 => ?_)
      refine s_iconst 46 dX12_loses_45 rfl ?_
      refine s_isub 47 dX12_loses_46 rfl ?_
      refine m_ast 48 3 9309 dX12_loses_47 rfl (by decide) rfl ?_
      refine s_return rfl dX12_loses_48 ?_
      rw [f0]
      refine hp _ (f1.up (by decide)) ?_
      rw [up_s]
      refine hs.wire hw ?_ ?_ (fun k hk => by rw [up_n (by omega)]; exact f2 k (by omega))
      · rw [up_s, (losL_ok hw.2.1 hi).2]; omega
      · unfold losL
        rw [sg_append]
        refine ⟨sg_congr (sg_take a1) fun k x1 x2 => ?_, ?_⟩
        · rw [List.length_take_of_le (by omega)] at x2
          rw [up_n (by omega)]
          exact f2 k (by omega)
        · rw [List.length_take_of_le (by omega)]
          have h9 := sg_drop a1 (n := i + 1) (by omega)
          intro k hk
          rw [← h9 k hk, up_n (by omega)]
          rw [List.length_drop] at hk
          rw [f3 _ (by omega) (by omega)]
          congr 1 <;> omega
    | succ m ih =>
      intro j A' hj h1 f1 f2 f3
      have f0 : A' 3 0 = s.1.length := by rw [f2 0 (by omega)]; exact a0
      refine s_iload_n 5 dX12_loses_4 rfl rfl ?_
      refine s_aload_n 6 dX12_loses_5 rfl rfl ?_
      refine m_getV (k := 16) 9 dX12_loses_6 rfl fl_X12_16 (by decide) rfl ?_
      refine s_iconst 10 dX12_loses_9 rfl ?_
      refine m_ald 11 3 9309 dX12_loses_10 rfl (by decide) rfl (fun hr10 => ?_)
      refine s_icmp_ge 14 38 dX12_loses_11 rfl rfl (fun g => ?_) (fun g => ?_)
      · omega
      refine s_aload_n 15 dX12_loses_14 rfl rfl ?_
      refine m_getV (k := 16) 18 dX12_loses_15 rfl fl_X12_16 (by decide) rfl ?_
      refine s_iconst 19 dX12_loses_18 rfl ?_
      refine s_iload_n 20 dX12_loses_19 rfl rfl ?_
      refine s_iadd 21 dX12_loses_20 rfl ?_
      refine s_iconst 22 dX12_loses_21 rfl ?_
      refine s_isub 23 dX12_loses_22 rfl ?_
      refine s_aload_n 24 dX12_loses_23 rfl rfl ?_
      refine m_getV (k := 16) 27 dX12_loses_24 rfl fl_X12_16 (by decide) rfl ?_
      refine s_iconst 28 dX12_loses_27 rfl ?_
      refine s_iload_n 29 dX12_loses_28 rfl rfl ?_
      refine s_iadd 30 dX12_loses_29 rfl ?_
      refine m_ald 31 3 9309 dX12_loses_30 rfl (by decide) rfl (fun hr30 => ?_)
      refine m_ast 32 3 9309 dX12_loses_31 rfl (by decide) rfl ?_
      refine s_iinc 35 dX12_loses_32 rfl rfl (Nat.le_of_ble_eq_true rfl) rfl ?_
      refine s_goto 4 dX12_loses_35 rfl ?_
      refine ih (j + 1) _ (by omega) (by omega) (f1.up (by decide)) (fun k hk => ?_) (fun k x1 x2 => ?_)
      · rw [up_s, up_n (by omega)]
        exact f2 k (by omega)
      · rw [up_s]
        by_cases e : k = 1 + (j : Int) - 1
        · subst e
          rw [up_s, f2 _ (by omega)]
          congr 1 <;> omega
        · rw [up_n e]
          exact f3 k x1 (by omega)
  exact key (s.1.length - (i + 1)) (i + 1) A (by omega) (by omega) frA.rf (fun _ _ => rfl) (fun k x1 x2 => by omega)
theorem c_inserts {s : ST} {b : Int} {ch i : Nat} {v : Int} (hs : RepSt ch (A 3) s) (hw : WfSt b ch s) (hi : i ≤ s.1.length) (hl : s.1.length < 600) (hv : 0 ≤ v ∧ v ≤ 255) (hp : ∀ A', frA [3] A A' → RepSt ch (A' 3) (insL s.1 i v, s.2) → post none (I, A', D)) : Cm G (AM G m0 F n u) yX12_inserts cX12_inserts 4 none d [.ref m0, vi i, vi v] (I, A, D) post := by
  refine Cm_intro (L := [some (.ref m0), some (vi i), some (vi v), none]) (by decide +kernel) (Nat.le_of_ble_eq_true rfl) rfl ?_
  have a0 := hs.1
  have a1 := hs.2.1
  refine s_aload_n 1 dX12_inserts_0 rfl rfl ?_
  refine m_getV (k := 16) 4 dX12_inserts_1 rfl fl_X12_16 (by decide) rfl ?_
  refine s_iconst 5 dX12_inserts_4 rfl ?_
  refine m_ald 6 3 9309 dX12_inserts_5 rfl (by decide) rfl (fun hr5 => ?_)
  rw [a0]
  refine s_istore_n 7 dX12_inserts_6 rfl (Nat.le_of_ble_eq_true rfl) rfl ?_
  have key : ∀ (m j : Nat) (A' : Nat → Int → Int), i + m = j → j ≤ s.1.length → frA [3] A A' → (∀ k, k < 1 + (j : Int) ∨ 1 + (s.1.length : Int) < k → A' 3 k = A 3 k) → (∀ k, 1 + (j : Int) < k → k ≤ 1 + (s.1.length : Int) → A' 3 k = A 3 (k - 1)) → V G (AM G m0 F n u) yX12_inserts cX12_inserts 4 none d (I, A', D) 7 [some (.ref m0), some (vi i), some (vi v), some (vi j)] [] post := by
    intro m
    induction m with
    | zero =>
      intro j A' hj h1 f1 f2 f3
      obtain rfl : i = j := by omega
      have f0 : A' 3 0 = s.1.length := by rw [f2 0 (by omega)]; exact a0
      refine s_iload_n 8 dX12_inserts_7 rfl rfl ?_
      refine s_iload_n 9 dX12_inserts_8 rfl rfl ?_
      refine s_icmp_le 12 36 dX12_inserts_9 rfl rfl (fun g => ?_) (fun g => ?_)
      rotate_left
      · omega
      refine s_aload_n 37 dX12_inserts_36 rfl rfl ?_
      refine m_getV (k := 16) 40 dX12_inserts_37 rfl fl_X12_16 (by decide) rfl ?_
      refine s_iconst 41 dX12_inserts_40 rfl ?_
      refine s_iload_n 42 dX12_inserts_41 rfl rfl ?_
      refine s_iadd 43 dX12_inserts_42 rfl ?_
      refine s_iload_n 44 dX12_inserts_43 rfl rfl ?_
      refine m_ast 45 3 9309 dX12_inserts_44 rfl (by decide) rfl ?_
      have f9 : up A' 3 (up (A' 3) (1 + (i : Int)) v) 3 0 = s.1.length := by rw [up_s, up_n (by omega)]; exact f0
      refine s_aload_n 46 dX12_inserts_45 rfl rfl ?_
      refine m_getV (k := 16) 49 dX12_inserts_46 rfl fl_X12_16 (by decide) rfl ?_
      refine s_iconst 50 dX12_inserts_49 rfl ?_
      refine s_dup2 (q := 51) (hd := dX12_inserts_50) (hq := rfl) (k := ?_)
      refine m_ald 52 3 9309 dX12_inserts_51 rfl (by decide) rfl (fun hr51 => ?_)
      refine s_iconst 53 dX12_inserts_52 rfl ?_
      refine s_iadd 54 dX12_inserts_53 rfl ?_
      refine m_ast 55 3 9309 dX12_inserts_54 rfl (by decide) rfl ?_
      refine s_return rfl dX12_inserts_55 ?_
      rw [f9, up_s, up_up]
      refine hp _ (f1.up (by decide)) ?_
      rw [up_s]
      refine hs.wire hw ?_ ?_ (fun k hk => by rw [up_n (by omega), up_n (by omega)]; exact f2 k (by omega))
      · rw [up_s, (insL_ok hw.2.1 hi hv).2]; omega
      · unfold insL
        rw [sg_append, sg_cons]
        refine ⟨sg_congr (sg_take a1) fun k x1 x2 => ?_, ?_, ?_⟩
        · rw [List.length_take_of_le (by omega)] at x2
          rw [up_n (by omega), up_n (by omega)]
          exact f2 k (by omega)
        · rw [List.length_take_of_le (by omega), up_n (by omega), up_s]
        · rw [List.length_take_of_le (by omega)]
          have h9 := sg_drop a1 (n := i) (by omega)
          intro k hk
          rw [← h9 k hk, up_n (by omega), up_n (by omega)]
          rw [List.length_drop] at hk
          rw [f3 _ (by omega) (by omega)]
          congr 1 <;> omega
    | succ m ih =>
      intro j A' hj h1 f1 f2 f3
      refine s_iload_n 8 dX12_inserts_7 rfl rfl ?_
      refine s_iload_n 9 dX12_inserts_8 rfl rfl ?_
      refine s_icmp_le 12 36 dX12_inserts_9 rfl rfl (fun g => ?_) (fun g => ?_)
      · omega
      refine s_aload_n 13 dX12_inserts_12 rfl rfl ?_
      refine m_getV (k := 16) 16 dX12_inserts_13 rfl fl_X12_16 (by decide) rfl ?_
      refine s_iconst 17 dX12_inserts_16 rfl ?_
      refine s_iload_n 18 dX12_inserts_17 rfl rfl ?_
      refine s_iadd 19 dX12_inserts_18 rfl ?_
      refine s_aload_n 20 dX12_inserts_19 rfl rfl ?_
      refine m_getV (k := 16) 23 dX12_inserts_20 rfl fl_X12_16 (by decide) rfl ?_
      refine s_iconst 24 dX12_inserts_23 rfl ?_
      refine s_iload_n 25 dX12_inserts_24 rfl rfl ?_
      refine s_iadd 26 dX12_inserts_25 rfl ?_
      refine s_iconst 27 dX12_inserts_26 rfl ?_
      refine s_isub 28 dX12_inserts_27 rfl ?_
      refine m_ald 29 3 9309 dX12_inserts_28 rfl (by decide) rfl (fun hr28 => ?_)
      refine m_ast 30 3 9309 dX12_inserts_29 rfl (by decide) rfl ?_
      refine s_iinc 33 dX12_inserts_30 rfl rfl (Nat.le_of_ble_eq_true rfl) rfl ?_
      refine s_goto 7 dX12_inserts_33 rfl ?_
      obtain ⟨j1, rfl⟩ : ∃ j1, j = j1 + 1 := ⟨j - 1, by omega⟩
      rw [show ((j1 + 1 : Nat) : Int) + -1 = (j1 : Int) by omega]
      refine ih j1 _ (by omega) (by omega) (f1.up (by decide)) (fun k hk => ?_) (fun k x1 x2 => ?_)
      · rw [up_s, up_n (by omega)]
        exact f2 k (by omega)
      · rw [up_s]
        by_cases e : k = 1 + ((j1 + 1 : Nat) : Int)
        · subst e
          rw [up_s, f2 _ (by omega)]
        · rw [up_n e]
          exact f3 k (by omega) x2
  exact key (s.1.length - i) s.1.length A (by omega) (Nat.le_refl _) frA.rf (fun _ _ => rfl) (fun k x1 x2 => by omega)
theorem c_noisy {s : ST} {b : Int} {ch : Nat} (hs : RepSt ch (A 3) s) (hw : WfSt b ch s) (hp : ∀ A', frA [3] A A' → RepSt ch (A' 3) ((noiF D s.1).2.2, s.2) → post (some (vb (noiF D s.1).1)) (I, A', (noiF D s.1).2.1)) : Cm G (AM G m0 F n u) yX12_noisy cX12_noisy 4 (some .boolean) (d + 1) [.ref m0] (I, A, D) post := by
  refine Cm_intro (L := [some (.ref m0), none, none, none]) (by decide +kernel) (Nat.le_of_ble_eq_true rfl) rfl ?_
  have hw0 := hw.1
  have a0 := hs.1
  have a1 := hs.2.1
  have h3 := dv_rg (D := dn D) (m := 3) (by omega)
  have h255 := dv_rg (D := dn (dn (dn D))) (m := 255) (by omega)
  refine s_aload_n 1 dX12_noisy_0 rfl rfl ?_
  refine s_iconst 2 dX12_noisy_1 rfl ?_
  refine s_V1i 5 dX12_noisy_2 rfl km_X12_draw ml_X12_335 ds_X12_draw (Nat.le_of_ble_eq_true rfl) m_rec rfl (c_draw (by omega) ?_)
  refine ⟨_, rfl, ?_⟩
  refine s_istore_n 6 dX12_noisy_5 rfl (Nat.le_of_ble_eq_true rfl) rfl ?_
  refine s_iload_n 7 dX12_noisy_6 rfl rfl ?_
  refine s_iconst 8 dX12_noisy_7 rfl ?_
  have no : noiF D s.1 = (false, dn D, s.1) → V G (AM G m0 F n u) yX12_noisy cX12_noisy 4 (some .boolean) (d + 1) (I, A, dn D) 37 [some (.ref m0), some (vi (dv (dn D) 3)), none, none] [] post := by
    intro h
    rw [h] at hp
    refine s_iconst 38 dX12_noisy_37 rfl ?_
    first | refine s_zreturn rfl dX12_noisy_38 ?_ | refine s_zreturn1 rfl dX12_noisy_38 ?_ | refine s_zreturn0 rfl dX12_noisy_38 ?_
    exact hp A frA.rf hs
  have yes : (dv (dn D) 3 = 2 → s.1.length < 600) → (dv (dn D) 3 ≠ 2 → 0 < s.1.length) → V G (AM G m0 F n u) yX12_noisy cX12_noisy 4 (some .boolean) (d + 1) (I, A, dn D) 39 [some (.ref m0), some (vi (dv (dn D) 3)), none, none] [] post := by
    intro y1 y2
    refine s_aload_n 40 dX12_noisy_39 rfl rfl ?_
    refine s_aload_n 41 dX12_noisy_40 rfl rfl ?_
    refine m_getV (k := 16) 44 dX12_noisy_41 rfl fl_X12_16 (by decide) rfl ?_
    refine s_iconst 45 dX12_noisy_44 rfl ?_
    refine m_ald 46 3 9309 dX12_noisy_45 rfl (by decide) rfl (fun hr45 => ?_)
    refine s_iload_n 47 dX12_noisy_46 rfl rfl ?_
    refine s_iconst 48 dX12_noisy_47 rfl ?_
    have j56 : ∀ v : Int, v = (if dv (dn D) 3 = 2 then 1 else 0) → V G (AM G m0 F n u) yX12_noisy cX12_noisy 4 (some .boolean) (d + 1) (I, A, dn D) 56 [some (.ref m0), some (vi (dv (dn D) 3)), none, none] [vi v, vi (A 3 0), .ref m0] post := by
      intro v hv
      refine s_iadd 57 dX12_noisy_56 rfl ?_
      rw [a0]
      by_cases e2 : dv (dn D) 3 = 2
      · rw [if_pos e2] at hv
        subst hv
        have y3 := y1 e2
        have hd1 := dv_rg (D := dn (dn D)) (m := (s.1.length : Int) + 1) (by omega)
        rw [show noiF D s.1 = (true, dn (dn (dn D)), insL s.1 (dv (dn (dn D)) ((s.1.length : Int) + 1)).toNat (dv (dn (dn (dn D))) 255 + 1)) by unfold noiF; rw [if_pos e2, if_neg (by omega)]] at hp
        refine s_V1i 60 dX12_noisy_57 rfl km_X12_draw ml_X12_335 ds_X12_draw (Nat.le_of_ble_eq_true rfl) m_rec rfl (c_draw (by omega) ?_)
        refine ⟨_, rfl, ?_⟩
        refine s_istore_n 61 dX12_noisy_60 rfl (Nat.le_of_ble_eq_true rfl) rfl ?_
        refine s_iload_n 62 dX12_noisy_61 rfl rfl ?_
        refine s_iconst 63 dX12_noisy_62 rfl ?_
        refine s_icmp_ne 66 73 dX12_noisy_63 rfl rfl (fun g => ?_) (fun g => ?_)
        rotate_left
        · omega
        refine s_aload_n 74 dX12_noisy_73 rfl rfl ?_
        refine s_sipush 77 dX12_noisy_74 rfl (k := ?_)
        refine s_V1i 80 dX12_noisy_77 rfl km_X12_draw ml_X12_335 ds_X12_draw (Nat.le_of_ble_eq_true rfl) m_rec rfl (c_draw (by omega) ?_)
        refine ⟨_, rfl, ?_⟩
        refine s_iconst 81 dX12_noisy_80 rfl ?_
        refine s_iadd 82 dX12_noisy_81 rfl ?_
        refine s_istore_n 83 dX12_noisy_82 rfl (Nat.le_of_ble_eq_true rfl) rfl ?_
        refine s_iload_n 84 dX12_noisy_83 rfl rfl ?_
        refine s_if_ne 87 102 dX12_noisy_84 rfl rfl (fun g2 => ?_) (fun g2 => ?_)
        rotate_left
        · omega
        obtain ⟨i, hi⟩ := Int.eq_ofNat_of_zero_le hd1.1
        rw [hi] at hp ⊢
        rw [Int.toNat_natCast] at hp
        refine s_aload_n 103 dX12_noisy_102 rfl rfl ?_
        refine s_iload_n 104 dX12_noisy_103 rfl rfl ?_
        refine s_iload_n 105 dX12_noisy_104 rfl rfl ?_
        refine s_V2v 108 dX12_noisy_105 rfl km_X12_inserts ml_X12_323 ds_X12_inserts (Nat.le_of_ble_eq_true rfl) m_rec rfl (c_inserts hs hw (by omega) (by omega) (by omega) (fun A1 k1 k2 => ?_))
        refine ⟨rfl, ?_⟩
        refine s_iconst 109 dX12_noisy_108 rfl ?_
        first | refine s_zreturn rfl dX12_noisy_109 ?_ | refine s_zreturn1 rfl dX12_noisy_109 ?_ | refine s_zreturn0 rfl dX12_noisy_109 ?_
        exact hp A1 k1 k2
      · rw [if_neg e2] at hv
        subst hv
        have y3 := y2 e2
        rw [show (s.1.length : Int) + 0 = s.1.length by omega]
        have hd1 := dv_rg (D := dn (dn D)) (m := (s.1.length : Int)) (by omega)
        obtain ⟨i, hi⟩ := Int.eq_ofNat_of_zero_le hd1.1
        refine s_V1i 60 dX12_noisy_57 rfl km_X12_draw ml_X12_335 ds_X12_draw (Nat.le_of_ble_eq_true rfl) m_rec rfl (c_draw (by omega) ?_)
        refine ⟨_, rfl, ?_⟩
        refine s_istore_n 61 dX12_noisy_60 rfl (Nat.le_of_ble_eq_true rfl) rfl ?_
        refine s_iload_n 62 dX12_noisy_61 rfl rfl ?_
        refine s_iconst 63 dX12_noisy_62 rfl ?_
        rw [hi]
        refine s_icmp_ne 66 73 dX12_noisy_63 rfl rfl (fun g => ?_) (fun g => ?_)
        · rw [show noiF D s.1 = (true, dn (dn (dn D)), flpL s.1 (dv (dn (dn D)) (s.1.length : Int)).toNat (dv (dn (dn (dn D))) 255 + 1)) by unfold noiF; rw [if_neg e2, if_neg (by omega), if_neg (by omega)], hi, Int.toNat_natCast] at hp
          refine s_aload_n 74 dX12_noisy_73 rfl rfl ?_
          refine s_sipush 77 dX12_noisy_74 rfl (k := ?_)
          refine s_V1i 80 dX12_noisy_77 rfl km_X12_draw ml_X12_335 ds_X12_draw (Nat.le_of_ble_eq_true rfl) m_rec rfl (c_draw (by omega) ?_)
          refine ⟨_, rfl, ?_⟩
          refine s_iconst 81 dX12_noisy_80 rfl ?_
          refine s_iadd 82 dX12_noisy_81 rfl ?_
          refine s_istore_n 83 dX12_noisy_82 rfl (Nat.le_of_ble_eq_true rfl) rfl ?_
          refine s_iload_n 84 dX12_noisy_83 rfl rfl ?_
          refine s_if_ne 87 102 dX12_noisy_84 rfl rfl (fun g2 => ?_) (fun g2 => ?_)
          · omega
          have hb := byt_at hw.2.1 i
          have ev : A 3 (1 + (i : Int)) = s.1.getD i 0 := a1 i (by omega)
          have hx := xr_rg hb (b := dv (dn (dn (dn D))) 255 + 1) (by omega)
          refine s_aload_n 88 dX12_noisy_87 rfl rfl ?_
          refine m_getV (k := 16) 91 dX12_noisy_88 rfl fl_X12_16 (by decide) rfl ?_
          refine s_iconst 92 dX12_noisy_91 rfl ?_
          refine s_iload_n 93 dX12_noisy_92 rfl rfl ?_
          refine s_iadd 94 dX12_noisy_93 rfl ?_
          refine s_dup2 (q := 95) (hd := dX12_noisy_94) (hq := rfl) (k := ?_)
          refine m_ald 96 3 9309 dX12_noisy_95 rfl (by decide) rfl (fun hr95 => ?_)
          refine s_iload_n 97 dX12_noisy_96 rfl rfl ?_
          rw [ev]
          refine s_ixor 98 (xr (s.1.getD i 0) (dv (dn (dn (dn D))) 255 + 1)) dX12_noisy_97 rfl (xor_xr hb.1 (by omega)) ?_
          refine m_ast 99 3 9309 dX12_noisy_98 rfl (by decide) rfl ?_
          refine s_goto 108 dX12_noisy_99 rfl ?_
          refine s_iconst 109 dX12_noisy_108 rfl ?_
          first | refine s_zreturn rfl dX12_noisy_109 ?_ | refine s_zreturn1 rfl dX12_noisy_109 ?_ | refine s_zreturn0 rfl dX12_noisy_109 ?_
          refine hp _ (frA.rf.up (by decide)) ?_
          rw [up_s]
          refine hs.wire hw ?_ ?_ (fun k hk => up_n (by omega))
          · rw [up_n (by omega), a0]; unfold flpL; rw [List.length_set]
          · unfold flpL
            exact sg_set a1 (by omega) (by omega)
        · rw [show noiF D s.1 = (true, dn (dn D), losL s.1 (dv (dn (dn D)) (s.1.length : Int)).toNat) by unfold noiF; rw [if_neg e2, if_neg (by omega), if_pos (by omega)], hi, Int.toNat_natCast] at hp
          refine s_aload_n 67 dX12_noisy_66 rfl rfl ?_
          refine s_iload_n 68 dX12_noisy_67 rfl rfl ?_
          refine s_V1v 71 dX12_noisy_68 rfl km_X12_loses ml_X12_320 ds_X12_loses (Nat.le_of_ble_eq_true rfl) m_rec rfl (c_loses hs hw (by omega) (fun A1 k1 k2 => ?_))
          refine ⟨rfl, ?_⟩
          refine s_iconst 72 dX12_noisy_71 rfl ?_
          first | refine s_zreturn rfl dX12_noisy_72 ?_ | refine s_zreturn1 rfl dX12_noisy_72 ?_ | refine s_zreturn0 rfl dX12_noisy_72 ?_
          exact hp A1 k1 k2
    refine s_icmp_ne 51 55 dX12_noisy_48 rfl rfl (fun g => ?_) (fun g => ?_)
    · refine s_iconst 56 dX12_noisy_55 rfl ?_
      exact j56 0 (by rw [if_neg g])
    · refine s_iconst 52 dX12_noisy_51 rfl ?_
      refine s_goto 56 dX12_noisy_52 rfl ?_
      exact j56 1 (by rw [if_pos (by omega)])
  have j20 : (dv (dn D) 3 ≠ 2 → 0 < s.1.length) → V G (AM G m0 F n u) yX12_noisy cX12_noisy 4 (some .boolean) (d + 1) (I, A, dn D) 20 [some (.ref m0), some (vi (dv (dn D) 3)), none, none] [] post := by
    intro y2
    refine s_iload_n 21 dX12_noisy_20 rfl rfl ?_
    refine s_iconst 22 dX12_noisy_21 rfl ?_
    refine s_icmp_ne 25 39 dX12_noisy_22 rfl rfl (fun g => ?_) (fun g => ?_)
    · exact yes (fun h => absurd h g) y2
    refine s_aload_n 26 dX12_noisy_25 rfl rfl ?_
    refine m_getV (k := 16) 29 dX12_noisy_26 rfl fl_X12_16 (by decide) rfl ?_
    refine s_iconst 30 dX12_noisy_29 rfl ?_
    refine m_ald 31 3 9309 dX12_noisy_30 rfl (by decide) rfl (fun hr30 => ?_)
    refine s_sipush 34 dX12_noisy_31 rfl (k := ?_)
    rw [a0]
    refine s_icmp_ne 37 39 dX12_noisy_34 rfl rfl (fun g2 => ?_) (fun g2 => ?_)
    · exact yes (fun _ => by omega) y2
    · exact no (by unfold noiF; rw [if_pos (by omega), if_pos (by omega)])
  refine s_icmp_ge 11 20 dX12_noisy_8 rfl rfl (fun g => ?_) (fun g => ?_)
  · exact j20 (fun h => by omega)
  refine s_aload_n 12 dX12_noisy_11 rfl rfl ?_
  refine m_getV (k := 16) 15 dX12_noisy_12 rfl fl_X12_16 (by decide) rfl ?_
  refine s_iconst 16 dX12_noisy_15 rfl ?_
  refine m_ald 17 3 9309 dX12_noisy_16 rfl (by decide) rfl (fun hr16 => ?_)
  rw [a0]
  refine s_if_eq 20 37 dX12_noisy_17 rfl rfl (fun g2 => ?_) (fun g2 => ?_)
  · exact no (by unfold noiF; rw [if_neg (by omega), if_pos (by omega)])
  · exact j20 (fun _ => by omega)
end M14
