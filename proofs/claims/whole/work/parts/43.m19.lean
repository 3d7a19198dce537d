section M19
variable {G : GT} {m0 n u : Nat} {F : HS} {d : Nat} {I : Nat → Int} {A : Nat → Int → Int} {D : Int64} {post : Option Value → MT → Prop} {ru : RU} {r1 r2 r3 : String × Nat × String}
theorem c_takesOne {tp : List Int} {q j1 j2 j3 : Nat} {w1 w2 w3 : List Int} (u1 : txt r1.2.2 = w1) (u2 : txt r2.2.2 = w2) (u3 : txt r3.2.2 = w3) (hj1 : gSt[j1]? = some r1) (hj2 : gSt[j2]? = some r2) (hj3 : gSt[j3]? = some r3) (h5 : I 5 = -1) (hP : PP I tp q) (ht : sg (A 1) 0 tp) (hl : tp.length ≤ 300) (hb : byt tp) (hp1 : oneF tp q w1 w2 w3 ≠ -1 → ∀ I', frI [3, 4, 6, 7] I I' → PP I' tp (pB tp (pE tp q)) → post (some (vi (oneF tp q w1 w2 w3))) (I', A, D)) (hp0 : oneF tp q w1 w2 w3 = -1 → post (some (vi 0)) (up I 5 q, A, D)) : Cm G (AM G m0 F n u) yX12_takesOne cX12_takesOne 5 (some .int) (d + 5) [.ref m0, .ref (gAK G j1), .ref (gAK G j2), .ref (gAK G j3)] (I, A, D) post := by
  subst u1 u2 u3
  have hP0 := hP
  obtain ⟨h2, h4, h3, h6, h7, hq⟩ := hP0
  have hE := pE_le hq
  refine Cm_intro (L := [some (.ref m0), some (.ref (gAK G j1)), some (.ref (gAK G j2)), some (.ref (gAK G j3)), none]) (by decide +kernel) (Nat.le_of_ble_eq_true rfl) rfl ?_
  have good : ∀ z : Int, oneF tp q (txt r1.2.2) (txt r2.2.2) (txt r3.2.2) = z → 0 ≤ z ∧ z ≤ 2 → V G (AM G m0 F n u) yX12_takesOne cX12_takesOne 5 (some .int) (d + 5) (I, A, D) 37 [some (.ref m0), some (.ref (gAK G j1)), some (.ref (gAK G j2)), some (.ref (gAK G j3)), none] [vi z] post := by
    intro z hz hr
    refine s_istore 39 dX12_takesOne_37 rfl (Nat.le_of_ble_eq_true rfl) rfl ?_
    refine s_iload 41 dX12_takesOne_39 rfl rfl ?_
    refine s_iconst 42 dX12_takesOne_41 rfl ?_
    refine s_icmp_ne 45 51 dX12_takesOne_42 rfl rfl (fun g => ?_) (fun g => ?_)
    · refine s_aload_n 52 dX12_takesOne_51 rfl rfl ?_
      refine s_V0v 55 dX12_takesOne_52 rfl km_X12_next ml_X12_115 ds_X12_next (Nat.le_of_ble_eq_true rfl) m_rec rfl (c_next h2 h3 ht hl hb hE.2.1 (fun I1 k1 k2 k3 k4 k5 => ?_))
      refine ⟨rfl, ?_⟩
      refine s_iload 57 dX12_takesOne_55 rfl rfl ?_
      refine s_ireturn rfl dX12_takesOne_57 ?_
      have hpb := pB_le hE.2.1
      have := hp1 (by omega) I1 k1 ⟨(k1 2 (by decide)).trans h2, k2, k4, k3, k5, hpb.2⟩
      rw [hz] at this
      exact this
    · omega
  refine s_aload_n 1 dX12_takesOne_0 rfl rfl ?_
  refine s_aload_n 2 dX12_takesOne_1 rfl rfl ?_
  refine s_V1b 5 dX12_takesOne_2 rfl km_X12_isWord ml_X12_124 ds_X12_isWord (Nat.le_of_ble_eq_true rfl) m_rec rfl (c_isWord hj1 hP ht hl hb ?_)
  refine ⟨_, rfl, ?_⟩
  refine s_if_eqb 8 12 dX12_takesOne_5 rfl rfl (fun g1 => ?_) (fun g1 => ?_)
  rotate_left
  · have g1 := of_decide_eq_true g1
    refine s_iconst 9 dX12_takesOne_8 rfl ?_
    refine s_goto 37 dX12_takesOne_9 rfl ?_
    exact good 0 (by unfold oneF; rw [if_pos g1.2]) (by omega)
  have g1 : ¬ isW tp q (txt r1.2.2) := fun h => of_decide_eq_false g1 ⟨h5, h⟩
  refine s_aload_n 13 dX12_takesOne_12 rfl rfl ?_
  refine s_aload_n 14 dX12_takesOne_13 rfl rfl ?_
  refine s_V1b 17 dX12_takesOne_14 rfl km_X12_isWord ml_X12_124 ds_X12_isWord (Nat.le_of_ble_eq_true rfl) m_rec rfl (c_isWord hj2 hP ht hl hb ?_)
  refine ⟨_, rfl, ?_⟩
  refine s_if_eqb 20 24 dX12_takesOne_17 rfl rfl (fun g2 => ?_) (fun g2 => ?_)
  rotate_left
  · have g2 := of_decide_eq_true g2
    refine s_iconst 21 dX12_takesOne_20 rfl ?_
    refine s_goto 37 dX12_takesOne_21 rfl ?_
    exact good 1 (by unfold oneF; rw [if_neg g1, if_pos g2.2]) (by omega)
  have g2 : ¬ isW tp q (txt r2.2.2) := fun h => of_decide_eq_false g2 ⟨h5, h⟩
  refine s_aload_n 25 dX12_takesOne_24 rfl rfl ?_
  refine s_aload_n 26 dX12_takesOne_25 rfl rfl ?_
  refine s_V1b 29 dX12_takesOne_26 rfl km_X12_isWord ml_X12_124 ds_X12_isWord (Nat.le_of_ble_eq_true rfl) m_rec rfl (c_isWord hj3 hP ht hl hb ?_)
  refine ⟨_, rfl, ?_⟩
  refine s_if_eqb 32 36 dX12_takesOne_29 rfl rfl (fun g3 => ?_) (fun g3 => ?_)
  rotate_left
  · have g3 := of_decide_eq_true g3
    refine s_iconst 33 dX12_takesOne_32 rfl ?_
    refine s_goto 37 dX12_takesOne_33 rfl ?_
    exact good 2 (by unfold oneF; rw [if_neg g1, if_neg g2, if_pos g3.2]) (by omega)
  have g3 : ¬ isW tp q (txt r3.2.2) := fun h => of_decide_eq_false g3 ⟨h5, h⟩
  refine s_iconst 37 dX12_takesOne_36 rfl ?_
  refine s_istore 39 dX12_takesOne_37 rfl (Nat.le_of_ble_eq_true rfl) rfl ?_
  refine s_iload 41 dX12_takesOne_39 rfl rfl ?_
  refine s_iconst 42 dX12_takesOne_41 rfl ?_
  refine s_icmp_ne 45 51 dX12_takesOne_42 rfl rfl (fun g => ?_) (fun g => ?_)
  · omega
  refine s_aload_n 46 dX12_takesOne_45 rfl rfl ?_
  refine s_V0v 49 dX12_takesOne_46 rfl km_X12_bad ml_X12_118 ds_X12_bad (Nat.le_of_ble_eq_true rfl) m_rec rfl (c_bad ?_)
  refine ⟨rfl, ?_⟩
  refine s_iconst 50 dX12_takesOne_49 rfl ?_
  refine s_ireturn rfl dX12_takesOne_50 ?_
  have := hp0 (by unfold oneF; rw [if_neg g1, if_neg g2, if_neg g3])
  rw [if_pos h5, h4]
  exact this
theorem or_bit : ∀ ss : Nat, ss < 32 → ∀ s : Nat, s < 5 → nI ss ||| nI (2 ^ s) = nI (if ss / 2 ^ s % 2 = 0 then ss + 2 ^ s else ss) := by decide +kernel
theorem shl_bit : ∀ s : Nat, s < 5 → nI 1 <<< (nI s &&& 31) = nI (2 ^ s) := by decide +kernel
theorem shr_bit : ∀ ss : Nat, ss < 32 → ∀ s : Nat, s < 5 → nI ss >>> (nI s &&& 31) = nI (ss / 2 ^ s) := by decide +kernel
theorem p2_pow : ∀ s : Nat, s < 5 → p2 (s : Int) = ((2 ^ s : Nat) : Int) := by decide +kernel
theorem c_isNew {s : Nat} (hs : s < 5) (h14 : 0 ≤ I 14 ∧ I 14 ≤ 31) (hp : post (some (vb (decide (I 14 / p2 s % 2 = 0)))) (up I 14 (if I 14 / p2 s % 2 = 0 then I 14 + p2 s else I 14), A, D)) : Cm G (AM G m0 F n u) yX12_isNew cX12_isNew 3 (some .boolean) d [.ref m0, vi s] (I, A, D) post := by
  refine Cm_intro (L := [some (.ref m0), some (vi s), none]) (by decide +kernel) (Nat.le_of_ble_eq_true rfl) rfl ?_
  rw [p2_pow s hs] at hp
  obtain ⟨ss, hss⟩ := Int.eq_ofNat_of_zero_le h14.1
  have hss2 : ss < 32 := by omega
  have e0 : I 14 / ((2 ^ s : Nat) : Int) % 2 = ((ss / 2 ^ s % 2 : Nat) : Int) := by rw [hss]; norm_cast
  have e1 : (if I 14 / ((2 ^ s : Nat) : Int) % 2 = 0 then I 14 + ((2 ^ s : Nat) : Int) else I 14) = ((if ss / 2 ^ s % 2 = 0 then ss + 2 ^ s else ss : Nat) : Int) := by
    rw [e0, hss]
    by_cases h : ss / 2 ^ s % 2 = 0
    · rw [if_pos h, if_pos (by omega)]; norm_cast
    · rw [if_neg h, if_neg (by omega)]
  have hsr := shr_bit ss hss2 s hs
  have hor := or_bit ss hss2 s hs
  have hsl := shl_bit s hs
  rw [e1] at hp
  have hr : 0 ≤ ((ss / 2 ^ s : Nat) : Int) ∧ ((ss / 2 ^ s : Nat) : Int) ≤ 31 := by
    have := Nat.div_le_self ss (2 ^ s)
    generalize ss / 2 ^ s = z at *
    exact ⟨Int.natCast_nonneg z, by omega⟩
  have hr2 : (if ss / 2 ^ s % 2 = 0 then ss + 2 ^ s else ss) < 64 := by
    have : 2 ^ s ≤ 16 := (show ∀ s : Nat, s < 5 → 2 ^ s ≤ 16 by decide) s hs
    split <;> omega
  refine s_aload_n 1 dX12_isNew_0 rfl rfl ?_
  refine m_getI 4 14 dX12_isNew_1 rfl fl_X12_121 (by decide) rfl (fun hr1 => ?_)
  refine s_iload_n 5 dX12_isNew_4 rfl rfl ?_
  refine s_ishr 6 (((ss / 2 ^ s : Nat) : Int)) dX12_isNew_5 rfl ((by rw [hss, oI_nI, oI_nI, oI_nI]; exact hsr)) ?_
  refine s_iconst 7 dX12_isNew_6 rfl ?_
  refine s_iand 8 (((ss / 2 ^ s : Nat) : Int) % 2) dX12_isNew_7 rfl ((and_1 _)) ?_
  have tail : ∀ b : Bool, decide (I 14 / ((2 ^ s : Nat) : Int) % 2 = 0) = b → V G (AM G m0 F n u) yX12_isNew cX12_isNew 3 (some .boolean) d (I, A, D) 16 [some (.ref m0), some (vi s), none] [vi (if b then 1 else 0)] post := by
    intro b hb
    rw [hb] at hp
    refine s_istore_n 17 dX12_isNew_16 rfl (Nat.le_of_ble_eq_true rfl) rfl ?_
    refine s_aload_n 18 dX12_isNew_17 rfl rfl ?_
    refine s_dup (q := 19) (hd := dX12_isNew_18) (hq := rfl) (k := ?_)
    refine m_getI 22 14 dX12_isNew_19 rfl fl_X12_121 (by decide) rfl (fun hr19 => ?_)
    refine s_iconst 23 dX12_isNew_22 rfl ?_
    refine s_iload_n 24 dX12_isNew_23 rfl rfl ?_
    refine s_ishl 25 (((2 ^ s : Nat) : Int)) dX12_isNew_24 rfl ((by rw [oI_nI, oI_nI]; exact hsl)) ?_
    refine s_ior 26 (((if ss / 2 ^ s % 2 = 0 then ss + 2 ^ s else ss : Nat) : Int)) dX12_isNew_25 rfl ((by rw [hss, oI_nI, oI_nI, oI_nI]; exact hor)) ?_
    refine m_putI 29 14 dX12_isNew_26 rfl fl_X12_121 (by decide) rfl rfl rfl rfl ?_
    cases b
    · refine s_iload_n 30 dX12_isNew_29 rfl rfl ?_
      first | refine s_zreturn rfl dX12_isNew_30 ?_ | refine s_zreturn1 rfl dX12_isNew_30 ?_ | refine s_zreturn0 rfl dX12_isNew_30 ?_
      exact hp
    · refine s_iload_n 30 dX12_isNew_29 rfl rfl ?_
      first | refine s_zreturn rfl dX12_isNew_30 ?_ | refine s_zreturn1 rfl dX12_isNew_30 ?_ | refine s_zreturn0 rfl dX12_isNew_30 ?_
      exact hp
  refine s_if_ne 11 15 dX12_isNew_8 rfl rfl (fun g => ?_) (fun g => ?_)
  · refine s_iconst 16 dX12_isNew_15 rfl ?_
    exact tail false (decide_eq_false (by rw [e0]; omega))
  · refine s_iconst 12 dX12_isNew_11 rfl ?_
    refine s_goto 16 dX12_isNew_12 rfl ?_
    exact tail true (decide_eq_true (by rw [e0]; omega))
end M19
