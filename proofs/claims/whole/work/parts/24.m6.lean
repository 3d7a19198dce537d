section M6
variable {G : GT} {m0 n u : Nat} {F : HS} {d : Nat} {I : Nat → Int} {A : Nat → Int → Int} {D : Int64} {post : Option Value → MT → Prop} {ru : RU}
theorem rep1 (f : Int → Int) (m : Nat) (s : Int) : Nat.repeat f (m + 1) s = Nat.repeat f m (f s) := by
  induction m with
  | zero => rfl
  | succ m ih => exact congrArg f ih
theorem c_hereAt {k : Int} (hp : post (some (vi (1100 + 122 * k))) (I, A, D)) : Cm G (AM G m0 F n u) yX12_hereAt cX12_hereAt 1 (some .int) d [vi k] (I, A, D) post := by
  refine Cm_intro (L := [some (vi k)]) (by decide +kernel) (Nat.le_of_ble_eq_true rfl) rfl ?_
  refine s_sipush 3 dX12_hereAt_0 rfl (k := ?_)
  refine s_bipush 5 dX12_hereAt_3 rfl (k := ?_)
  refine s_iload_n 6 dX12_hereAt_5 rfl rfl ?_
  refine s_imul 7 dX12_hereAt_6 rfl ?_
  refine s_iadd 8 dX12_hereAt_7 rfl ?_
  refine s_ireturn rfl dX12_hereAt_8 ?_
  exact hp
theorem c_waitAt {k : Int} (hp : post (some (vi (12 + 121 * k))) (I, A, D)) : Cm G (AM G m0 F n u) yX12_waitAt cX12_waitAt 1 (some .int) d [vi k] (I, A, D) post := by
  refine Cm_intro (L := [some (vi k)]) (by decide +kernel) (Nat.le_of_ble_eq_true rfl) rfl ?_
  refine s_bipush 2 dX12_waitAt_0 rfl (k := ?_)
  refine s_bipush 4 dX12_waitAt_2 rfl (k := ?_)
  refine s_iload_n 5 dX12_waitAt_4 rfl rfl ?_
  refine s_imul 6 dX12_waitAt_5 rfl ?_
  refine s_iadd 7 dX12_waitAt_6 rfl ?_
  refine s_ireturn rfl dX12_waitAt_7 ?_
  exact hp
theorem c_checkLong (hp : post (some (vi (ckl (I 21) : Nat))) (I, A, D)) : Cm G (AM G m0 F n u) yX12_checkLong cX12_checkLong 1 (some .int) d [.ref m0] (I, A, D) post := by
  refine Cm_intro (L := [some (.ref m0)]) (by decide +kernel) (Nat.le_of_ble_eq_true rfl) rfl ?_
  refine s_aload_n 1 dX12_checkLong_0 rfl rfl ?_
  refine m_getI 4 21 dX12_checkLong_1 rfl fl_X12_194 (by decide) rfl (fun hr1 => ?_)
  refine s_if_ne 7 11 dX12_checkLong_4 rfl rfl (fun h => ?_) (fun h => ?_)
  · refine s_iconst 12 dX12_checkLong_11 rfl ?_
    refine s_ireturn rfl dX12_checkLong_12 ?_
    rw [show ckl (I 21) = 1 from if_neg h] at hp
    exact hp
  · refine s_iconst 8 dX12_checkLong_7 rfl ?_
    refine s_goto 12 dX12_checkLong_8 rfl ?_
    refine s_ireturn rfl dX12_checkLong_12 ?_
    rw [show ckl (I 21) = 0 from if_pos (by omega)] at hp
    exact hp
theorem c_partLong (hp : post (some (vi (I 26 - 1 - (ckl (I 21) : Nat)))) (I, A, D)) : Cm G (AM G m0 F n u) yX12_partLong cX12_partLong 1 (some .int) (d + 1) [.ref m0] (I, A, D) post := by
  refine Cm_intro (L := [some (.ref m0)]) (by decide +kernel) (Nat.le_of_ble_eq_true rfl) rfl ?_
  refine s_aload_n 1 dX12_partLong_0 rfl rfl ?_
  refine m_getI 4 26 dX12_partLong_1 rfl fl_X12_217 (by decide) rfl (fun hr1 => ?_)
  refine s_iconst 5 dX12_partLong_4 rfl ?_
  refine s_isub 6 dX12_partLong_5 rfl ?_
  refine s_aload_n 7 dX12_partLong_6 rfl rfl ?_
  refine s_V0i 10 dX12_partLong_7 rfl km_X12_checkLong ml_X12_268 ds_X12_checkLong (Nat.le_of_ble_eq_true rfl) m_rec rfl (c_checkLong ?_)
  refine ⟨_, rfl, ?_⟩
  refine s_isub 11 dX12_partLong_10 rfl ?_
  refine s_ireturn rfl dX12_partLong_11 ?_
  exact hp
theorem c_checkOf {l : List Int} (hl : sg (A 5) 0 l) (hb : byt l) (hN : l.length ≤ 1300) (hck : I 21 = 1 ∨ I 21 = 2) (hp : post (some (vi (chkF (I 21) l))) (I, A, D)) : Cm G (AM G m0 F n u) yX12_checkOf cX12_checkOf 5 (some .int) d [.ref m0, vi l.length] (I, A, D) post := by
  refine Cm_intro (L := [some (.ref m0), some (vi l.length), none, none, none]) (by decide +kernel) (Nat.le_of_ble_eq_true rfl) rfl ?_
  refine s_iconst 1 dX12_checkOf_0 rfl ?_
  refine s_istore_n 2 dX12_checkOf_1 rfl (Nat.le_of_ble_eq_true rfl) rfl ?_
  refine s_iconst 3 dX12_checkOf_2 rfl ?_
  refine s_istore_n 4 dX12_checkOf_3 rfl (Nat.le_of_ble_eq_true rfl) rfl ?_
  have key : ∀ (k j : Nat), j + k = l.length → V G (AM G m0 F n u) yX12_checkOf cX12_checkOf 5 (some .int) d (I, A, D) 4 [some (.ref m0), some (vi l.length), some (vi (chkF (I 21) (l.take j))), some (vi j), none] [] post := by
    intro k
    induction k with
    | zero =>
      intro j hj
      refine s_iload_n 5 dX12_checkOf_4 rfl rfl ?_
      refine s_iload_n 6 dX12_checkOf_5 rfl rfl ?_
      refine s_icmp_ge 9 88 dX12_checkOf_6 rfl rfl (fun h => ?_) (fun h => ?_)
      · refine s_iload_n 89 dX12_checkOf_88 rfl rfl ?_
        refine s_ireturn rfl dX12_checkOf_89 ?_
        rw [List.take_of_length_le (by omega)]
        exact hp
      · omega
    | succ k ih =>
      intro j hj
      have hs := chkF_rg (ck := I 21) (byt_take hb j)
      have hv := byt_at hb j
      have e5 : A 5 (j : Int) = l.getD j 0 := sg_slice hl (by omega)
      have et : l.take (j + 1) = l.take j ++ [l.getD j 0] := by
        have := take_snoc (bs := l) (p := 0) (r := j) (by omega)
        rw [List.drop_zero, Nat.zero_add] at this
        exact this
      refine s_iload_n 5 dX12_checkOf_4 rfl rfl ?_
      refine s_iload_n 6 dX12_checkOf_5 rfl rfl ?_
      refine s_icmp_ge 9 88 dX12_checkOf_6 rfl rfl (fun h => ?_) (fun h => ?_)
      · omega
      refine s_aload_n 10 dX12_checkOf_9 rfl rfl ?_
      refine m_getI 13 21 dX12_checkOf_10 rfl fl_X12_194 (by decide) rfl (fun hr10 => ?_)
      refine s_iconst 14 dX12_checkOf_13 rfl ?_
      refine s_icmp_ne 17 33 dX12_checkOf_14 rfl rfl (fun h2 => ?_) (fun h2 => ?_)
      · have hs2 := xr_rg hs hv
        refine s_iload_n 34 dX12_checkOf_33 rfl rfl ?_
        refine s_aload_n 35 dX12_checkOf_34 rfl rfl ?_
        refine m_getV (k := 25) 38 dX12_checkOf_35 rfl fl_X12_29 (by decide) rfl ?_
        refine s_iload_n 39 dX12_checkOf_38 rfl rfl ?_
        refine m_ald 40 5 1400 dX12_checkOf_39 rfl (by decide) rfl (fun hr39 => ?_)
        refine s_ixor 41 (xr (chkF (I 21) (l.take j)) (l.getD j 0)) dX12_checkOf_40 rfl (by rw [e5]; exact xor_xr hs.1 hv.1) ?_
        refine s_istore_n 42 dX12_checkOf_41 rfl (Nat.le_of_ble_eq_true rfl) rfl ?_
        refine s_iconst 43 dX12_checkOf_42 rfl ?_
        refine s_istore 45 dX12_checkOf_43 rfl (Nat.le_of_ble_eq_true rfl) rfl ?_
        have crc : ∀ (m i : Nat) (s : Int), i + m = 8 → 0 ≤ s ∧ s ≤ 255 → (∃ t : Int, (0 ≤ t ∧ t ≤ 255) ∧ t = Nat.repeat crc1 m s ∧ V G (AM G m0 F n u) yX12_checkOf cX12_checkOf 5 (some .int) d (I, A, D) 82 [some (.ref m0), some (vi l.length), some (vi t), some (vi j), none] [] post) → V G (AM G m0 F n u) yX12_checkOf cX12_checkOf 5 (some .int) d (I, A, D) 45 [some (.ref m0), some (vi l.length), some (vi s), some (vi j), some (vi i)] [] post := by
          intro m
          induction m with
          | zero =>
            rintro i s hi hs ⟨t, ht, rfl, hV⟩
            refine s_iload 47 dX12_checkOf_45 rfl rfl ?_
            refine s_bipush 49 dX12_checkOf_47 rfl (k := ?_)
            refine s_icmp_ge 52 82 dX12_checkOf_49 rfl rfl (fun g => ?_) (fun g => ?_)
            · exact V_kill 4 hV
            · omega
          | succ m ihm =>
            rintro i s hi hs ⟨t, ht, hte, hV⟩
            refine s_iload 47 dX12_checkOf_45 rfl rfl ?_
            refine s_bipush 49 dX12_checkOf_47 rfl (k := ?_)
            refine s_icmp_ge 52 82 dX12_checkOf_49 rfl rfl (fun g => ?_) (fun g => ?_)
            · omega
            have hc1 := crc1_rg hs
            have hrep := rep1 crc1 m s
            refine s_iload_n 53 dX12_checkOf_52 rfl rfl ?_
            refine s_sipush 56 dX12_checkOf_53 rfl (k := ?_)
            refine s_icmp_lt 59 72 dX12_checkOf_56 rfl rfl (fun g2 => ?_) (fun g2 => ?_)
            · refine s_iload_n 73 dX12_checkOf_72 rfl rfl ?_
              refine s_iconst 74 dX12_checkOf_73 rfl ?_
              refine s_ishl 75 (2 * s) dX12_checkOf_74 rfl (shl_1 hs) ?_
              refine s_istore_n 76 dX12_checkOf_75 rfl (Nat.le_of_ble_eq_true rfl) rfl ?_
              refine s_iinc 79 dX12_checkOf_76 rfl rfl (Nat.le_of_ble_eq_true rfl) rfl ?_
              refine s_goto 45 dX12_checkOf_79 rfl ?_
              refine ihm (i + 1) (2 * s) (by omega) (by omega) ⟨t, ht, ?_, hV⟩
              rw [hte, hrep, show crc1 s = 2 * s from if_neg (by omega)]
            · refine s_iload_n 60 dX12_checkOf_59 rfl rfl ?_
              refine s_iconst 61 dX12_checkOf_60 rfl ?_
              refine s_ishl 62 (2 * s) dX12_checkOf_61 rfl (shl_1 hs) ?_
              refine s_sipush 65 dX12_checkOf_62 rfl (k := ?_)
              refine s_iand 66 (2 * s % 256) dX12_checkOf_65 rfl (and_255 _) ?_
              refine s_bipush 68 dX12_checkOf_66 rfl (k := ?_)
              refine s_ixor 69 (xr (2 * s % 256) 7) dX12_checkOf_68 rfl (xor_xr (by omega) (by omega)) ?_
              refine s_goto 75 dX12_checkOf_69 rfl ?_
              refine s_istore_n 76 dX12_checkOf_75 rfl (Nat.le_of_ble_eq_true rfl) rfl ?_
              refine s_iinc 79 dX12_checkOf_76 rfl rfl (Nat.le_of_ble_eq_true rfl) rfl ?_
              refine s_goto 45 dX12_checkOf_79 rfl ?_
              have hx9 := xr_rg (a := 2 * s % 256) (b := 7) (by omega) (by omega)
              refine ihm (i + 1) (xr (2 * s % 256) 7) (by omega) hx9 ⟨t, ht, ?_, hV⟩
              rw [hte, hrep, show crc1 s = xr (2 * s % 256) 7 from if_pos (by omega)]
        refine crc 8 0 _ (by omega) hs2 ⟨crc8 (xr (chkF (I 21) (l.take j)) (l.getD j 0)), crc8_rg hs2, rfl, ?_⟩
        refine s_iinc 85 dX12_checkOf_82 rfl rfl (Nat.le_of_ble_eq_true rfl) rfl ?_
        refine s_goto 4 dX12_checkOf_85 rfl ?_
        have e9 : chkF (I 21) (l.take (j + 1)) = crc8 (xr (chkF (I 21) (l.take j)) (l.getD j 0)) := by rw [et, chkF_snoc]; exact if_neg h2
        rw [← e9]
        exact ih (j + 1) (by omega)
      · refine s_iload_n 18 dX12_checkOf_17 rfl rfl ?_
        refine s_aload_n 19 dX12_checkOf_18 rfl rfl ?_
        refine m_getV (k := 25) 22 dX12_checkOf_19 rfl fl_X12_29 (by decide) rfl ?_
        refine s_iload_n 23 dX12_checkOf_22 rfl rfl ?_
        refine m_ald 24 5 1400 dX12_checkOf_23 rfl (by decide) rfl (fun hr23 => ?_)
        refine s_iadd 25 dX12_checkOf_24 rfl ?_
        refine s_sipush 28 dX12_checkOf_25 rfl (k := ?_)
        refine s_iand 29 ((chkF (I 21) (l.take j) + A 5 j) % 256) dX12_checkOf_28 rfl (and_255 _) ?_
        refine s_istore_n 30 dX12_checkOf_29 rfl (Nat.le_of_ble_eq_true rfl) rfl ?_
        refine s_goto 82 dX12_checkOf_30 rfl ?_
        refine s_iinc 85 dX12_checkOf_82 rfl rfl (Nat.le_of_ble_eq_true rfl) rfl ?_
        refine s_goto 4 dX12_checkOf_85 rfl ?_
        have e9 : chkF (I 21) (l.take (j + 1)) = (chkF (I 21) (l.take j) + A 5 j) % 256 := by rw [et, chkF_snoc, e5]; exact if_pos (by omega)
        rw [← e9]
        exact ih (j + 1) (by omega)
  exact key l.length 0 (by omega)
theorem c_frameIs {bs : List Int} {big : Bool} (hru : RuM I ru) (hwr : WfRu ru) (hbs : sg (A 6) 0 bs) (hby : byt bs) (h28 : I 28 = bs.length) (hN : bs.length ≤ 600) (hp : ∀ I' A', frI [26] I I' → frA [5] A A' → (big = false → (judge ru bs).1 = 0 ∨ (judge ru bs).1 = 4 → I' 26 = (judge ru bs).2.length ∧ sg (A' 5) 0 (judge ru bs).2) → post (some (vi (if big then 2 else (judge ru bs).1))) (I', A', D)) : Cm G (AM G m0 F n u) yX12_frameIs cX12_frameIs 3 (some .int) (d + 3) [.ref m0, vb big] (I, A, D) post := by
  obtain ⟨r0, r1, r2, r3, r4, r5⟩ := id hru
  obtain ⟨q0, q1, q2, q3, q4, q5⟩ := id hwr
  refine Cm_intro (L := [some (.ref m0), some (vb big), none]) (by decide +kernel) (Nat.le_of_ble_eq_true rfl) rfl ?_
  refine s_iload_nb 1 dX12_frameIs_0 rfl rfl ?_
  refine s_if_neb 4 16 dX12_frameIs_1 rfl rfl (fun h => ?_) (fun h => ?_)
  · subst h
    refine s_iconst 17 dX12_frameIs_16 rfl ?_
    refine s_ireturn rfl dX12_frameIs_17 ?_
    exact hp I A frI.rf frA.rf (fun g => by cases g)
  subst h
  have hu := unF_rg (L := (ru 1).toNat) (Z := (ru 2).toNat) (way := ru 0) (bs := bs)
  have hub := unF_byt (L := (ru 1).toNat) (Z := (ru 2).toNat) (way := ru 0) hby
  refine s_aload_n 5 dX12_frameIs_4 rfl rfl ?_
  refine s_aload_n 6 dX12_frameIs_5 rfl rfl ?_
  refine m_getI 9 18 dX12_frameIs_6 rfl fl_X12_192 (by decide) rfl (fun hr6 => ?_)
  refine s_V1i 12 dX12_frameIs_9 rfl km_X12_unstuffs ml_X12_257 ds_X12_unstuffs (Nat.le_of_ble_eq_true rfl) m_rec rfl (c_unstuffs (way := I 18) (Ln := (ru 1).toNat) (Zn := (ru 2).toNat) (by omega) hbs hby h28 hN (by omega) (by omega) (by omega) (by omega) (fun I1 A1 k1 k2 k3 => ?_))
  refine ⟨_, rfl, ?_⟩
  refine s_iconst 13 dX12_frameIs_12 rfl ?_
  rw [r0] at k3 ⊢
  refine s_icmp_eq 16 18 dX12_frameIs_13 rfl rfl (fun h => ?_) (fun h => ?_)
  rotate_left
  · refine s_iconst 17 dX12_frameIs_16 rfl ?_
    refine s_ireturn rfl dX12_frameIs_17 ?_
    have h9 := hp I1 A1 k1 k2
    rw [judge_2 h] at h9
    exact h9 (fun _ g => by rcases g with g | g <;> exact absurd g (by decide))
  obtain ⟨k3, k4⟩ := k3 h
  generalize hpl : (unF (ru 1).toNat (ru 2).toNat (ru 0) bs).2 = pl at k3 k4 hub
  have e21 : I1 21 = ru 3 := (k1 21 (by decide)).trans r3
  have hcl : ckl (ru 3) = 0 ∧ ru 3 = 0 ∨ ckl (ru 3) = 1 ∧ ru 3 ≠ 0 := by unfold ckl; split <;> omega
  refine s_aload_n 19 dX12_frameIs_18 rfl rfl ?_
  refine m_getI 22 26 dX12_frameIs_19 rfl fl_X12_217 (by decide) rfl (fun hr19 => ?_)
  refine s_aload_n 23 dX12_frameIs_22 rfl rfl ?_
  refine s_V0i 26 dX12_frameIs_23 rfl km_X12_checkLong ml_X12_268 ds_X12_checkLong (Nat.le_of_ble_eq_true rfl) m_rec rfl (c_checkLong ?_)
  refine ⟨_, rfl, ?_⟩
  refine s_isub 27 dX12_frameIs_26 rfl ?_
  refine s_istore_n 28 dX12_frameIs_27 rfl (Nat.le_of_ble_eq_true rfl) rfl ?_
  refine s_iload_n 29 dX12_frameIs_28 rfl rfl ?_
  refine s_iconst 30 dX12_frameIs_29 rfl ?_
  rw [e21]
  have bad : (pl.length < 1 + ckl (ru 3) ∨ (ru 3 ≠ 0 ∧ chkF (ru 3) (pl.take (pl.length - 1)) ≠ pl.getD (pl.length - 1) 0)) → V G (AM G m0 F n u) yX12_frameIs cX12_frameIs 3 (some .int) (d + 3) (I1, A1, D) 54 [some (.ref m0), some (vb false), some (vi (I1 26 - (ckl (ru 3) : Nat)))] [] post := by
    intro hb
    refine s_iconst 55 dX12_frameIs_54 rfl ?_
    refine s_ireturn rfl dX12_frameIs_55 ?_
    have h9 := hp I1 A1 k1 k2
    rw [judge_3 h hpl hb] at h9
    exact h9 (fun _ g => by rcases g with g | g <;> exact absurd g (by decide))
  refine s_icmp_lt 33 54 dX12_frameIs_30 rfl rfl (fun g1 => ?_) (fun g1 => ?_)
  · exact bad (by omega)
  have good : ¬ (pl.length < 1 + ckl (ru 3) ∨ (ru 3 ≠ 0 ∧ chkF (ru 3) (pl.take (pl.length - 1)) ≠ pl.getD (pl.length - 1) 0)) → V G (AM G m0 F n u) yX12_frameIs cX12_frameIs 3 (some .int) (d + 3) (I1, A1, D) 56 [some (.ref m0), some (vb false), some (vi (I1 26 - (ckl (ru 3) : Nat)))] [] post := by
    intro hg
    have h9 := hp I1 A1 k1 k2
    rw [judge_ok h hpl hg] at h9
    have h9 := h9 (fun _ _ => ⟨k3, k4⟩)
    have e0 : A1 5 0 = pl.getD 0 0 := sg_slice k4 (k := 0) (by omega)
    have hb0 := byt_at hub.1 0
    have e23 : I1 23 = ru 5 := (k1 23 (by decide)).trans r5
    have e22 : I1 22 = ru 4 := (k1 22 (by decide)).trans r4
    refine s_aload_n 57 dX12_frameIs_56 rfl rfl ?_
    refine m_getV (k := 25) 60 dX12_frameIs_57 rfl fl_X12_29 (by decide) rfl ?_
    refine s_iconst 61 dX12_frameIs_60 rfl ?_
    refine m_ald 62 5 1400 dX12_frameIs_61 rfl (by decide) rfl (fun hr61 => ?_)
    refine s_bipush 64 dX12_frameIs_62 rfl (k := ?_)
    refine s_idiv (q := 65) (hd := dX12_frameIs_64) (hq := rfl) (k := ?_)
    refine s_aload_n 66 dX12_frameIs_65 rfl rfl ?_
    refine m_getI 69 23 dX12_frameIs_66 rfl fl_X12_198 (by decide) rfl (fun hr66 => ?_)
    refine s_icmp_ge 72 82 dX12_frameIs_69 rfl rfl (fun g2 => ?_) (fun g2 => ?_)
    · refine s_iconst 83 dX12_frameIs_82 rfl ?_
      refine s_goto 87 dX12_frameIs_83 rfl ?_
      refine s_ireturn rfl dX12_frameIs_87 ?_
      rw [show (if ru 5 ≤ pl.getD 0 0 / 64 ∨ ru 4 < (pl.length : Int) - 1 - (ckl (ru 3) : Nat) then (4 : Int) else 0) = 4 from if_pos (by rw [e0] at g2; omega)] at h9
      exact h9
    refine s_iload_n 73 dX12_frameIs_72 rfl rfl ?_
    refine s_iconst 74 dX12_frameIs_73 rfl ?_
    refine s_isub 75 dX12_frameIs_74 rfl ?_
    refine s_aload_n 76 dX12_frameIs_75 rfl rfl ?_
    refine m_getI 79 22 dX12_frameIs_76 rfl fl_X12_196 (by decide) rfl (fun hr76 => ?_)
    refine s_icmp_le 82 86 dX12_frameIs_79 rfl rfl (fun g3 => ?_) (fun g3 => ?_)
    · refine s_iconst 87 dX12_frameIs_86 rfl ?_
      refine s_ireturn rfl dX12_frameIs_87 ?_
      rw [show (if ru 5 ≤ pl.getD 0 0 / 64 ∨ ru 4 < (pl.length : Int) - 1 - (ckl (ru 3) : Nat) then (4 : Int) else 0) = 0 from if_neg (by rw [e0] at g2; omega)] at h9
      exact h9
    · refine s_iconst 83 dX12_frameIs_82 rfl ?_
      refine s_goto 87 dX12_frameIs_83 rfl ?_
      refine s_ireturn rfl dX12_frameIs_87 ?_
      rw [show (if ru 5 ≤ pl.getD 0 0 / 64 ∨ ru 4 < (pl.length : Int) - 1 - (ckl (ru 3) : Nat) then (4 : Int) else 0) = 4 from if_pos (by omega)] at h9
      exact h9
  refine s_aload_n 34 dX12_frameIs_33 rfl rfl ?_
  refine m_getI 37 21 dX12_frameIs_34 rfl fl_X12_194 (by decide) rfl (fun hr34 => ?_)
  refine s_if_eq 40 56 dX12_frameIs_37 rfl rfl (fun g2 => ?_) (fun g2 => ?_)
  · exact good (by omega)
  have hn9 : I1 26 - (ckl (ru 3) : Nat) = ((pl.take (pl.length - 1)).length : Nat) := by rw [List.length_take_of_le (by omega)]; omega
  have e9 : A1 5 (I1 26 - (ckl (ru 3) : Nat)) = pl.getD (pl.length - 1) 0 := by
    rw [← sg_slice k4 (k := pl.length - 1) (by omega)]
    congr 1
    omega
  have hcr := chkF_rg (ck := I1 21) (byt_take hub.1 (pl.length - 1))
  refine s_aload_n 41 dX12_frameIs_40 rfl rfl ?_
  refine s_iload_n 42 dX12_frameIs_41 rfl rfl ?_
  rw [hn9]
  refine s_V1i 45 dX12_frameIs_42 rfl km_X12_checkOf ml_X12_271 ds_X12_checkOf (Nat.le_of_ble_eq_true rfl) m_rec rfl (c_checkOf (sg_take k4) (byt_take hub.1 _) (by rw [List.length_take_of_le (by omega)]; omega) (by omega) ?_)
  refine ⟨_, rfl, ?_⟩
  refine s_aload_n 46 dX12_frameIs_45 rfl rfl ?_
  refine m_getV (k := 25) 49 dX12_frameIs_46 rfl fl_X12_29 (by decide) rfl ?_
  refine s_iload_n 50 dX12_frameIs_49 rfl rfl ?_
  refine m_ald 51 5 1400 dX12_frameIs_50 rfl (by decide) rfl (fun hr50 => ?_)
  rw [← hn9, e9, e21]
  rw [e21] at hcr
  have hb9 := byt_at hub.1 (pl.length - 1)
  refine s_icmp_eq 54 56 dX12_frameIs_51 rfl rfl (fun g3 => ?_) (fun g3 => ?_)
  · exact good (by omega)
  · exact bad (by omega)
end M6
