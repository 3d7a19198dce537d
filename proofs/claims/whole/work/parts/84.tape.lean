/-! ===== Tape: its parts, words, numbers ===== -/
def TaS (T : Nat → Nat) (x : Nat) : Prop := T x = 10 ∧ T (x + 1) = 100 + 300 ∧ RuS T (x + 3)
def PPp (N : Nat → Nat → Int) (x : Nat) (tp : List Int) (q : Nat) : Prop := N x 3 = q ∧ N x 4 = pE tp q ∧ N x 2 = pK tp q ∧ q ≤ tp.length
section TAPE
variable {G : GT} {F : HS} {d : Nat} {T : Nat → Nat} {N : Nat → Nat → Int} {R : Nat → List Int} {P : Nat → Nat → Option Nat} {S : Nat → Int64} {cn un : Nat} {post : Option Value → PT → Prop} {x : Nat} {tp : List Int} {r : String × Nat × String}
theorem q_isLetter {z : Int} (hz : rg z) (hp : post (some (vb (sm_ z))) (T, N, R, P, S, cn, un)) : Cm G (AP G F) yX9_isLetter cX9_isLetter 1 (some .boolean) d [vi z] (T, N, R, P, S, cn, un) post := by
  refine Cm_intro (L := [some (vi z)]) (by decide +kernel) (Nat.le_of_ble_eq_true rfl) rfl ?_
  unfold sm_ at hp
  refine s_iload_n 1 dX9_isLetter_0 rfl rfl ?_
  refine s_bipush 3 dX9_isLetter_1 rfl (k := ?_)
  refine s_icmp_lt 6 16 dX9_isLetter_3 rfl rfl (fun g => ?_) (fun g => ?_)
  · refine s_iconst 17 dX9_isLetter_16 rfl ?_
    first | refine s_zreturn rfl dX9_isLetter_17 ?_ | refine s_zreturn1 rfl dX9_isLetter_17 ?_ | refine s_zreturn0 rfl dX9_isLetter_17 ?_
    rw [decide_eq_false (fun h => by omega)] at hp
    exact hp
  refine s_iload_n 7 dX9_isLetter_6 rfl rfl ?_
  refine s_bipush 9 dX9_isLetter_7 rfl (k := ?_)
  refine s_icmp_gt 12 16 dX9_isLetter_9 rfl rfl (fun g2 => ?_) (fun g2 => ?_)
  · refine s_iconst 17 dX9_isLetter_16 rfl ?_
    first | refine s_zreturn rfl dX9_isLetter_17 ?_ | refine s_zreturn1 rfl dX9_isLetter_17 ?_ | refine s_zreturn0 rfl dX9_isLetter_17 ?_
    rw [decide_eq_false (fun h => by omega)] at hp
    exact hp
  · refine s_iconst 13 dX9_isLetter_12 rfl ?_
    refine s_goto 17 dX9_isLetter_13 rfl ?_
    first | refine s_zreturn rfl dX9_isLetter_17 ?_ | refine s_zreturn1 rfl dX9_isLetter_17 ?_ | refine s_zreturn0 rfl dX9_isLetter_17 ?_
    rw [decide_eq_true ⟨by omega, by omega⟩] at hp
    exact hp
theorem q_isDigit {z : Int} (hz : rg z) (hp : post (some (vb (dg_ z))) (T, N, R, P, S, cn, un)) : Cm G (AP G F) yX9_isDigit cX9_isDigit 1 (some .boolean) d [vi z] (T, N, R, P, S, cn, un) post := by
  refine Cm_intro (L := [some (vi z)]) (by decide +kernel) (Nat.le_of_ble_eq_true rfl) rfl ?_
  unfold dg_ at hp
  refine s_iload_n 1 dX9_isDigit_0 rfl rfl ?_
  refine s_bipush 3 dX9_isDigit_1 rfl (k := ?_)
  refine s_icmp_lt 6 16 dX9_isDigit_3 rfl rfl (fun g => ?_) (fun g => ?_)
  · refine s_iconst 17 dX9_isDigit_16 rfl ?_
    first | refine s_zreturn rfl dX9_isDigit_17 ?_ | refine s_zreturn1 rfl dX9_isDigit_17 ?_ | refine s_zreturn0 rfl dX9_isDigit_17 ?_
    rw [decide_eq_false (fun h => by omega)] at hp
    exact hp
  refine s_iload_n 7 dX9_isDigit_6 rfl rfl ?_
  refine s_bipush 9 dX9_isDigit_7 rfl (k := ?_)
  refine s_icmp_gt 12 16 dX9_isDigit_9 rfl rfl (fun g2 => ?_) (fun g2 => ?_)
  · refine s_iconst 17 dX9_isDigit_16 rfl ?_
    first | refine s_zreturn rfl dX9_isDigit_17 ?_ | refine s_zreturn1 rfl dX9_isDigit_17 ?_ | refine s_zreturn0 rfl dX9_isDigit_17 ?_
    rw [decide_eq_false (fun h => by omega)] at hp
    exact hp
  · refine s_iconst 13 dX9_isDigit_12 rfl ?_
    refine s_goto 17 dX9_isDigit_13 rfl ?_
    first | refine s_zreturn rfl dX9_isDigit_17 ?_ | refine s_zreturn1 rfl dX9_isDigit_17 ?_ | refine s_zreturn0 rfl dX9_isDigit_17 ?_
    rw [decide_eq_true ⟨by omega, by omega⟩] at hp
    exact hp
theorem q_endOf {q : Nat} {lt : Bool} (hS : TaS T x) (hR : R (x + 1) = tp) (hl : tp.length ≤ 300) (hb : byt tp) (hq : N x 3 = q) (hql : q ≤ tp.length) (hp : post (some (vi ((q + rnF (if lt then sm_ else dg_) tp q : Nat) : Int))) (T, N, R, P, S, cn, un)) : Cm G (AP G F) yX9_endOf cX9_endOf 4 (some .int) (d + 2) [.ref x, vb lt] (T, N, R, P, S, cn, un) post := by
  obtain ⟨t0, t1, t2⟩ := hS
  refine Cm_intro (L := [some (.ref x), some (vb lt), none, none]) (by decide +kernel) (Nat.le_of_ble_eq_true rfl) rfl ?_
  refine s_aload_n 1 dX9_endOf_0 rfl rfl ?_
  refine g_X9_from 4 dX9_endOf_1 rfl fl_X9_51 (fun hr1 => ?_)
  rw [hq]
  refine s_istore_n 5 dX9_endOf_4 rfl (Nat.le_of_ble_eq_true rfl) rfl ?_
  have key : ∀ (m i : Nat), i + m = tp.length → q + rnF (if lt then sm_ else dg_) tp q = i + rnF (if lt then sm_ else dg_) tp i → V G (AP G F) yX9_endOf cX9_endOf 4 (some .int) (d + 2) (T, N, R, P, S, cn, un) 5 [some (.ref x), some (vb lt), some (vi i), none] [] post := by
    intro m
    induction m with
    | zero =>
      intro i hi he
      refine s_iload_n 6 dX9_endOf_5 rfl rfl ?_
      refine s_aload_n 7 dX9_endOf_6 rfl rfl ?_
      refine g_X9_bytes 10 dX9_endOf_7 rfl fl_X9_14 ?_
      refine g_X5_size 13 dX9_endOf_10 rfl fl_X9_64 ?_
      rw [hR]
      refine s_icmp_ge 16 54 dX9_endOf_13 rfl rfl (fun g => ?_) (fun g => ?_)
      rotate_left
      · omega
      refine s_aload_n 55 dX9_endOf_54 rfl rfl ?_
      refine g_X9_bytes 58 dX9_endOf_55 rfl fl_X9_14 ?_
      refine g_X5_size 61 dX9_endOf_58 rfl fl_X9_64 ?_
      rw [hR]
      refine s_ireturn rfl dX9_endOf_61 ?_
      rw [rnF_end (show tp.length ≤ i by omega), Nat.add_zero] at he
      rw [he, show i = tp.length by omega] at hp
      exact hp
    | succ m ih =>
      intro i hi he
      have hv := byt_at hb i
      refine s_iload_n 6 dX9_endOf_5 rfl rfl ?_
      refine s_aload_n 7 dX9_endOf_6 rfl rfl ?_
      refine g_X9_bytes 10 dX9_endOf_7 rfl fl_X9_14 ?_
      refine g_X5_size 13 dX9_endOf_10 rfl fl_X9_64 ?_
      rw [hR]
      refine s_icmp_ge 16 54 dX9_endOf_13 rfl rfl (fun g => ?_) (fun g => ?_)
      · omega
      refine s_aload_n 17 dX9_endOf_16 rfl rfl ?_
      refine g_X9_bytes 20 dX9_endOf_17 rfl fl_X9_14 ?_
      refine s_iload_n 21 dX9_endOf_20 rfl rfl ?_
      refine s_V1i 24 dX9_endOf_21 rfl km_X5_at ml_X9_60 ds_X5_at (Nat.le_of_ble_eq_true rfl) (q_recR (by assumption)) rfl (r_atK t1 hR (by constructor <;> omega) (fun hr => ?_))
      refine ⟨_, rfl, ?_⟩
      rw [atF_in (by omega)]
      refine s_istore_n 25 dX9_endOf_24 rfl (Nat.le_of_ble_eq_true rfl) rfl ?_
      refine s_iload_nb 26 dX9_endOf_25 rfl rfl ?_
      have stop : (if lt then sm_ else dg_) (tp.getD i 0) = false → V G (AP G F) yX9_endOf cX9_endOf 4 (some .int) (d + 2) (T, N, R, P, S, cn, un) 46 [some (.ref x), some (vb lt), some (vi i), some (vi (tp.getD i 0))] [] post := by
        intro h
        refine s_iload_n 47 dX9_endOf_46 rfl rfl ?_
        refine s_ireturn rfl dX9_endOf_47 ?_
        rw [rnF_no (by omega) h, Nat.add_zero] at he
        rw [he] at hp
        exact hp
      have go : (if lt then sm_ else dg_) (tp.getD i 0) = true → V G (AP G F) yX9_endOf cX9_endOf 4 (some .int) (d + 2) (T, N, R, P, S, cn, un) 48 [some (.ref x), some (vb lt), some (vi i), some (vi (tp.getD i 0))] [] post := by
        intro h
        refine s_iinc 51 dX9_endOf_48 rfl rfl (Nat.le_of_ble_eq_true rfl) rfl ?_
        refine s_goto 5 dX9_endOf_51 rfl ?_
        refine V_kill 3 (ih (i + 1) (by omega) ?_)
        rw [he, rnF_yes (by omega) h]
        omega
      refine s_if_eqb 29 39 dX9_endOf_26 rfl rfl (fun g1 => ?_) (fun g1 => ?_)
      · refine s_iload_n 40 dX9_endOf_39 rfl rfl ?_
        refine s_S1b 43 dX9_endOf_40 rfl km_X9_isDigit rfl ml_X9_74 ds_X9_isDigit (Nat.le_of_ble_eq_true rfl) (q_isDigit (by constructor <;> omega) ?_)
        refine ⟨_, rfl, ?_⟩
        refine s_if_neb 46 48 dX9_endOf_43 rfl rfl (fun g2 => ?_) (fun g2 => ?_)
        · exact go (by rw [g1]; exact g2)
        · exact stop (by rw [g1]; exact g2)
      · refine s_iload_n 30 dX9_endOf_29 rfl rfl ?_
        refine s_S1b 33 dX9_endOf_30 rfl km_X9_isLetter rfl ml_X9_67 ds_X9_isLetter (Nat.le_of_ble_eq_true rfl) (q_isLetter (by constructor <;> omega) ?_)
        refine ⟨_, rfl, ?_⟩
        refine s_if_eqb 36 46 dX9_endOf_33 rfl rfl (fun g2 => ?_) (fun g2 => ?_)
        · exact stop (by rw [g1]; exact g2)
        · refine s_goto 48 dX9_endOf_36 rfl ?_
          exact go (by rw [g1]; exact g2)
  exact key (tp.length - q) q (by omega) rfl
theorem q_nextPart {p : Nat} (hS : TaS T x) (hR : R (x + 1) = tp) (hl : tp.length ≤ 300) (hb : byt tp) (hp4 : N x 4 = p) (hpl : p ≤ tp.length) (hp : ∀ N', frO x (x + 1) N N' → N' x 5 = N x 5 → PPp N' x tp (pB tp p) → post none (T, N', R, P, S, cn, un)) : Cm G (AP G F) yX9_nextPart cX9_nextPart 2 none (d + 3) [.ref x] (T, N, R, P, S, cn, un) post := by
  obtain ⟨t0, t1, t2⟩ := id hS
  have hB := pB_le hpl
  have hE := pE_le hB.2
  refine Cm_intro (L := [some (.ref x), none]) (by decide +kernel) (Nat.le_of_ble_eq_true rfl) rfl ?_
  refine s_aload_n 1 dX9_nextPart_0 rfl rfl ?_
  refine s_aload_n 2 dX9_nextPart_1 rfl rfl ?_
  refine g_X9_to 5 dX9_nextPart_2 rfl fl_X9_34 (fun hr2 => ?_)
  rw [hp4]
  refine p_X9_from 8 dX9_nextPart_5 rfl fl_X9_51 ?_
  refine s_aload_n 9 dX9_nextPart_8 rfl rfl ?_
  refine g_X9_to 12 dX9_nextPart_9 rfl fl_X9_34 (fun hr9 => ?_)
  rw [up_s, up_n (show (4 : Nat) ≠ 3 by decide), hp4]
  refine s_istore_n 13 dX9_nextPart_12 rfl (Nat.le_of_ble_eq_true rfl) rfl ?_
  -- the part is found
  have part : ∀ (N2 : Nat → Nat → Int) (a1 : Option Value), frO x (x + 1) N N2 → N2 x 5 = N x 5 → N2 x 3 = pB tp p → V G (AP G F) yX9_nextPart cX9_nextPart 2 none (d + 3) (T, N2, R, P, S, cn, un) 50 [some (.ref x), a1] [] post := by
    intro N2 a1 f1 f2 f3
    generalize hq : pB tp p = q at *
    refine s_aload_n 51 dX9_nextPart_50 rfl rfl ?_
    refine g_X9_bytes 54 dX9_nextPart_51 rfl fl_X9_14 ?_
    refine s_aload_n 55 dX9_nextPart_54 rfl rfl ?_
    refine g_X9_from 58 dX9_nextPart_55 rfl fl_X9_51 (fun hr55 => ?_)
    rw [f3]
    refine s_V1i 61 dX9_nextPart_58 rfl km_X5_at ml_X9_60 ds_X5_at (Nat.le_of_ble_eq_true rfl) (q_recR (by assumption)) rfl (r_atK t1 hR (by constructor <;> omega) (fun hr => ?_))
    refine ⟨_, rfl, ?_⟩
    refine s_istore_n 62 dX9_nextPart_61 rfl (Nat.le_of_ble_eq_true rfl) rfl ?_
    refine s_iload_n 63 dX9_nextPart_62 rfl rfl ?_
    refine s_iconst 64 dX9_nextPart_63 rfl ?_
    by_cases e : q < tp.length
    rotate_left
    · rw [atF_out (Or.inr (by omega))]
      refine s_icmp_ne 67 83 dX9_nextPart_64 rfl rfl (fun g => ?_) (fun g => ?_)
      · omega
      refine s_aload_n 68 dX9_nextPart_67 rfl rfl ?_
      refine s_iconst 69 dX9_nextPart_68 rfl ?_
      refine p_X9_kind 72 dX9_nextPart_69 rfl fl_X9_40 ?_
      refine s_aload_n 73 dX9_nextPart_72 rfl rfl ?_
      refine s_aload_n 74 dX9_nextPart_73 rfl rfl ?_
      refine g_X9_from 77 dX9_nextPart_74 rfl fl_X9_51 (fun hr74 => ?_)
      rw [up_s, up_n (show (3 : Nat) ≠ 2 by decide), f3]
      refine p_X9_to 80 dX9_nextPart_77 rfl fl_X9_34 ?_
      refine s_goto 146 dX9_nextPart_80 rfl ?_
      rw [up_in]
      refine s_return rfl dX9_nextPart_146 ?_
      have k0 := pK_0 (show tp.length ≤ q by omega)
      refine hp _ (f1.up (by omega)) ?_ ⟨?_, ?_, ?_, hB.2⟩
      · rw [up_s]; exact f2
      · rw [up_s]; exact f3
      · rw [up_s, up_s, pE_0 k0]
      · rw [up_s, up_n (by decide), up_s, k0]
    have hv := byt_at hb q
    rw [atF_in e]
    refine s_icmp_ne 67 83 dX9_nextPart_64 rfl rfl (fun g => ?_) (fun g => ?_)
    rotate_left
    · omega
    refine s_iload_n 84 dX9_nextPart_83 rfl rfl ?_
    refine s_S1b 87 dX9_nextPart_84 rfl km_X9_isLetter rfl ml_X9_67 ds_X9_isLetter (Nat.le_of_ble_eq_true rfl) (q_isLetter (by constructor <;> omega) ?_)
    refine ⟨_, rfl, ?_⟩
    refine s_if_eqb 90 107 dX9_nextPart_87 rfl rfl (fun g1 => ?_) (fun g1 => ?_)
    rotate_left
    · have k1 := pK_1 e g1
      refine s_aload_n 91 dX9_nextPart_90 rfl rfl ?_
      refine s_iconst 92 dX9_nextPart_91 rfl ?_
      refine p_X9_kind 95 dX9_nextPart_92 rfl fl_X9_40 ?_
      refine s_aload_n 96 dX9_nextPart_95 rfl rfl ?_
      refine s_aload_n 97 dX9_nextPart_96 rfl rfl ?_
      refine s_iconst 98 dX9_nextPart_97 rfl ?_
      refine s_V1i 101 dX9_nextPart_98 rfl km_X9_endOf ml_X9_70 ds_X9_endOf (Nat.le_of_ble_eq_true rfl) (q_rec (by assumption)) rfl (q_endOf (lt := true) hS hR hl hb (by rw [up_s, up_n (by decide)]; exact f3) hB.2 ?_)
      refine ⟨_, rfl, ?_⟩
      rw [show (if true = true then sm_ else dg_) = sm_ from rfl]
      have hE2 := pE_1 k1
      refine p_X9_to 104 dX9_nextPart_101 rfl fl_X9_34 ?_
      refine s_goto 146 dX9_nextPart_104 rfl ?_
      rw [up_in]
      refine s_return rfl dX9_nextPart_146 ?_
      refine hp _ (f1.up (by omega)) ?_ ⟨?_, ?_, ?_, hB.2⟩
      · rw [up_s]; exact f2
      · rw [up_s]; exact f3
      · rw [up_s, up_s, hE2]
      · rw [up_s, up_n (by decide), up_s, k1]
    refine s_iload_n 108 dX9_nextPart_107 rfl rfl ?_
    refine s_S1b 111 dX9_nextPart_108 rfl km_X9_isDigit rfl ml_X9_74 ds_X9_isDigit (Nat.le_of_ble_eq_true rfl) (q_isDigit (by constructor <;> omega) ?_)
    refine ⟨_, rfl, ?_⟩
    refine s_if_eqb 114 131 dX9_nextPart_111 rfl rfl (fun g2 => ?_) (fun g2 => ?_)
    rotate_left
    · have k2 := pK_2 e g1 g2
      refine s_aload_n 115 dX9_nextPart_114 rfl rfl ?_
      refine s_iconst 116 dX9_nextPart_115 rfl ?_
      refine p_X9_kind 119 dX9_nextPart_116 rfl fl_X9_40 ?_
      refine s_aload_n 120 dX9_nextPart_119 rfl rfl ?_
      refine s_aload_n 121 dX9_nextPart_120 rfl rfl ?_
      refine s_iconst 122 dX9_nextPart_121 rfl ?_
      refine s_V1i 125 dX9_nextPart_122 rfl km_X9_endOf ml_X9_70 ds_X9_endOf (Nat.le_of_ble_eq_true rfl) (q_rec (by assumption)) rfl (q_endOf (lt := false) hS hR hl hb (by rw [up_s, up_n (by decide)]; exact f3) hB.2 ?_)
      refine ⟨_, rfl, ?_⟩
      rw [show (if false = true then sm_ else dg_) = dg_ from rfl]
      have hE2 := pE_2 k2
      refine p_X9_to 128 dX9_nextPart_125 rfl fl_X9_34 ?_
      refine s_goto 146 dX9_nextPart_128 rfl ?_
      rw [up_in]
      refine s_return rfl dX9_nextPart_146 ?_
      refine hp _ (f1.up (by omega)) ?_ ⟨?_, ?_, ?_, hB.2⟩
      · rw [up_s]; exact f2
      · rw [up_s]; exact f3
      · rw [up_s, up_s, hE2]
      · rw [up_s, up_n (by decide), up_s, k2]
    have k3 := pK_3 e g1 g2
    refine s_aload_n 132 dX9_nextPart_131 rfl rfl ?_
    refine s_iconst 133 dX9_nextPart_132 rfl ?_
    refine p_X9_kind 136 dX9_nextPart_133 rfl fl_X9_40 ?_
    refine s_aload_n 137 dX9_nextPart_136 rfl rfl ?_
    refine s_aload_n 138 dX9_nextPart_137 rfl rfl ?_
    refine g_X9_from 141 dX9_nextPart_138 rfl fl_X9_51 (fun hr138 => ?_)
    rw [up_s, up_n (show (3 : Nat) ≠ 2 by decide), f3]
    refine s_iconst 142 dX9_nextPart_141 rfl ?_
    refine s_iadd 143 dX9_nextPart_142 rfl ?_
    refine p_X9_to 146 dX9_nextPart_143 rfl fl_X9_34 ?_
    rw [up_in]
    refine s_return rfl dX9_nextPart_146 ?_
    have hE2 := pE_3 k3
    refine hp _ (f1.up (by omega)) ?_ ⟨?_, ?_, ?_, hB.2⟩
    · rw [up_s]; exact f2
    · rw [up_s]; exact f3
    · rw [up_s, up_s, hE2]; omega
    · rw [up_s, up_n (by decide), up_s, k3]
  have key : ∀ (m i : Nat) (N2 : Nat → Nat → Int), i + m = tp.length → frO x (x + 1) N N2 → N2 x 5 = N x 5 → N2 x 3 = i → pB tp p = i + rnF sp_ tp i → V G (AP G F) yX9_nextPart cX9_nextPart 2 none (d + 3) (T, N2, R, P, S, cn, un) 13 [some (.ref x), some (vi i)] [] post := by
    intro m
    induction m with
    | zero =>
      intro i N2 hi f1 f2 f3 f4
      refine s_iload_n 14 dX9_nextPart_13 rfl rfl ?_
      refine s_aload_n 15 dX9_nextPart_14 rfl rfl ?_
      refine g_X9_bytes 18 dX9_nextPart_15 rfl fl_X9_14 ?_
      refine g_X5_size 21 dX9_nextPart_18 rfl fl_X9_64 ?_
      rw [hR]
      refine s_icmp_ge 24 50 dX9_nextPart_21 rfl rfl (fun g => ?_) (fun g => ?_)
      rotate_left
      · omega
      rw [rnF_end (show tp.length ≤ i by omega), Nat.add_zero] at f4
      exact part N2 _ f1 f2 (by rw [f4]; exact f3)
    | succ m ih =>
      intro i N2 hi f1 f2 f3 f4
      have hv := byt_at hb i
      refine s_iload_n 14 dX9_nextPart_13 rfl rfl ?_
      refine s_aload_n 15 dX9_nextPart_14 rfl rfl ?_
      refine g_X9_bytes 18 dX9_nextPart_15 rfl fl_X9_14 ?_
      refine g_X5_size 21 dX9_nextPart_18 rfl fl_X9_64 ?_
      rw [hR]
      refine s_icmp_ge 24 50 dX9_nextPart_21 rfl rfl (fun g => ?_) (fun g => ?_)
      · omega
      refine s_aload_n 25 dX9_nextPart_24 rfl rfl ?_
      refine g_X9_bytes 28 dX9_nextPart_25 rfl fl_X9_14 ?_
      refine s_iload_n 29 dX9_nextPart_28 rfl rfl ?_
      refine s_V1i 32 dX9_nextPart_29 rfl km_X5_at ml_X9_60 ds_X5_at (Nat.le_of_ble_eq_true rfl) (q_recR (by assumption)) rfl (r_atK t1 hR (by constructor <;> omega) (fun hr => ?_))
      refine ⟨_, rfl, ?_⟩
      rw [atF_in (by omega)]
      refine s_bipush 34 dX9_nextPart_32 rfl (k := ?_)
      refine s_icmp_ne 37 50 dX9_nextPart_34 rfl rfl (fun g1 => ?_) (fun g1 => ?_)
      · rw [rnF_no (by omega) (show sp_ (tp.getD i 0) = false from decide_eq_false g1), Nat.add_zero] at f4
        exact part N2 _ f1 f2 (by rw [f4]; exact f3)
      · refine s_aload_n 38 dX9_nextPart_37 rfl rfl ?_
        refine s_iload_n 39 dX9_nextPart_38 rfl rfl ?_
        refine s_iconst 40 dX9_nextPart_39 rfl ?_
        refine s_iadd 41 dX9_nextPart_40 rfl ?_
        refine p_X9_from 44 dX9_nextPart_41 rfl fl_X9_51 ?_
        refine s_iinc 47 dX9_nextPart_44 rfl rfl (Nat.le_of_ble_eq_true rfl) rfl ?_
        refine s_goto 13 dX9_nextPart_47 rfl ?_
        refine ih (i + 1) _ (by omega) (f1.up (by omega)) (by rw [up_s]; exact f2) (by rw [up_s, up_s]; omega) ?_
        rw [f4, rnF_yes (by omega) (show sp_ (tp.getD i 0) = true from decide_eq_true g1)]
        omega
  exact key (tp.length - p) p _ (by omega) (frO.rf.up (by omega)) (by rw [up_s]; rfl) (by rw [up_s, up_s]) rfl
theorem q_isWord {q j : Nat} (hj : gSt[j]? = some r) (hS : TaS T x) (hR : R (x + 1) = tp) (hl : tp.length ≤ 300) (hb : byt tp) (hP : PPp N x tp q) (hp : post (some (vb (decide (isW tp q (txt r.2.2))))) (T, N, R, P, S, cn, un)) : Cm G (AP G F) yX9_isWord cX9_isWord 3 (some .boolean) (d + 4) [.ref x, .ref (gAK G j)] (T, N, R, P, S, cn, un) post := by
  obtain ⟨t0, t1, t2⟩ := hS
  obtain ⟨h3, h4, h2, hq⟩ := hP
  obtain ⟨g1, g2⟩ := gSt_ok j r hj
  have hE := pE_le hq
  have htl := txt_len r.2.2
  have hkc := pK_cases tp q
  refine Cm_intro (L := [some (.ref x), some (.ref (gAK G j)), none]) (by decide +kernel) (Nat.le_of_ble_eq_true rfl) rfl ?_
  refine s_aload_n 1 dX9_isWord_0 rfl rfl ?_
  refine g_X9_kind 4 dX9_isWord_1 rfl fl_X9_40 (fun hr1 => ?_)
  rw [h2]
  refine s_iconst 5 dX9_isWord_4 rfl ?_
  refine s_icmp_ne 8 24 dX9_isWord_5 rfl rfl (fun g5 => ?_) (fun g5 => ?_)
  · refine s_iconst 25 dX9_isWord_24 rfl ?_
    first | refine s_zreturn rfl dX9_isWord_25 ?_ | refine s_zreturn1 rfl dX9_isWord_25 ?_ | refine s_zreturn0 rfl dX9_isWord_25 ?_
    rw [decide_eq_false (fun h => g5 h.1)] at hp
    exact hp
  refine s_aload_n 9 dX9_isWord_8 rfl rfl ?_
  refine g_X9_to 12 dX9_isWord_9 rfl fl_X9_34 (fun hr9 => ?_)
  refine s_aload_n 13 dX9_isWord_12 rfl rfl ?_
  refine g_X9_from 16 dX9_isWord_13 rfl fl_X9_51 (fun hr13 => ?_)
  rw [h4, h3]
  refine s_isub 17 dX9_isWord_16 rfl ?_
  refine s_aload_n 18 dX9_isWord_17 rfl rfl ?_
  refine s_callVS (K := fun v a' => v = some (vi r.2.2.length) ∧ a' = (T, N, R, P, S, cn, un)) [] 21 j dX9_isWord_18 rfl hj rfl km_J0_length_8abf5 ml_X9_92 (by decide +kernel) (Nat.le_of_ble_eq_true rfl) (c_slength hj g1 ⟨rfl, rfl⟩) ?_
  rintro v a' ⟨rfl, rfl⟩
  refine s_icmp_eq 24 26 dX9_isWord_21 rfl rfl (fun g21 => ?_) (fun g21 => ?_)
  rotate_left
  · refine s_iconst 25 dX9_isWord_24 rfl ?_
    first | refine s_zreturn rfl dX9_isWord_25 ?_ | refine s_zreturn1 rfl dX9_isWord_25 ?_ | refine s_zreturn0 rfl dX9_isWord_25 ?_
    rw [decide_eq_false (fun h => g21 (by have := pT_len hq; rw [h.2, htl] at this; omega))] at hp
    exact hp
  refine s_iconst 27 dX9_isWord_26 rfl ?_
  refine s_istore_n 28 dX9_isWord_27 rfl (Nat.le_of_ble_eq_true rfl) rfl ?_
  have key : ∀ (m k : Nat), k + m = r.2.2.length → (∀ i, i < k → tp.getD (q + i) 0 = (txt r.2.2).getD i 0) → V G (AP G F) yX9_isWord cX9_isWord 3 (some .boolean) (d + 4) (T, N, R, P, S, cn, un) 28 [some (.ref x), some (.ref (gAK G j)), some (vi k)] [] post := by
    intro m
    induction m with
    | zero =>
      intro k hk he
      refine s_iload_n 29 dX9_isWord_28 rfl rfl ?_
      refine s_aload_n 30 dX9_isWord_29 rfl rfl ?_
      refine s_callVS (K := fun v a' => v = some (vi r.2.2.length) ∧ a' = (T, N, R, P, S, cn, un)) [] 33 j dX9_isWord_30 rfl hj rfl km_J0_length_8abf5 ml_X9_92 (by decide +kernel) (Nat.le_of_ble_eq_true rfl) (c_slength hj g1 ⟨rfl, rfl⟩) ?_
      rintro v a' ⟨rfl, rfl⟩
      refine s_icmp_ge 36 65 dX9_isWord_33 rfl rfl (fun g33 => ?_) (fun g33 => ?_)
      rotate_left
      · omega
      refine s_iconst 66 dX9_isWord_65 rfl ?_
      first | refine s_zreturn rfl dX9_isWord_66 ?_ | refine s_zreturn1 rfl dX9_isWord_66 ?_ | refine s_zreturn0 rfl dX9_isWord_66 ?_
      rw [decide_eq_true ⟨by omega, pT_eq hq (by omega) (fun i hi => he i (by omega))⟩] at hp
      exact hp
    | succ m ih =>
      intro k hk he
      have hc := g2 k (by omega)
      have hby := byt_at hb (q + k)
      refine s_iload_n 29 dX9_isWord_28 rfl rfl ?_
      refine s_aload_n 30 dX9_isWord_29 rfl rfl ?_
      refine s_callVS (K := fun v a' => v = some (vi r.2.2.length) ∧ a' = (T, N, R, P, S, cn, un)) [] 33 j dX9_isWord_30 rfl hj rfl km_J0_length_8abf5 ml_X9_92 (by decide +kernel) (Nat.le_of_ble_eq_true rfl) (c_slength hj g1 ⟨rfl, rfl⟩) ?_
      rintro v a' ⟨rfl, rfl⟩
      refine s_icmp_ge 36 65 dX9_isWord_33 rfl rfl (fun g33 => ?_) (fun g33 => ?_)
      · omega
      refine s_aload_n 37 dX9_isWord_36 rfl rfl ?_
      refine g_X9_bytes 40 dX9_isWord_37 rfl fl_X9_14 ?_
      refine s_aload_n 41 dX9_isWord_40 rfl rfl ?_
      refine g_X9_from 44 dX9_isWord_41 rfl fl_X9_51 (fun hr41 => ?_)
      rw [h3]
      refine s_iload_n 45 dX9_isWord_44 rfl rfl ?_
      refine s_iadd 46 dX9_isWord_45 rfl ?_
      refine s_V1i 49 dX9_isWord_46 rfl km_X5_at ml_X9_60 ds_X5_at (Nat.le_of_ble_eq_true rfl) (q_recR (by assumption)) rfl (r_atK t1 hR (by constructor <;> omega) (fun hr => ?_))
      refine ⟨_, rfl, ?_⟩
      rw [show (q : Int) + (k : Int) = ((q + k : Nat) : Int) by omega, atF_in (by omega)]
      refine s_aload_n 50 dX9_isWord_49 rfl rfl ?_
      refine s_iload_n 51 dX9_isWord_50 rfl rfl ?_
      refine s_callVS (K := fun v a' => v = some (vi ((txt r.2.2).getD k 0)) ∧ a' = (T, N, R, P, S, cn, un)) [vi k] 54 j dX9_isWord_51 rfl hj rfl km_J0_charAt_5068e ml_X9_97 ds_J0_charAt_5068e (Nat.le_of_ble_eq_true rfl) (c_scharAt hj g1 (by omega) hc ⟨rfl, rfl⟩) ?_
      rintro v a' ⟨rfl, rfl⟩
      refine s_icmp_eq 57 59 dX9_isWord_54 rfl rfl (fun g54 => ?_) (fun g54 => ?_)
      rotate_left
      · refine s_iconst 58 dX9_isWord_57 rfl ?_
        first | refine s_zreturn rfl dX9_isWord_58 ?_ | refine s_zreturn1 rfl dX9_isWord_58 ?_ | refine s_zreturn0 rfl dX9_isWord_58 ?_
        rw [decide_eq_false (fun h => g54 ?_)] at hp
        · exact hp
        · rw [← h.2, pT_at hq (by omega)]
      refine s_iinc 62 dX9_isWord_59 rfl rfl (Nat.le_of_ble_eq_true rfl) rfl ?_
      refine s_goto 28 dX9_isWord_62 rfl ?_
      refine ih (k + 1) (by omega) (fun i hi => ?_)
      by_cases e : i = k
      · subst e; exact g54
      · exact he i (by omega)
  exact key r.2.2.length 0 (by omega) (fun i hi => by omega)
theorem q_choice {q j1 j2 j3 : Nat} {r1 r2 r3 : String × Nat × String} {w1 w2 w3 : List Int} (u1 : txt r1.2.2 = w1) (u2 : txt r2.2.2 = w2) (u3 : txt r3.2.2 = w3) (hj1 : gSt[j1]? = some r1) (hj2 : gSt[j2]? = some r2) (hj3 : gSt[j3]? = some r3) (hS : TaS T x) (hR : R (x + 1) = tp) (hl : tp.length ≤ 300) (hb : byt tp) (hP : PPp N x tp q) (hp : post (some (vi (oneF tp q w1 w2 w3))) (T, N, R, P, S, cn, un)) : Cm G (AP G F) yX9_choice cX9_choice 4 (some .int) (d + 5) [.ref x, .ref (gAK G j1), .ref (gAK G j2), .ref (gAK G j3)] (T, N, R, P, S, cn, un) post := by
  subst u1 u2 u3
  have t0 := hS.1
  refine Cm_intro (L := [some (.ref x), some (.ref (gAK G j1)), some (.ref (gAK G j2)), some (.ref (gAK G j3))]) (by decide +kernel) (Nat.le_of_ble_eq_true rfl) rfl ?_
  unfold oneF at hp
  refine s_aload_n 1 dX9_choice_0 rfl rfl ?_
  refine s_aload_n 2 dX9_choice_1 rfl rfl ?_
  refine s_V1b 5 dX9_choice_2 rfl km_X9_isWord ml_X9_79 ds_X9_isWord (Nat.le_of_ble_eq_true rfl) (q_rec (by assumption)) rfl (q_isWord hj1 hS hR hl hb hP ?_)
  refine ⟨_, rfl, ?_⟩
  refine s_if_eqb 8 10 dX9_choice_5 rfl rfl (fun g1 => ?_) (fun g1 => ?_)
  rotate_left
  · refine s_iconst 9 dX9_choice_8 rfl ?_
    refine s_ireturn rfl dX9_choice_9 ?_
    rw [if_pos (of_decide_eq_true g1)] at hp
    exact hp
  rw [if_neg (of_decide_eq_false g1)] at hp
  refine s_aload_n 11 dX9_choice_10 rfl rfl ?_
  refine s_aload_n 12 dX9_choice_11 rfl rfl ?_
  refine s_V1b 15 dX9_choice_12 rfl km_X9_isWord ml_X9_79 ds_X9_isWord (Nat.le_of_ble_eq_true rfl) (q_rec (by assumption)) rfl (q_isWord hj2 hS hR hl hb hP ?_)
  refine ⟨_, rfl, ?_⟩
  refine s_if_eqb 18 20 dX9_choice_15 rfl rfl (fun g2 => ?_) (fun g2 => ?_)
  rotate_left
  · refine s_iconst 19 dX9_choice_18 rfl ?_
    refine s_ireturn rfl dX9_choice_19 ?_
    rw [if_pos (of_decide_eq_true g2)] at hp
    exact hp
  rw [if_neg (of_decide_eq_false g2)] at hp
  refine s_aload_n 21 dX9_choice_20 rfl rfl ?_
  refine s_aload_n 22 dX9_choice_21 rfl rfl ?_
  refine s_V1b 25 dX9_choice_22 rfl km_X9_isWord ml_X9_79 ds_X9_isWord (Nat.le_of_ble_eq_true rfl) (q_rec (by assumption)) rfl (q_isWord hj3 hS hR hl hb hP ?_)
  refine ⟨_, rfl, ?_⟩
  refine s_if_eqb 28 32 dX9_choice_25 rfl rfl (fun g3 => ?_) (fun g3 => ?_)
  · refine s_iconst 33 dX9_choice_32 rfl ?_
    refine s_ireturn rfl dX9_choice_33 ?_
    rw [if_neg (of_decide_eq_false g3)] at hp
    exact hp
  · refine s_iconst 29 dX9_choice_28 rfl ?_
    refine s_goto 33 dX9_choice_29 rfl ?_
    refine s_ireturn rfl dX9_choice_33 ?_
    rw [if_pos (of_decide_eq_true g3)] at hp
    exact hp
theorem q_sortOfWord {q : Nat} (hS : TaS T x) (hR : R (x + 1) = tp) (hl : tp.length ≤ 300) (hb : byt tp) (hP : PPp N x tp q) (hp : post (some (vi (srt tp q))) (T, N, R, P, S, cn, un)) : Cm G (AP G F) yX9_sortOfWord cX9_sortOfWord 1 (some .int) (d + 5) [.ref x] (T, N, R, P, S, cn, un) post := by
  have t0 := hS.1
  have e1 : txt "way" = wWay := by decide +kernel
  have e2 : txt "longest" = wLongest := by decide +kernel
  have e3 : txt "pairs" = wPairs := by decide +kernel
  have e4 : txt "check" = wCheck := by decide +kernel
  have e5 : txt "size" = wSize := by decide +kernel
  have e6 : txt "channel" = wChannel := by decide +kernel
  refine Cm_intro (L := [some (.ref x)]) (by decide +kernel) (Nat.le_of_ble_eq_true rfl) rfl ?_
  unfold srt at hp
  rw [← e1, ← e2, ← e3, ← e4, ← e5, ← e6] at hp
  refine s_aload_n 1 dX9_sortOfWord_0 rfl rfl ?_
  refine s_ldcS 3 0 dX9_sortOfWord_1 rfl rfl rfl rfl ?_
  refine s_V1b 6 dX9_sortOfWord_3 rfl km_X9_isWord ml_X9_79 ds_X9_isWord (Nat.le_of_ble_eq_true rfl) (q_rec (by assumption)) rfl (q_isWord (r := (RX9, 77, "way")) rfl hS hR hl hb hP ?_)
  refine ⟨_, rfl, ?_⟩
  refine s_if_eqb 9 11 dX9_sortOfWord_6 rfl rfl (fun g1 => ?_) (fun g1 => ?_)
  rotate_left
  · refine s_iconst 10 dX9_sortOfWord_9 rfl ?_
    refine s_ireturn rfl dX9_sortOfWord_10 ?_
    rw [if_pos (of_decide_eq_true g1)] at hp
    exact hp
  rw [if_neg (of_decide_eq_false g1)] at hp
  refine s_aload_n 12 dX9_sortOfWord_11 rfl rfl ?_
  refine s_ldcS 14 1 dX9_sortOfWord_12 rfl rfl rfl rfl ?_
  refine s_V1b 17 dX9_sortOfWord_14 rfl km_X9_isWord ml_X9_79 ds_X9_isWord (Nat.le_of_ble_eq_true rfl) (q_rec (by assumption)) rfl (q_isWord (r := (RX9, 83, "longest")) rfl hS hR hl hb hP ?_)
  refine ⟨_, rfl, ?_⟩
  refine s_if_eqb 20 22 dX9_sortOfWord_17 rfl rfl (fun g2 => ?_) (fun g2 => ?_)
  rotate_left
  · refine s_iconst 21 dX9_sortOfWord_20 rfl ?_
    refine s_ireturn rfl dX9_sortOfWord_21 ?_
    rw [if_pos (of_decide_eq_true g2)] at hp
    exact hp
  rw [if_neg (of_decide_eq_false g2)] at hp
  refine s_aload_n 23 dX9_sortOfWord_22 rfl rfl ?_
  refine s_ldcS 25 2 dX9_sortOfWord_23 rfl rfl rfl rfl ?_
  refine s_V1b 28 dX9_sortOfWord_25 rfl km_X9_isWord ml_X9_79 ds_X9_isWord (Nat.le_of_ble_eq_true rfl) (q_rec (by assumption)) rfl (q_isWord (r := (RX9, 85, "pairs")) rfl hS hR hl hb hP ?_)
  refine ⟨_, rfl, ?_⟩
  refine s_if_eqb 31 33 dX9_sortOfWord_28 rfl rfl (fun g3 => ?_) (fun g3 => ?_)
  rotate_left
  · refine s_iconst 32 dX9_sortOfWord_31 rfl ?_
    refine s_ireturn rfl dX9_sortOfWord_32 ?_
    rw [if_pos (of_decide_eq_true g3)] at hp
    exact hp
  rw [if_neg (of_decide_eq_false g3)] at hp
  refine s_aload_n 34 dX9_sortOfWord_33 rfl rfl ?_
  refine s_ldcS 36 3 dX9_sortOfWord_34 rfl rfl rfl rfl ?_
  refine s_V1b 39 dX9_sortOfWord_36 rfl km_X9_isWord ml_X9_79 ds_X9_isWord (Nat.le_of_ble_eq_true rfl) (q_rec (by assumption)) rfl (q_isWord (r := (RX9, 87, "check")) rfl hS hR hl hb hP ?_)
  refine ⟨_, rfl, ?_⟩
  refine s_if_eqb 42 44 dX9_sortOfWord_39 rfl rfl (fun g4 => ?_) (fun g4 => ?_)
  rotate_left
  · refine s_iconst 43 dX9_sortOfWord_42 rfl ?_
    refine s_ireturn rfl dX9_sortOfWord_43 ?_
    rw [if_pos (of_decide_eq_true g4)] at hp
    exact hp
  rw [if_neg (of_decide_eq_false g4)] at hp
  refine s_aload_n 45 dX9_sortOfWord_44 rfl rfl ?_
  refine s_ldcS 47 4 dX9_sortOfWord_45 rfl rfl rfl rfl ?_
  refine s_V1b 50 dX9_sortOfWord_47 rfl km_X9_isWord ml_X9_79 ds_X9_isWord (Nat.le_of_ble_eq_true rfl) (q_rec (by assumption)) rfl (q_isWord (r := (RX9, 89, "size")) rfl hS hR hl hb hP ?_)
  refine ⟨_, rfl, ?_⟩
  refine s_if_eqb 53 55 dX9_sortOfWord_50 rfl rfl (fun g5 => ?_) (fun g5 => ?_)
  rotate_left
  · refine s_iconst 54 dX9_sortOfWord_53 rfl ?_
    refine s_ireturn rfl dX9_sortOfWord_54 ?_
    rw [if_pos (of_decide_eq_true g5)] at hp
    exact hp
  rw [if_neg (of_decide_eq_false g5)] at hp
  refine s_aload_n 56 dX9_sortOfWord_55 rfl rfl ?_
  refine s_ldcS 58 5 dX9_sortOfWord_56 rfl rfl rfl rfl ?_
  refine s_V1b 61 dX9_sortOfWord_58 rfl km_X9_isWord ml_X9_79 ds_X9_isWord (Nat.le_of_ble_eq_true rfl) (q_rec (by assumption)) rfl (q_isWord (r := (RX9, 90, "channel")) rfl hS hR hl hb hP ?_)
  refine ⟨_, rfl, ?_⟩
  refine s_if_eqb 64 68 dX9_sortOfWord_61 rfl rfl (fun g6 => ?_) (fun g6 => ?_)
  · refine s_iconst 69 dX9_sortOfWord_68 rfl ?_
    refine s_ireturn rfl dX9_sortOfWord_69 ?_
    rw [if_neg (of_decide_eq_false g6)] at hp
    exact hp
  · refine s_iconst 65 dX9_sortOfWord_64 rfl ?_
    refine s_goto 69 dX9_sortOfWord_65 rfl ?_
    refine s_ireturn rfl dX9_sortOfWord_69 ?_
    rw [if_pos (of_decide_eq_true g6)] at hp
    exact hp
theorem q_number {q : Nat} {lo hi : Int} (hlo : 0 ≤ lo ∧ lo ≤ hi ∧ hi ≤ 999) (hS : TaS T x) (hR : R (x + 1) = tp) (hl : tp.length ≤ 300) (hb : byt tp) (hP : PPp N x tp q) (hp : post (some (vi (numF tp q lo hi))) (T, N, R, P, S, cn, un)) : Cm G (AP G F) yX9_number cX9_number 5 (some .int) (d + 2) [.ref x, vi lo, vi hi] (T, N, R, P, S, cn, un) post := by
  obtain ⟨t0, t1, t2⟩ := hS
  obtain ⟨h3, h4, h2, hq⟩ := hP
  have hE := pE_le hq
  have hkc := pK_cases tp q
  have hpt := pT_len hq
  refine Cm_intro (L := [some (.ref x), some (vi lo), some (vi hi), none, none]) (by decide +kernel) (Nat.le_of_ble_eq_true rfl) rfl ?_
  unfold numF at hp
  refine s_aload_n 1 dX9_number_0 rfl rfl ?_
  refine g_X9_kind 4 dX9_number_1 rfl fl_X9_40 (fun hr1 => ?_)
  rw [h2]
  refine s_iconst 5 dX9_number_4 rfl ?_
  refine s_icmp_ne 8 21 dX9_number_5 rfl rfl (fun g1 => ?_) (fun g1 => ?_)
  · refine s_iconst 22 dX9_number_21 rfl ?_
    refine s_ireturn rfl dX9_number_22 ?_
    rw [if_neg (fun h => g1 h.1)] at hp
    exact hp
  refine s_aload_n 9 dX9_number_8 rfl rfl ?_
  refine g_X9_to 12 dX9_number_9 rfl fl_X9_34 (fun hr9 => ?_)
  refine s_aload_n 13 dX9_number_12 rfl rfl ?_
  refine g_X9_from 16 dX9_number_13 rfl fl_X9_51 (fun hr13 => ?_)
  rw [h4, h3]
  refine s_isub 17 dX9_number_16 rfl ?_
  refine s_iconst 18 dX9_number_17 rfl ?_
  refine s_icmp_le 21 23 dX9_number_18 rfl rfl (fun g2 => ?_) (fun g2 => ?_)
  rotate_left
  · refine s_iconst 22 dX9_number_21 rfl ?_
    refine s_ireturn rfl dX9_number_22 ?_
    rw [if_neg (fun h => by have h9 := h.2.2; unfold nmF at h9; rw [if_pos (by omega)] at h9; omega)] at hp
    exact hp
  have enm : nmF (pT tp q) = (pT tp q).foldl (fun n x => 10 * n + x - 48) 0 := if_neg (by omega)
  have hdig : ∀ i, q ≤ i → i < pE tp q → 48 ≤ tp.getD i 0 ∧ tp.getD i 0 ≤ 57 := by
    intro i h1 h5
    rw [pE_2 g1] at h5
    exact of_decide_eq_true (rnF_all (f := dg_) _ q i rfl h1 h5)
  refine s_iconst 24 dX9_number_23 rfl ?_
  refine s_istore_n 25 dX9_number_24 rfl (Nat.le_of_ble_eq_true rfl) rfl ?_
  refine s_aload_n 26 dX9_number_25 rfl rfl ?_
  refine g_X9_from 29 dX9_number_26 rfl fl_X9_51 (fun hr26 => ?_)
  rw [h3]
  refine s_istore 31 dX9_number_29 rfl (Nat.le_of_ble_eq_true rfl) rfl ?_
  have key : ∀ (m k : Nat) (v : Int), k + m = pE tp q - q → ((pT tp q).take k).foldl (fun n x => 10 * n + x - 48) 0 = v → (0 ≤ v ∧ (k = 0 → v = 0) ∧ (k = 1 → v ≤ 9) ∧ (k = 2 → v ≤ 99)) → V G (AP G F) yX9_number cX9_number 5 (some .int) (d + 2) (T, N, R, P, S, cn, un) 31 [some (.ref x), some (vi lo), some (vi hi), some (vi v), some (vi ((q : Int) + k))] [] post := by
    intro m
    induction m with
    | zero =>
      intro k v hk hv hvr
      have hv9 : nmF (pT tp q) = v := by rw [enm, ← hv, List.take_of_length_le (by omega)]
      rw [hv9] at hp
      have hv99 : v ≤ 99 := by
        have : k = 0 ∨ k = 1 ∨ k = 2 := by omega
        rcases this with h | h | h
        · have := hvr.2.1 h; omega
        · have := hvr.2.2.1 h; omega
        · exact hvr.2.2.2 h
      have hv0 := hvr.1
      refine s_iload 33 dX9_number_31 rfl rfl ?_
      refine s_aload_n 34 dX9_number_33 rfl rfl ?_
      refine g_X9_to 37 dX9_number_34 rfl fl_X9_34 (fun hr34 => ?_)
      rw [h4]
      refine s_icmp_ge 40 64 dX9_number_37 rfl rfl (fun g3 => ?_) (fun g3 => ?_)
      rotate_left
      · omega
      refine s_iload_n 65 dX9_number_64 rfl rfl ?_
      refine s_iload_n 66 dX9_number_65 rfl rfl ?_
      refine s_icmp_lt 69 78 dX9_number_66 rfl rfl (fun g4 => ?_) (fun g4 => ?_)
      · refine s_iconst 79 dX9_number_78 rfl ?_
        refine s_ireturn rfl dX9_number_79 ?_
        rw [if_neg (fun h => by omega)] at hp
        exact hp
      refine s_iload_n 70 dX9_number_69 rfl rfl ?_
      refine s_iload_n 71 dX9_number_70 rfl rfl ?_
      refine s_icmp_gt 74 78 dX9_number_71 rfl rfl (fun g5 => ?_) (fun g5 => ?_)
      · refine s_iconst 79 dX9_number_78 rfl ?_
        refine s_ireturn rfl dX9_number_79 ?_
        rw [if_neg (fun h => by omega)] at hp
        exact hp
      · refine s_iload_n 75 dX9_number_74 rfl rfl ?_
        refine s_goto 79 dX9_number_75 rfl ?_
        refine s_ireturn rfl dX9_number_79 ?_
        rw [if_pos ⟨g1, by omega, by omega⟩] at hp
        exact hp
    | succ m ih =>
      intro k v hk hv hvr
      have hd := hdig (q + k) (by omega) (by omega)
      have ept : (pT tp q).getD k 0 = tp.getD (q + k) 0 := pT_at hq (by omega)
      have hsn := foldl_snoc (fun n x => 10 * n + x - 48) 0 (pT tp q) k 0 (by omega)
      rw [hv, ept] at hsn
      refine s_iload 33 dX9_number_31 rfl rfl ?_
      refine s_aload_n 34 dX9_number_33 rfl rfl ?_
      refine g_X9_to 37 dX9_number_34 rfl fl_X9_34 (fun hr34 => ?_)
      rw [h4]
      refine s_icmp_ge 40 64 dX9_number_37 rfl rfl (fun g3 => ?_) (fun g3 => ?_)
      · omega
      refine s_bipush 42 dX9_number_40 rfl (k := ?_)
      refine s_iload_n 43 dX9_number_42 rfl rfl ?_
      refine s_imul 44 dX9_number_43 rfl ?_
      refine s_aload_n 45 dX9_number_44 rfl rfl ?_
      refine g_X9_bytes 48 dX9_number_45 rfl fl_X9_14 ?_
      refine s_iload 50 dX9_number_48 rfl rfl ?_
      refine s_V1i 53 dX9_number_50 rfl km_X5_at ml_X9_60 ds_X5_at (Nat.le_of_ble_eq_true rfl) (q_recR (by assumption)) rfl (r_atK t1 hR (by constructor <;> omega) (fun hr => ?_))
      refine ⟨_, rfl, ?_⟩
      rw [show (q : Int) + (k : Int) = ((q + k : Nat) : Int) by omega, atF_in (by omega)]
      refine s_iadd 54 dX9_number_53 rfl ?_
      refine s_bipush 56 dX9_number_54 rfl (k := ?_)
      refine s_isub 57 dX9_number_56 rfl ?_
      refine s_istore_n 58 dX9_number_57 rfl (Nat.le_of_ble_eq_true rfl) rfl ?_
      refine s_iinc 61 dX9_number_58 rfl rfl (Nat.le_of_ble_eq_true rfl) rfl ?_
      refine s_goto 31 dX9_number_61 rfl ?_
      rw [show ((q + k : Nat) : Int) + 1 = (q : Int) + ((k + 1 : Nat) : Int) by omega]
      refine ih (k + 1) _ (by omega) hsn ⟨?_, fun h => by omega, fun h => ?_, fun h => ?_⟩
      · show 0 ≤ 10 * v + tp.getD (q + k) 0 - 48
        omega
      · have := hvr.2.1 (by omega)
        show 10 * v + tp.getD (q + k) 0 - 48 ≤ 9
        omega
      · have := hvr.2.2.1 (by omega)
        show 10 * v + tp.getD (q + k) 0 - 48 ≤ 99
        omega
  have h9 := key (pE tp q - q) 0 0 (by omega) rfl ⟨by omega, fun _ => rfl, fun h => by omega, fun h => by omega⟩
  rw [show (q : Int) + ((0 : Nat) : Int) = (q : Int) by omega] at h9
  exact h9
end TAPE
