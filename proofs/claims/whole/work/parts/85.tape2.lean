/-! ===== Tape: what a text tells ===== -/
theorem and_bit : ∀ ss : Nat, ss < 32 → ∀ s : Nat, s < 5 → nI ss &&& nI (2 ^ s) = nI (2 ^ s * (ss / 2 ^ s % 2)) := by decide +kernel
/-- what the rules at x + 3 tell -/
def PrP (N : Nat → Nat → Int) (x : Nat) (r : RU) (cr : List Int) : Prop := N (x + 3) 2 = r 0 ∧ N (x + 3 + 1) 0 = r 1 ∧ N (x + 3 + 1) 1 = r 2 ∧ N (x + 3) 3 = r 3 ∧ N (x + 3) 4 = r 4 ∧ N (x + 3) 5 = cr.length ∧ ∀ c, c < cr.length → N (x + 3 + 2) c = cr.getD c 0
theorem PrP.fr {N N' : Nat → Nat → Int} {x : Nat} {r : RU} {cr : List Int} (h : PrP N x r cr) (hf : frO x (x + 1) N N') : PrP N' x r cr := by
  obtain ⟨a, b, c, e, f, g, k⟩ := h
  have h1 := hf (x + 3) (by omega)
  have h2 := hf (x + 3 + 1) (by omega)
  have h3 := hf (x + 3 + 2) (by omega)
  exact ⟨by rw [h1]; exact a, by rw [h2]; exact b, by rw [h2]; exact c, by rw [h1]; exact e, by rw [h1]; exact f, by rw [h1]; exact g, fun c hc => by rw [h3]; exact k c hc⟩
section TAPE2
variable {G : GT} {F : HS} {d : Nat} {T : Nat → Nat} {N : Nat → Nat → Int} {R : Nat → List Int} {P : Nat → Nat → Option Nat} {S : Nat → Int64} {cn un : Nat} {post : Option Value → PT → Prop} {x : Nat} {tp : List Int}
theorem q_mayStand {so : Int} {xs : PS} (hS : TaS T x) (hs : 0 ≤ so ∧ so ≤ 5) (h5 : N x 5 = xs.2.1) (h31 : 0 ≤ xs.2.1 ∧ xs.2.1 ≤ 31) (hc : N (x + 3) 5 = xs.2.2.length) (hc4 : xs.2.2.length ≤ 4) (hp1 : mayF xs so → ∀ N', frO x (x + 1) N N' → (∀ k, k ≠ 5 → N' x k = N x k) → N' x 5 = (if so = 5 then xs.2.1 else xs.2.1 + p2 so) → post (some (vb true)) (T, N', R, P, S, cn, un)) (hp0 : ¬ mayF xs so → ∀ N', frO x (x + 1) N N' → (∀ k, k ≠ 5 → N' x k = N x k) → post (some (vb false)) (T, N', R, P, S, cn, un)) : Cm G (AP G F) yX9_mayStand cX9_mayStand 4 (some .boolean) d [.ref x, vi so] (T, N, R, P, S, cn, un) post := by
  obtain ⟨t0, t1, ⟨t2, t3, t4⟩⟩ := hS
  refine Cm_intro (L := [some (.ref x), some (vi so), none, none]) (by decide +kernel) (Nat.le_of_ble_eq_true rfl) rfl ?_
  refine s_iload_n 1 dX9_mayStand_0 rfl rfl ?_
  refine s_iconst 2 dX9_mayStand_1 rfl ?_
  refine s_icmp_ne 5 22 dX9_mayStand_2 rfl rfl (fun g1 => ?_) (fun g1 => ?_)
  rotate_left
  · refine s_aload_n 6 dX9_mayStand_5 rfl rfl ?_
    refine g_X9_told 9 dX9_mayStand_6 rfl fl_X9_23 ?_
    refine g_X6_ports 12 dX9_mayStand_9 rfl fl_X9_57 (fun hr9 => ?_)
    rw [hc]
    refine s_iconst 13 dX9_mayStand_12 rfl ?_
    refine s_icmp_ge 16 20 dX9_mayStand_13 rfl rfl (fun g2 => ?_) (fun g2 => ?_)
    · refine s_iconst 21 dX9_mayStand_20 rfl ?_
      first | refine s_zreturn rfl dX9_mayStand_21 ?_ | refine s_zreturn1 rfl dX9_mayStand_21 ?_ | refine s_zreturn0 rfl dX9_mayStand_21 ?_
      exact hp0 (fun h => by rcases h with h | h <;> omega) N frO.rf (fun _ _ => rfl)
    · refine s_iconst 17 dX9_mayStand_16 rfl ?_
      refine s_goto 21 dX9_mayStand_17 rfl ?_
      first | refine s_zreturn rfl dX9_mayStand_21 ?_ | refine s_zreturn1 rfl dX9_mayStand_21 ?_ | refine s_zreturn0 rfl dX9_mayStand_21 ?_
      exact hp1 (Or.inl ⟨g1, by omega⟩) N frO.rf (fun _ _ => rfl) (by rw [if_pos g1]; exact h5)
  obtain ⟨s, rfl⟩ := Int.eq_ofNat_of_zero_le hs.1
  obtain ⟨ss, hss⟩ := Int.eq_ofNat_of_zero_le h31.1
  have hs5 : s < 5 := by omega
  have hss2 : ss < 32 := by omega
  have hp2 := p2_pow s hs5
  have hor := or_bit ss hss2 s hs5
  have hsl := shl_bit s hs5
  have han := and_bit ss hss2 s hs5
  have h16 : 2 ^ s ≤ 16 := (show ∀ s : Nat, s < 5 → 2 ^ s ≤ 16 by decide) s hs5
  have h1 : 1 ≤ 2 ^ s := Nat.one_le_two_pow
  have e0 : (xs.2.1 / p2 (s : Int) % 2 = 0) ↔ ss / 2 ^ s % 2 = 0 := by
    rw [hp2, hss]
    constructor
    · intro h; exact_mod_cast h
    · intro h; exact_mod_cast h
  have hm : mayF xs (s : Int) ↔ ss / 2 ^ s % 2 = 0 := by
    constructor
    · intro h
      rcases h with ⟨h, -⟩ | ⟨-, h⟩
      · omega
      · exact e0.mp h
    · intro h; exact Or.inr ⟨by omega, e0.mpr h⟩
  refine s_iconst 23 dX9_mayStand_22 rfl ?_
  refine s_iload_n 24 dX9_mayStand_23 rfl rfl ?_
  refine s_ishl 25 (((2 ^ s : Nat) : Int)) dX9_mayStand_24 rfl ((by rw [oI_nI]; exact hsl)) ?_
  refine s_istore_n 26 dX9_mayStand_25 rfl (Nat.le_of_ble_eq_true rfl) rfl ?_
  refine s_aload_n 27 dX9_mayStand_26 rfl rfl ?_
  refine g_X9_sortsSeen 30 dX9_mayStand_27 rfl fl_X9_30 (fun hr27 => ?_)
  rw [h5, hss]
  have hmm : ss / 2 ^ s % 2 = 0 ∨ ss / 2 ^ s % 2 = 1 := by omega
  generalize hpw : 2 ^ s = pw at *
  refine s_iload_n 31 dX9_mayStand_30 rfl rfl ?_
  refine s_iand 32 (((pw * (ss / pw % 2) : Nat) : Int)) dX9_mayStand_31 rfl ((by rw [oI_nI, oI_nI, oI_nI]; exact han)) ?_
  have tail : ∀ b3 : Bool, b3 = decide (ss / pw % 2 = 0) → V G (AP G F) yX9_mayStand cX9_mayStand 4 (some .boolean) d (T, N, R, P, S, cn, un) 41 [some (.ref x), some (vi s), some (vi pw), some (vb b3)] [] post := by
    intro b3 hb3
    refine s_aload_n 42 dX9_mayStand_41 rfl rfl ?_
    refine s_dup (q := 43) (hd := dX9_mayStand_42) (hq := rfl) (k := ?_)
    refine g_X9_sortsSeen 46 dX9_mayStand_43 rfl fl_X9_30 (fun hr43 => ?_)
    rw [h5, hss]
    have hr2 : (if ss / pw % 2 = 0 then ss + pw else ss) < 64 := by split <;> omega
    refine s_iload_n 47 dX9_mayStand_46 rfl rfl ?_
    refine s_ior 48 (((if ss / pw % 2 = 0 then ss + pw else ss : Nat) : Int)) dX9_mayStand_47 rfl ((by rw [oI_nI, oI_nI, oI_nI]; exact hor)) ?_
    refine p_X9_sortsSeen 51 dX9_mayStand_48 rfl fl_X9_30 ?_
    refine s_iload_nb 52 dX9_mayStand_51 rfl rfl ?_
    refine s_zreturn rfl dX9_mayStand_52 ?_
    by_cases e : ss / pw % 2 = 0
    · rw [hb3, decide_eq_true e]
      refine hp1 (hm.mpr e) _ (frO.rf.up (by omega)) (fun k hk => by rw [up_s, up_n hk]) ?_
      rw [up_s, up_s, if_pos e, if_neg (by omega), hp2, hss]
      omega
    · rw [hb3, decide_eq_false e]
      exact hp0 (fun h => e (hm.mp h)) _ (frO.rf.up (by omega)) (fun k hk => by rw [up_s, up_n hk])
  rcases hmm with e | e
  · rw [e, Nat.mul_zero]
    refine s_if_ne 35 39 dX9_mayStand_32 rfl rfl (fun g2 => ?_) (fun g2 => ?_)
    · exact absurd rfl g2
    refine s_iconst 36 dX9_mayStand_35 rfl ?_
    refine s_goto 40 dX9_mayStand_36 rfl ?_
    refine s_istore_nb (z := true) 41 dX9_mayStand_40 rfl (Nat.le_of_ble_eq_true rfl) rfl ?_
    exact tail true (by rw [decide_eq_true e])
  · rw [e, Nat.mul_one]
    refine s_if_ne 35 39 dX9_mayStand_32 rfl rfl (fun g2 => ?_) (fun g2 => ?_)
    rotate_left
    · omega
    refine s_iconst 40 dX9_mayStand_39 rfl ?_
    refine s_istore_nb (z := false) 41 dX9_mayStand_40 rfl (Nat.le_of_ble_eq_true rfl) rfl ?_
    exact tail false (by rw [decide_eq_false (by omega)])
theorem q_tell {q : Nat} {so : Int} {xs : PS} (hS : TaS T x) (hR : R (x + 1) = tp) (hl : tp.length ≤ 300) (hb : byt tp) (hP : PPp N x tp q) (hs : 0 ≤ so ∧ so ≤ 5) (hpr : PrP N x xs.1 xs.2.2) (hmay : so = 5 → xs.2.2.length < 4) (hp : ∀ N', frO (x + 3) (x + 6) N N' → (valF tp q so ≠ -1 → PrP N' x (tellF xs so (valF tp q so)).1 (tellF xs so (valF tp q so)).2.2) → post (some (vb (decide (valF tp q so ≠ -1)))) (T, N', R, P, S, cn, un)) : Cm G (AP G F) yX9_tell cX9_tell 3 (some .boolean) (d + 6) [.ref x, vi so] (T, N, R, P, S, cn, un) post := by
  obtain ⟨t0, t1, t2'⟩ := id hS
  obtain ⟨t2, t3, t4⟩ := id t2'
  obtain ⟨r0, r1, r2, r3, r4, r5, r6⟩ := id hpr
  have vrg : -1 ≤ valF tp q so ∧ valF tp q so ≤ 60 := by
    have a1 := oneF_rg tp q wPlain wPairs wReduced
    have a2 := numF_rg (tp := tp) (q := q) (lo := 2) (hi := 60)
    have a3 := numF_rg (tp := tp) (q := q) (lo := 1) (hi := 30)
    have a4 := oneF_rg tp q wNone wSum wCrc
    have a5 := numF_rg (tp := tp) (q := q) (lo := 1) (hi := 60)
    have a6 := numF_rg (tp := tp) (q := q) (lo := 1) (hi := 8)
    unfold valF
    split
    · omega
    · split
      · omega
      · split
        · omega
        · split
          · omega
          · split <;> omega
  refine Cm_intro (L := [some (.ref x), some (vi so), none]) (by decide +kernel) (Nat.le_of_ble_eq_true rfl) rfl ?_
  have fin : ∀ N2 : Nat → Nat → Int, frO (x + 3) (x + 6) N N2 → (valF tp q so ≠ -1 → PrP N2 x (tellF xs so (valF tp q so)).1 (tellF xs so (valF tp q so)).2.2) → V G (AP G F) yX9_tell cX9_tell 3 (some .boolean) (d + 6) (T, N2, R, P, S, cn, un) 159 [some (.ref x), some (vi so), some (vi (valF tp q so))] [] post := by
    intro N2 f1 f2
    have hp := hp N2 f1 f2
    refine s_iload_n 160 dX9_tell_159 rfl rfl ?_
    refine s_iconst 161 dX9_tell_160 rfl ?_
    refine s_icmp_eq 164 168 dX9_tell_161 rfl rfl (fun g => ?_) (fun g => ?_)
    · refine s_iconst 169 dX9_tell_168 rfl ?_
      first | refine s_zreturn rfl dX9_tell_169 ?_ | refine s_zreturn1 rfl dX9_tell_169 ?_ | refine s_zreturn0 rfl dX9_tell_169 ?_
      rw [decide_eq_false (fun h => h g)] at hp
      exact hp
    · refine s_iconst 165 dX9_tell_164 rfl ?_
      refine s_goto 169 dX9_tell_165 rfl ?_
      first | refine s_zreturn rfl dX9_tell_169 ?_ | refine s_zreturn1 rfl dX9_tell_169 ?_ | refine s_zreturn0 rfl dX9_tell_169 ?_
      rw [decide_eq_true g] at hp
      exact hp
  refine s_iload_n 1 dX9_tell_0 rfl rfl ?_
  refine s_tabL [36, 58, 80, 102, 124] 143 dX9_tell_1 rfl rfl rfl (by decide) ⟨fun hc => ?_, fun hc => ?_, fun hc => ?_, fun hc => ?_, fun hc => ?_, trivial⟩ (fun hc => ?_)
  · subst hc
    refine s_aload_n 37 dX9_tell_36 rfl rfl ?_
    refine s_ldcS 39 6 dX9_tell_37 rfl rfl rfl rfl ?_
    refine s_ldcS 41 2 dX9_tell_39 rfl rfl rfl rfl ?_
    refine s_ldcS 43 7 dX9_tell_41 rfl rfl rfl rfl ?_
    refine s_V3i 46 dX9_tell_43 rfl km_X9_choice ml_X9_105 ds_X9_choice (Nat.le_of_ble_eq_true rfl) (q_rec (by assumption)) rfl (q_choice (r1 := (RX9, 101, "plain")) (r2 := (RX9, 85, "pairs")) (r3 := (RX9, 103, "reduced")) (w1 := wPlain) (w2 := wPairs) (w3 := wReduced) (by decide +kernel) (by decide +kernel) (by decide +kernel) rfl rfl rfl hS hR hl hb hP ?_)
    refine ⟨_, rfl, ?_⟩
    rw [show oneF tp q wPlain wPairs wReduced = valF tp q 0 from rfl]
    refine s_istore_n 47 dX9_tell_46 rfl (Nat.le_of_ble_eq_true rfl) rfl ?_
    refine s_aload_n 48 dX9_tell_47 rfl rfl ?_
    refine g_X9_told 51 dX9_tell_48 rfl fl_X9_23 ?_
    refine s_iload_n 52 dX9_tell_51 rfl rfl ?_
    refine p_X6_way 55 dX9_tell_52 rfl fl_X9_109 ?_
    refine s_goto 159 dX9_tell_55 rfl ?_
    refine fin _ (frO.rf.up (by omega)) (fun _ => ⟨by rw [up_s]; rfl, by rw [up_n (by omega)]; exact r1, by rw [up_n (by omega)]; exact r2, by rw [up_s]; exact r3, by rw [up_s]; exact r4, by rw [up_s]; exact r5, fun c hc => by rw [up_n (by omega)]; exact r6 c hc⟩)
  · have hc : so = 1 := hc
    subst hc
    refine s_aload_n 59 dX9_tell_58 rfl rfl ?_
    refine s_iconst 60 dX9_tell_59 rfl ?_
    refine s_bipush 62 dX9_tell_60 rfl (k := ?_)
    refine s_V2i 65 dX9_tell_62 rfl km_X9_number ml_X9_111 ds_X9_number (Nat.le_of_ble_eq_true rfl) (q_rec (by assumption)) rfl (q_number (by omega) hS hR hl hb hP ?_)
    refine ⟨_, rfl, ?_⟩
    rw [show numF tp q 2 60 = valF tp q 1 from rfl]
    refine s_istore_n 66 dX9_tell_65 rfl (Nat.le_of_ble_eq_true rfl) rfl ?_
    refine s_aload_n 67 dX9_tell_66 rfl rfl ?_
    refine g_X9_told 70 dX9_tell_67 rfl fl_X9_23 ?_
    refine g_X6_stuffing 73 dX9_tell_70 rfl fl_X9_115 ?_
    refine s_iload_n 74 dX9_tell_73 rfl rfl ?_
    refine p_X8_longest 77 dX9_tell_74 rfl fl_X9_119 ?_
    refine s_goto 159 dX9_tell_77 rfl ?_
    refine fin _ (frO.rf.up (by omega)) (fun _ => ⟨by rw [up_n (by omega)]; exact r0, by rw [up_s]; rfl, by rw [up_s]; exact r2, by rw [up_n (by omega)]; exact r3, by rw [up_n (by omega)]; exact r4, by rw [up_n (by omega)]; exact r5, fun c hc => by rw [up_n (by omega)]; exact r6 c hc⟩)
  · have hc : so = 2 := hc
    subst hc
    refine s_aload_n 81 dX9_tell_80 rfl rfl ?_
    refine s_iconst 82 dX9_tell_81 rfl ?_
    refine s_bipush 84 dX9_tell_82 rfl (k := ?_)
    refine s_V2i 87 dX9_tell_84 rfl km_X9_number ml_X9_111 ds_X9_number (Nat.le_of_ble_eq_true rfl) (q_rec (by assumption)) rfl (q_number (by omega) hS hR hl hb hP ?_)
    refine ⟨_, rfl, ?_⟩
    rw [show numF tp q 1 30 = valF tp q 2 from rfl]
    refine s_istore_n 88 dX9_tell_87 rfl (Nat.le_of_ble_eq_true rfl) rfl ?_
    refine s_aload_n 89 dX9_tell_88 rfl rfl ?_
    refine g_X9_told 92 dX9_tell_89 rfl fl_X9_23 ?_
    refine g_X6_stuffing 95 dX9_tell_92 rfl fl_X9_115 ?_
    refine s_iload_n 96 dX9_tell_95 rfl rfl ?_
    refine p_X8_pairs 99 dX9_tell_96 rfl fl_X9_123 ?_
    refine s_goto 159 dX9_tell_99 rfl ?_
    refine fin _ (frO.rf.up (by omega)) (fun _ => ⟨by rw [up_n (by omega)]; exact r0, by rw [up_s]; exact r1, by rw [up_s]; rfl, by rw [up_n (by omega)]; exact r3, by rw [up_n (by omega)]; exact r4, by rw [up_n (by omega)]; exact r5, fun c hc => by rw [up_n (by omega)]; exact r6 c hc⟩)
  · have hc : so = 3 := hc
    subst hc
    refine s_aload_n 103 dX9_tell_102 rfl rfl ?_
    refine s_ldcS 105 8 dX9_tell_103 rfl rfl rfl rfl ?_
    refine s_ldcS 107 9 dX9_tell_105 rfl rfl rfl rfl ?_
    refine s_ldcS 109 10 dX9_tell_107 rfl rfl rfl rfl ?_
    refine s_V3i 112 dX9_tell_109 rfl km_X9_choice ml_X9_105 ds_X9_choice (Nat.le_of_ble_eq_true rfl) (q_rec (by assumption)) rfl (q_choice (r1 := (RX9, 125, "none")) (r2 := (RX9, 127, "sum")) (r3 := (RX9, 129, "crc")) (w1 := wNone) (w2 := wSum) (w3 := wCrc) (by decide +kernel) (by decide +kernel) (by decide +kernel) rfl rfl rfl hS hR hl hb hP ?_)
    refine ⟨_, rfl, ?_⟩
    rw [show oneF tp q wNone wSum wCrc = valF tp q 3 from rfl]
    refine s_istore_n 113 dX9_tell_112 rfl (Nat.le_of_ble_eq_true rfl) rfl ?_
    refine s_aload_n 114 dX9_tell_113 rfl rfl ?_
    refine g_X9_told 117 dX9_tell_114 rfl fl_X9_23 ?_
    refine s_iload_n 118 dX9_tell_117 rfl rfl ?_
    refine p_X6_check 121 dX9_tell_118 rfl fl_X9_131 ?_
    refine s_goto 159 dX9_tell_121 rfl ?_
    refine fin _ (frO.rf.up (by omega)) (fun _ => ⟨by rw [up_s]; exact r0, by rw [up_n (by omega)]; exact r1, by rw [up_n (by omega)]; exact r2, by rw [up_s]; rfl, by rw [up_s]; exact r4, by rw [up_s]; exact r5, fun c hc => by rw [up_n (by omega)]; exact r6 c hc⟩)
  · have hc : so = 4 := hc
    subst hc
    refine s_aload_n 125 dX9_tell_124 rfl rfl ?_
    refine s_iconst 126 dX9_tell_125 rfl ?_
    refine s_bipush 128 dX9_tell_126 rfl (k := ?_)
    refine s_V2i 131 dX9_tell_128 rfl km_X9_number ml_X9_111 ds_X9_number (Nat.le_of_ble_eq_true rfl) (q_rec (by assumption)) rfl (q_number (by omega) hS hR hl hb hP ?_)
    refine ⟨_, rfl, ?_⟩
    rw [show numF tp q 1 60 = valF tp q 4 from rfl]
    refine s_istore_n 132 dX9_tell_131 rfl (Nat.le_of_ble_eq_true rfl) rfl ?_
    refine s_aload_n 133 dX9_tell_132 rfl rfl ?_
    refine g_X9_told 136 dX9_tell_133 rfl fl_X9_23 ?_
    refine s_iload_n 137 dX9_tell_136 rfl rfl ?_
    refine p_X6_size 140 dX9_tell_137 rfl fl_X9_133 ?_
    refine s_goto 159 dX9_tell_140 rfl ?_
    refine fin _ (frO.rf.up (by omega)) (fun _ => ⟨by rw [up_s]; exact r0, by rw [up_n (by omega)]; exact r1, by rw [up_n (by omega)]; exact r2, by rw [up_s]; exact r3, by rw [up_s]; rfl, by rw [up_s]; exact r5, fun c hc => by rw [up_n (by omega)]; exact r6 c hc⟩)
  · have hc : so = 5 := by omega
    subst hc
    have hlt := hmay rfl
    refine s_aload_n 144 dX9_tell_143 rfl rfl ?_
    refine s_iconst 145 dX9_tell_144 rfl ?_
    refine s_bipush 147 dX9_tell_145 rfl (k := ?_)
    refine s_V2i 150 dX9_tell_147 rfl km_X9_number ml_X9_111 ds_X9_number (Nat.le_of_ble_eq_true rfl) (q_rec (by assumption)) rfl (q_number (by omega) hS hR hl hb hP ?_)
    refine ⟨_, rfl, ?_⟩
    rw [show numF tp q 1 8 = valF tp q 5 from rfl]
    refine s_istore_n 151 dX9_tell_150 rfl (Nat.le_of_ble_eq_true rfl) rfl ?_
    refine s_aload_n 152 dX9_tell_151 rfl rfl ?_
    refine g_X9_told 155 dX9_tell_152 rfl fl_X9_23 ?_
    refine s_iload_n 156 dX9_tell_155 rfl rfl ?_
    refine s_V1v 159 dX9_tell_156 rfl km_X6_addPort ml_X9_134 ds_X6_addPort (Nat.le_of_ble_eq_true rfl) (q_rec (by assumption)) rfl (q_addPort t2' (by omega) (by constructor <;> omega) ?_)
    refine ⟨rfl, ?_⟩
    rw [if_pos (by omega)]
    refine fin _ ((frO.rf.up (by omega)).up (by omega)) (fun _ => ?_)
    have et : tellF xs 5 (valF tp q 5) = (xs.1, xs.2.1, xs.2.2 ++ [valF tp q 5]) := rfl
    rw [et]
    refine ⟨by rw [up_s]; exact r0, by rw [up_n (by omega), up_n (by omega)]; exact r1, by rw [up_n (by omega), up_n (by omega)]; exact r2, by rw [up_s]; exact r3, by rw [up_s]; exact r4, ?_, fun c hc => ?_⟩
    · rw [up_s, up_s, r5]
      show _ = ((xs.2.2 ++ [_]).length : Int)
      rw [List.length_append, List.length_singleton]
      omega
    · have hc : c < (xs.2.2 ++ [valF tp q 5]).length := hc
      rw [List.length_append, List.length_singleton] at hc
      rw [up_n (by omega), up_s, r5, show (((xs.2.2.length : Nat) : Int)).toNat = xs.2.2.length from rfl]
      show _ = (xs.2.2 ++ [valF tp q 5]).getD c 0
      by_cases e : c = xs.2.2.length
      · rw [e, up_s, getD_snoc_eq]
      · rw [up_n e, getD_snoc_lt (by omega)]
        exact r6 c (by omega)
theorem q_firstFault (hS : TaS T x) (hR : R (x + 1) = tp) (hl : tp.length ≤ 300) (hb : byt tp) (hp : ∀ N', frO x (x + 6) N N' → ((parF tp).1 = -1 → PrP N' x (parF tp).2.1 (parF tp).2.2.2 ∧ WfPs (parF tp).2 ∧ 0 < (parF tp).2.2.2.length) → post (some (vi (parF tp).1)) (T, N', R, P, S, cn, un)) : Cm G (AP G F) yX9_firstFault cX9_firstFault 3 (some .int) (d + 7) [.ref x] (T, N, R, P, S, cn, un) post := by
  obtain ⟨t0, t1, t2'⟩ := id hS
  obtain ⟨t2, t3, t4⟩ := id t2'
  refine Cm_intro (L := [some (.ref x), none, none]) (by decide +kernel) (Nat.le_of_ble_eq_true rfl) rfl ?_
  refine s_aload_n 1 dX9_firstFault_0 rfl rfl ?_
  refine g_X9_told 4 dX9_firstFault_1 rfl fl_X9_23 ?_
  refine s_V0v 7 dX9_firstFault_4 rfl km_X6_forget ml_X9_27 ds_X6_forget (Nat.le_of_ble_eq_true rfl) (q_rec (by assumption)) rfl (q_forget t2' (fun N1 f1 f2 => ?_))
  refine ⟨rfl, ?_⟩
  refine s_aload_n 8 dX9_firstFault_7 rfl rfl ?_
  refine s_iconst 9 dX9_firstFault_8 rfl ?_
  refine p_X9_sortsSeen 12 dX9_firstFault_9 rfl fl_X9_30 ?_
  refine s_aload_n 13 dX9_firstFault_12 rfl rfl ?_
  refine s_iconst 14 dX9_firstFault_13 rfl ?_
  refine p_X9_to 17 dX9_firstFault_14 rfl fl_X9_34 ?_
  rw [up_in]
  refine s_iconst 18 dX9_firstFault_17 rfl ?_
  refine s_istore_n 19 dX9_firstFault_18 rfl (Nat.le_of_ble_eq_true rfl) rfl ?_
  have key : ∀ (f k p : Nat) (xs : PS) (N2 : Nat → Nat → Int), tp.length ≤ p + f → k ≤ p → p ≤ tp.length → frO x (x + 6) N N2 → N2 x 4 = p → N2 x 5 = xs.2.1 → PrP N2 x xs.1 xs.2.2 → WfPs xs → parF tp = pcs tp (f + 1) (pB tp p) xs → V G (AP G F) yX9_firstFault cX9_firstFault 3 (some .int) (d + 7) (T, N2, R, P, S, cn, un) 19 [some (.ref x), some (vi k), none] [] post := by
    intro f
    induction f with
    | zero =>
      intro k p xs N2 h1 h2 h3 g1 g2 g3 g4 g5 g6
      have hB := pB_le h3
      have hq : pB tp p = tp.length := by omega
      refine s_iload_n 20 dX9_firstFault_19 rfl rfl ?_
      refine s_sipush 23 dX9_firstFault_20 rfl (k := ?_)
      refine s_icmp_gt 26 147 dX9_firstFault_23 rfl rfl (fun c0 => ?_) (fun c0 => ?_)
      · omega
      refine s_aload_n 27 dX9_firstFault_26 rfl rfl ?_
      refine s_V0v 30 dX9_firstFault_27 rfl km_X9_nextPart ml_X9_37 ds_X9_nextPart (Nat.le_of_ble_eq_true rfl) (q_rec (by assumption)) rfl (q_nextPart hS hR hl hb g2 h3 (fun N3 k1 k2 k3 => ?_))
      refine ⟨rfl, ?_⟩
      obtain ⟨y3, y4, y2, y1⟩ := id k3
      have hk0 : pK tp (pB tp p) = 0 := pK_0 (by omega)
      refine s_aload_n 31 dX9_firstFault_30 rfl rfl ?_
      refine g_X9_kind 34 dX9_firstFault_31 rfl fl_X9_40 (fun hr31 => ?_)
      rw [y2, hk0]
      refine s_iconst 35 dX9_firstFault_34 rfl ?_
      refine s_icmp_ne 38 45 dX9_firstFault_35 rfl rfl (fun c1 => ?_) (fun c1 => ?_)
      rotate_left
      · omega
      refine s_iconst 46 dX9_firstFault_45 rfl ?_
      refine s_istore_n 47 dX9_firstFault_46 rfl (Nat.le_of_ble_eq_true rfl) rfl ?_
      refine s_iload_n 48 dX9_firstFault_47 rfl rfl ?_
      refine s_iconst 49 dX9_firstFault_48 rfl ?_
      refine s_icmp_eq 52 60 dX9_firstFault_49 rfl rfl (fun c2 => ?_) (fun c2 => ?_)
      rotate_left
      · omega
      refine s_aload_n 61 dX9_firstFault_60 rfl rfl ?_
      refine g_X9_from 64 dX9_firstFault_61 rfl fl_X9_51 (fun hr61 => ?_)
      rw [y3]
      refine s_ireturn rfl dX9_firstFault_64 ?_
      have hs1 : srt tp (pB tp p) = -1 := by
        unfold srt
        rw [if_neg (fun h => by have := h.1; omega), if_neg (fun h => by have := h.1; omega), if_neg (fun h => by have := h.1; omega), if_neg (fun h => by have := h.1; omega), if_neg (fun h => by have := h.1; omega), if_neg (fun h => by have := h.1; omega)]
      have hf : fltF tp (pB tp p) xs = (pB tp p : Nat) := if_pos (Or.inl hs1)
      rw [pcs_flt (by rw [hf]; omega), hf] at g6
      rw [g6] at hp
      exact hp N3 (g1.trans k1 (by omega)) (fun h => absurd (show ((pB tp p : Nat) : Int) = -1 from h) (by omega))
    | succ f ih =>
      intro k p xs N2 h1 h2 h3 g1 g2 g3 g4 g5 g6
      have hB := pB_le h3
      have hE := pE_le hB.2
      have hB2 := pB_le hE.2.1
      have hE2 := pE_le hB2.2
      have hB3 := pB_le hE2.2.1
      have hE3 := pE_le hB3.2
      refine s_iload_n 20 dX9_firstFault_19 rfl rfl ?_
      refine s_sipush 23 dX9_firstFault_20 rfl (k := ?_)
      refine s_icmp_gt 26 147 dX9_firstFault_23 rfl rfl (fun c0 => ?_) (fun c0 => ?_)
      · omega
      refine s_aload_n 27 dX9_firstFault_26 rfl rfl ?_
      refine s_V0v 30 dX9_firstFault_27 rfl km_X9_nextPart ml_X9_37 ds_X9_nextPart (Nat.le_of_ble_eq_true rfl) (q_rec (by assumption)) rfl (q_nextPart hS hR hl hb g2 h3 (fun N3 k1 k2 k3 => ?_))
      refine ⟨rfl, ?_⟩
      generalize hqe : pB tp p = q at *
      obtain ⟨y3, y4, y2, y1⟩ := id k3
      have hkc := pK_cases tp q
      have G1 : frO x (x + 6) N N3 := g1.trans k1 (by omega)
      have G4 := g4.fr k1
      have hsr := srt_rg tp q
      obtain ⟨v0, v1, v2, v3, v4, v5, v6, v7⟩ := id g5
      -- wrong at q
      have bad : ∀ N4 : Nat → Nat → Int, frO x (x + 6) N N4 → N4 x 3 = q → (srt tp q = -1 ∨ ¬ mayF xs (srt tp q)) → ∀ a2 : Option Value, V G (AP G F) yX9_firstFault cX9_firstFault 3 (some .int) (d + 7) (T, N4, R, P, S, cn, un) 60 [some (.ref x), some (vi k), a2] [] post := by
        intro N4 e1 e2 e3 a2
        refine s_aload_n 61 dX9_firstFault_60 rfl rfl ?_
        refine g_X9_from 64 dX9_firstFault_61 rfl fl_X9_51 (fun hr61 => ?_)
        rw [e2]
        refine s_ireturn rfl dX9_firstFault_64 ?_
        have hf : fltF tp q xs = (q : Nat) := if_pos e3
        rw [pcs_flt (by rw [hf]; omega), hf] at g6
        rw [g6] at hp
        exact hp N4 e1 (fun h => absurd (show ((q : Nat) : Int) = -1 from h) (by omega))
      -- the sort is known
      have sortd : V G (AP G F) yX9_firstFault cX9_firstFault 3 (some .int) (d + 7) (T, N3, R, P, S, cn, un) 46 [some (.ref x), some (vi k), none] [vi (srt tp q)] post := by
        refine s_istore_n 47 dX9_firstFault_46 rfl (Nat.le_of_ble_eq_true rfl) rfl ?_
        refine s_iload_n 48 dX9_firstFault_47 rfl rfl ?_
        refine s_iconst 49 dX9_firstFault_48 rfl ?_
        refine s_icmp_eq 52 60 dX9_firstFault_49 rfl rfl (fun c2 => ?_) (fun c2 => ?_)
        · exact bad N3 G1 y3 (Or.inl c2) _
        have hs0 : 0 ≤ srt tp q ∧ srt tp q ≤ 5 := by omega
        refine s_aload_n 53 dX9_firstFault_52 rfl rfl ?_
        refine s_iload_n 54 dX9_firstFault_53 rfl rfl ?_
        refine s_V1b 57 dX9_firstFault_54 rfl km_X9_mayStand ml_X9_47 ds_X9_mayStand (Nat.le_of_ble_eq_true rfl) (q_rec (by assumption)) rfl (q_mayStand hS hs0 (by rw [k2]; exact g3) v7 G4.2.2.2.2.2.1 v5 (fun hm N4 m1 m2 m3 => ?_) (fun hm N4 m1 m2 => ?_))
        refine ⟨_, rfl, ?_⟩
        rotate_left
        · refine ⟨_, rfl, ?_⟩
          refine s_if_neb 60 65 dX9_firstFault_57 rfl rfl (fun c3 => ?_) (fun c3 => ?_)
          · exact absurd c3 (by decide)
          · exact bad N4 (G1.trans m1 (by omega)) (by rw [m2 3 (by decide)]; exact y3) (Or.inr hm) _
        refine s_if_neb 60 65 dX9_firstFault_57 rfl rfl (fun c3 => ?_) (fun c3 => ?_)
        rotate_left
        · exact absurd c3 (by decide)
        have G2 : frO x (x + 6) N N4 := G1.trans m1 (by omega)
        have G5 := G4.fr m1
        refine s_aload_n 66 dX9_firstFault_65 rfl rfl ?_
        refine s_V0v 69 dX9_firstFault_66 rfl km_X9_nextPart ml_X9_37 ds_X9_nextPart (Nat.le_of_ble_eq_true rfl) (q_rec (by assumption)) rfl (q_nextPart hS hR hl hb (by rw [m2 4 (by decide)]; exact y4) hE.2.1 (fun N5 n1 n2 n3 => ?_))
        refine ⟨rfl, ?_⟩
        generalize hq2 : pB tp (pE tp q) = q2 at *
        have G3 : frO x (x + 6) N N5 := G2.trans n1 (by omega)
        have G6 := G5.fr n1
        obtain ⟨w3, w4, w2, w1⟩ := id n3
        refine s_aload_n 70 dX9_firstFault_69 rfl rfl ?_
        refine s_iload_n 71 dX9_firstFault_70 rfl rfl ?_
        refine s_V1b 74 dX9_firstFault_71 rfl km_X9_tell ml_X9_54 ds_X9_tell (Nat.le_of_ble_eq_true rfl) (q_rec (by assumption)) rfl (q_tell hS hR hl hb n3 hs0 G6 (fun h => by rcases hm with h9 | h9 <;> omega) (fun N6 o1 o2 => ?_))
        refine ⟨_, rfl, ?_⟩
        have G7 : frO x (x + 6) N N6 := G3.trans o1 (by omega)
        have w3' : N6 x 3 = q2 := by rw [o1 x (by omega)]; exact w3
        refine s_if_neb 77 82 dX9_firstFault_74 rfl rfl (fun c4 => ?_) (fun c4 => ?_)
        rotate_left
        · have c4 : valF tp q2 (srt tp q) = -1 := Classical.byContradiction (fun h => of_decide_eq_false c4 h)
          refine s_aload_n 78 dX9_firstFault_77 rfl rfl ?_
          refine g_X9_from 81 dX9_firstFault_78 rfl fl_X9_51 (fun hr78 => ?_)
          rw [w3']
          refine s_ireturn rfl dX9_firstFault_81 ?_
          have hf : fltF tp q xs = (q2 : Nat) := by
            unfold fltF
            rw [if_neg (fun h => h.elim c2 (fun h => h hm)), hq2, if_pos c4]
          rw [pcs_flt (by rw [hf]; omega), hf] at g6
          rw [g6] at hp
          exact hp N6 G7 (fun h => absurd (show ((q2 : Nat) : Int) = -1 from h) (by omega))
        have c4 : valF tp q2 (srt tp q) ≠ -1 := of_decide_eq_true c4
        have G8 := o2 c4
        have hf : fltF tp q xs = -1 := by
          unfold fltF
          rw [if_neg (fun h => h.elim c2 (fun h => h hm)), hq2, if_neg c4]
        have hwf := tellF_wf g5 hs0 hm c4
        rw [pcs_ok hf (by rw [hq2]) (by rw [hq2])] at g6
        have hso : N6 x 5 = (tellF xs (srt tp q) (valF tp q2 (srt tp q))).2.1 := by
          rw [o1 x (by omega), n2, m3]
          unfold tellF
          split <;> rfl
        generalize tellF xs (srt tp q) (valF tp q2 (srt tp q)) = xs2 at *
        refine s_aload_n 83 dX9_firstFault_82 rfl rfl ?_
        refine s_V0v 86 dX9_firstFault_83 rfl km_X9_nextPart ml_X9_37 ds_X9_nextPart (Nat.le_of_ble_eq_true rfl) (q_rec (by assumption)) rfl (q_nextPart hS hR hl hb (by rw [o1 x (by omega)]; exact w4) hE2.2.1 (fun N7 p1 p2 p3 => ?_))
        refine ⟨rfl, ?_⟩
        generalize hq3 : pB tp (pE tp q2) = q3 at *
        have H1 : frO x (x + 6) N N7 := G7.trans p1 (by omega)
        have H2 := G8.fr p1
        obtain ⟨z3, z4, z2, z1⟩ := id p3
        have hkc3 := pK_cases tp q3
        refine s_aload_n 87 dX9_firstFault_86 rfl rfl ?_
        refine g_X9_kind 90 dX9_firstFault_87 rfl fl_X9_40 (fun hr87 => ?_)
        rw [z2]
        refine s_if_ne 93 112 dX9_firstFault_90 rfl rfl (fun c5 => ?_) (fun c5 => ?_)
        rotate_left
        · rw [if_neg (fun h => by omega)] at g6
          have h9 := H2.2.2.2.2.2.1
          refine s_aload_n 94 dX9_firstFault_93 rfl rfl ?_
          refine g_X9_told 97 dX9_firstFault_94 rfl fl_X9_23 ?_
          refine g_X6_ports 100 dX9_firstFault_97 rfl fl_X9_57 (fun hr97 => ?_)
          rw [h9]
          refine s_if_ne 103 110 dX9_firstFault_100 rfl rfl (fun c6 => ?_) (fun c6 => ?_)
          · refine s_iconst 111 dX9_firstFault_110 rfl ?_
            refine s_ireturn rfl dX9_firstFault_111 ?_
            rw [if_pos ⟨c5, by omega⟩] at g6
            rw [g6] at hp
            exact hp N7 H1 (fun _ => ⟨H2, hwf, by show 0 < xs2.2.2.length; omega⟩)
          · refine s_aload_n 104 dX9_firstFault_103 rfl rfl ?_
            refine g_X9_from 107 dX9_firstFault_104 rfl fl_X9_51 (fun hr104 => ?_)
            rw [z3]
            refine s_goto 111 dX9_firstFault_107 rfl ?_
            refine s_ireturn rfl dX9_firstFault_111 ?_
            rw [if_neg (fun h => by omega)] at g6
            rw [g6] at hp
            exact hp N7 H1 (fun h => absurd (show ((q3 : Nat) : Int) = -1 from h) (by omega))
        have last : ¬ (pK tp q3 = 3 ∧ tp.getD q3 0 = 59) → ∀ a2 : Option Value, V G (AP G F) yX9_firstFault cX9_firstFault 3 (some .int) (d + 7) (T, N7, R, P, S, cn, un) 136 [some (.ref x), some (vi k), a2] [] post := by
          intro hno a2
          refine s_aload_n 137 dX9_firstFault_136 rfl rfl ?_
          refine g_X9_from 140 dX9_firstFault_137 rfl fl_X9_51 (fun hr137 => ?_)
          rw [z3]
          refine s_ireturn rfl dX9_firstFault_140 ?_
          rw [if_neg hno, if_neg (fun h => c5 h.1)] at g6
          rw [g6] at hp
          exact hp N7 H1 (fun h => absurd (show ((q3 : Nat) : Int) = -1 from h) (by omega))
        refine s_aload_n 113 dX9_firstFault_112 rfl rfl ?_
        refine g_X9_kind 116 dX9_firstFault_113 rfl fl_X9_40 (fun hr113 => ?_)
        rw [z2]
        refine s_iconst 117 dX9_firstFault_116 rfl ?_
        refine s_icmp_ne 120 136 dX9_firstFault_117 rfl rfl (fun c6 => ?_) (fun c6 => ?_)
        · exact last (fun h => c6 h.1) _
        have hlt3 : q3 < tp.length := by omega
        have hv3 := byt_at hb q3
        refine s_aload_n 121 dX9_firstFault_120 rfl rfl ?_
        refine g_X9_bytes 124 dX9_firstFault_121 rfl fl_X9_14 ?_
        refine s_aload_n 125 dX9_firstFault_124 rfl rfl ?_
        refine g_X9_from 128 dX9_firstFault_125 rfl fl_X9_51 (fun hr125 => ?_)
        rw [z3]
        refine s_V1i 131 dX9_firstFault_128 rfl km_X5_at ml_X9_60 ds_X5_at (Nat.le_of_ble_eq_true rfl) (q_recR (by assumption)) rfl (r_atK t1 hR (by constructor <;> omega) (fun hr => ?_))
        refine ⟨_, rfl, ?_⟩
        rw [atF_in hlt3]
        refine s_bipush 133 dX9_firstFault_131 rfl (k := ?_)
        refine s_icmp_eq 136 141 dX9_firstFault_133 rfl rfl (fun c7 => ?_) (fun c7 => ?_)
        rotate_left
        · exact last (fun h => c7 h.2) _
        rw [if_pos ⟨c6, c7⟩] at g6
        refine s_iinc 144 dX9_firstFault_141 rfl rfl (Nat.le_of_ble_eq_true rfl) rfl ?_
        refine s_goto 19 dX9_firstFault_144 rfl ?_
        have hgt := hE3.2.2 hlt3
        exact V_kill 2 (ih (k + 1) (pE tp q3) xs2 N7 (by omega) (by omega) hE3.2.1 H1 z4 (by rw [p2]; exact hso) H2 hwf g6)
      refine s_aload_n 31 dX9_firstFault_30 rfl rfl ?_
      refine g_X9_kind 34 dX9_firstFault_31 rfl fl_X9_40 (fun hr31 => ?_)
      rw [y2]
      refine s_iconst 35 dX9_firstFault_34 rfl ?_
      refine s_icmp_ne 38 45 dX9_firstFault_35 rfl rfl (fun c1 => ?_) (fun c1 => ?_)
      · refine s_iconst 46 dX9_firstFault_45 rfl ?_
        have hs1 : srt tp q = -1 := by
          unfold srt
          rw [if_neg (fun h => c1 h.1), if_neg (fun h => c1 h.1), if_neg (fun h => c1 h.1), if_neg (fun h => c1 h.1), if_neg (fun h => c1 h.1), if_neg (fun h => c1 h.1)]
        rw [← hs1]
        exact sortd
      · refine s_aload_n 39 dX9_firstFault_38 rfl rfl ?_
        refine s_V0i 42 dX9_firstFault_39 rfl km_X9_sortOfWord ml_X9_43 ds_X9_sortOfWord (Nat.le_of_ble_eq_true rfl) (q_rec (by assumption)) rfl (q_sortOfWord hS hR hl hb k3 ?_)
        refine ⟨_, rfl, ?_⟩
        refine s_goto 46 dX9_firstFault_42 rfl ?_
        exact sortd
  obtain ⟨r0, r1, r2, r3, r4, r5⟩ := id f2
  refine key 399 0 0 (ru0, 0, []) _ (by omega) (by omega) (by omega) ((f1.wk (by omega)).up (by omega)) (by rw [up_s, up_s]; rfl) (by rw [up_s, up_n (by decide), up_s]) ?_ ?_ rfl
  · exact ⟨by rw [up_n (by omega)]; exact r0, by rw [up_n (by omega)]; exact r1, by rw [up_n (by omega)]; exact r2, by rw [up_n (by omega)]; exact r3, by rw [up_n (by omega)]; exact r4, by rw [up_n (by omega)]; exact r5, fun c hc => absurd hc (by simp)⟩
  · exact ⟨by decide, by decide, by decide, by decide, by decide, by simp, by simp, by decide⟩
end TAPE2
