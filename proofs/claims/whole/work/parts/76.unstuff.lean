/-! ===== Stuffing: bytes unpacked ===== -/
/-- how many bytes belong to a CODE, as the program counts them -/
def rnO (L Z : Nat) (way c left : Int) : Int := if c < 1 then -1 else if way = 2 ∧ left < c - 1 then left else if c ≤ L + 1 then (if c - 1 ≤ left then c - 1 else -1) else if way = 1 ∧ c ≤ L + 1 + Z then (if c - L - 2 ≤ left then c - L - 2 else -1) else -1
theorem rnO_rg {L Z : Nat} {way c left : Int} (hl : 0 ≤ left) : -1 ≤ rnO L Z way c left ∧ rnO L Z way c left ≤ left := by
  unfold rnO
  split
  · omega
  · split
    · omega
    · split
      · split <;> omega
      · split
        · split <;> omega
        · omega
section UNSTUFF
variable {G : GT} {F : HS} {d : Nat} {T : Nat → Nat} {N : Nat → Nat → Int} {R : Nat → List Int} {P : Nat → Nat → Option Nat} {S : Nat → Int64} {cn un : Nat} {post : Option Value → PT → Prop}
theorem q_isTail {c left way : Int} (hc : 0 ≤ c ∧ c ≤ 1000) (hl : rg left) (hw : 0 ≤ way ∧ way ≤ 2) (hp : post (some (vb (decide (way = 2 ∧ left < c - 1)))) (T, N, R, P, S, cn, un)) : Cm G (AP G F) yX8_isTail cX8_isTail 3 (some .boolean) d [vi c, vi left, vi way] (T, N, R, P, S, cn, un) post := by
  refine Cm_intro (L := [some (vi c), some (vi left), some (vi way)]) (by decide +kernel) (Nat.le_of_ble_eq_true rfl) rfl ?_
  refine s_iload_n 1 dX8_isTail_0 rfl rfl ?_
  refine s_iconst 2 dX8_isTail_1 rfl ?_
  refine s_icmp_ne 5 16 dX8_isTail_2 rfl rfl (fun g => ?_) (fun g => ?_)
  · refine s_iconst 17 dX8_isTail_16 rfl ?_
    first | refine s_zreturn rfl dX8_isTail_17 ?_ | refine s_zreturn1 rfl dX8_isTail_17 ?_ | refine s_zreturn0 rfl dX8_isTail_17 ?_
    rw [decide_eq_false (fun h => g h.1)] at hp
    exact hp
  refine s_iload_n 6 dX8_isTail_5 rfl rfl ?_
  refine s_iconst 7 dX8_isTail_6 rfl ?_
  refine s_isub 8 dX8_isTail_7 rfl ?_
  refine s_iload_n 9 dX8_isTail_8 rfl rfl ?_
  refine s_icmp_le 12 16 dX8_isTail_9 rfl rfl (fun g2 => ?_) (fun g2 => ?_)
  · refine s_iconst 17 dX8_isTail_16 rfl ?_
    first | refine s_zreturn rfl dX8_isTail_17 ?_ | refine s_zreturn1 rfl dX8_isTail_17 ?_ | refine s_zreturn0 rfl dX8_isTail_17 ?_
    rw [decide_eq_false (fun h => by omega)] at hp
    exact hp
  · refine s_iconst 13 dX8_isTail_12 rfl ?_
    refine s_goto 17 dX8_isTail_13 rfl ?_
    first | refine s_zreturn rfl dX8_isTail_17 ?_ | refine s_zreturn1 rfl dX8_isTail_17 ?_ | refine s_zreturn0 rfl dX8_isTail_17 ?_
    rw [decide_eq_true ⟨g, by omega⟩] at hp
    exact hp
theorem q_runOf {x Ln Zn : Nat} {c left way : Int} (hT : T x = 9) (hL : N x 0 = Ln) (hZ : N x 1 = Zn) (hL1 : Ln ≤ 60) (hZ1 : Zn ≤ 60) (hc : 0 ≤ c ∧ c ≤ 1000) (hl : 0 ≤ left ∧ left ≤ 1000) (hw : 0 ≤ way ∧ way ≤ 2) (hp : post (some (vi (rnO Ln Zn way c left))) (T, N, R, P, S, cn, un)) : Cm G (AP G F) yX8_runOf cX8_runOf 5 (some .int) (d + 1) [.ref x, vi c, vi left, vi way] (T, N, R, P, S, cn, un) post := by
  refine Cm_intro (L := [some (.ref x), some (vi c), some (vi left), some (vi way), none]) (by decide +kernel) (Nat.le_of_ble_eq_true rfl) rfl ?_
  unfold rnO at hp
  refine s_iload_n 1 dX8_runOf_0 rfl rfl ?_
  refine s_iconst 2 dX8_runOf_1 rfl ?_
  refine s_icmp_ge 5 7 dX8_runOf_2 rfl rfl (fun g1 => ?_) (fun g1 => ?_)
  rotate_left
  · refine s_iconst 6 dX8_runOf_5 rfl ?_
    refine s_ireturn rfl dX8_runOf_6 ?_
    rw [if_pos (by omega)] at hp
    exact hp
  rw [if_neg (by omega)] at hp
  refine s_iload_n 8 dX8_runOf_7 rfl rfl ?_
  refine s_iload_n 9 dX8_runOf_8 rfl rfl ?_
  refine s_iload_n 10 dX8_runOf_9 rfl rfl ?_
  refine s_S3b 13 dX8_runOf_10 rfl km_X8_isTail rfl ml_X8_64 ds_X8_isTail (Nat.le_of_ble_eq_true rfl) (q_isTail hc (by constructor <;> omega) hw ?_)
  refine ⟨_, rfl, ?_⟩
  refine s_if_eqb 16 18 dX8_runOf_13 rfl rfl (fun g2 => ?_) (fun g2 => ?_)
  rotate_left
  · refine s_iload_n 17 dX8_runOf_16 rfl rfl ?_
    refine s_ireturn rfl dX8_runOf_17 ?_
    rw [if_pos (of_decide_eq_true g2)] at hp
    exact hp
  rw [if_neg (of_decide_eq_false g2)] at hp
  have fin : ∀ r : Int, -1 ≤ r → r ≤ 1000 → post (some (vi (if r ≤ left then r else -1))) (T, N, R, P, S, cn, un) → V G (AP G F) yX8_runOf cX8_runOf 5 (some .int) (d + 1) (T, N, R, P, S, cn, un) 69 [some (.ref x), some (vi c), some (vi left), some (vi way), some (vi r)] [] post := by
    intro r h1 h2 h3
    refine s_iload 71 dX8_runOf_69 rfl rfl ?_
    refine s_iload_n 72 dX8_runOf_71 rfl rfl ?_
    refine s_icmp_gt 75 80 dX8_runOf_72 rfl rfl (fun g5 => ?_) (fun g5 => ?_)
    · refine s_iconst 81 dX8_runOf_80 rfl ?_
      refine s_ireturn rfl dX8_runOf_81 ?_
      rw [if_neg (by omega)] at h3
      exact h3
    · refine s_iload 77 dX8_runOf_75 rfl rfl ?_
      refine s_goto 81 dX8_runOf_77 rfl ?_
      refine s_ireturn rfl dX8_runOf_81 ?_
      rw [if_pos (by omega)] at h3
      exact h3
  refine s_iconst 19 dX8_runOf_18 rfl ?_
  refine s_istore 21 dX8_runOf_19 rfl (Nat.le_of_ble_eq_true rfl) rfl ?_
  refine s_iload_n 22 dX8_runOf_21 rfl rfl ?_
  refine s_aload_n 23 dX8_runOf_22 rfl rfl ?_
  refine g_X8_longest 26 dX8_runOf_23 rfl fl_X8_9 (fun hr23 => ?_)
  rw [hL]
  refine s_iconst 27 dX8_runOf_26 rfl ?_
  refine s_iadd 28 dX8_runOf_27 rfl ?_
  refine s_icmp_gt 31 39 dX8_runOf_28 rfl rfl (fun g3 => ?_) (fun g3 => ?_)
  rotate_left
  · refine s_iload_n 32 dX8_runOf_31 rfl rfl ?_
    refine s_iconst 33 dX8_runOf_32 rfl ?_
    refine s_isub 34 dX8_runOf_33 rfl ?_
    refine s_istore 36 dX8_runOf_34 rfl (Nat.le_of_ble_eq_true rfl) rfl ?_
    refine s_goto 69 dX8_runOf_36 rfl ?_
    rw [if_pos (by omega)] at hp
    exact fin _ (by omega) (by omega) hp
  rw [if_neg (by omega)] at hp
  refine s_iload_n 40 dX8_runOf_39 rfl rfl ?_
  refine s_iconst 41 dX8_runOf_40 rfl ?_
  refine s_icmp_ne 44 69 dX8_runOf_41 rfl rfl (fun g4 => ?_) (fun g4 => ?_)
  · rw [if_neg (fun h => g4 h.1)] at hp
    exact fin (-1) (by omega) (by omega) (by rw [if_pos (by omega)]; exact hp)
  refine s_iload_n 45 dX8_runOf_44 rfl rfl ?_
  refine s_aload_n 46 dX8_runOf_45 rfl rfl ?_
  refine g_X8_longest 49 dX8_runOf_46 rfl fl_X8_9 (fun hr46 => ?_)
  rw [hL]
  refine s_iconst 50 dX8_runOf_49 rfl ?_
  refine s_iadd 51 dX8_runOf_50 rfl ?_
  refine s_aload_n 52 dX8_runOf_51 rfl rfl ?_
  refine g_X8_pairs 55 dX8_runOf_52 rfl fl_X8_15 (fun hr52 => ?_)
  rw [hZ]
  refine s_iadd 56 dX8_runOf_55 rfl ?_
  refine s_icmp_gt 59 69 dX8_runOf_56 rfl rfl (fun g5 => ?_) (fun g5 => ?_)
  · rw [if_neg (fun h => by omega)] at hp
    exact fin (-1) (by omega) (by omega) (by rw [if_pos (by omega)]; exact hp)
  rw [if_pos ⟨g4, by omega⟩] at hp
  refine s_iload_n 60 dX8_runOf_59 rfl rfl ?_
  refine s_aload_n 61 dX8_runOf_60 rfl rfl ?_
  refine g_X8_longest 64 dX8_runOf_61 rfl fl_X8_9 (fun hr61 => ?_)
  rw [hL]
  refine s_isub 65 dX8_runOf_64 rfl ?_
  refine s_iconst 66 dX8_runOf_65 rfl ?_
  refine s_isub 67 dX8_runOf_66 rfl ?_
  refine s_istore 69 dX8_runOf_67 rfl (Nat.le_of_ble_eq_true rfl) rfl ?_
  exact fin _ (by omega) (by omega) hp
theorem q_zeros {x Ln : Nat} {c : Int} {more : Bool} (hT : T x = 9) (hL : N x 0 = Ln) (hL1 : Ln ≤ 60) (hc : 0 ≤ c ∧ c ≤ 1000) (hp : post (some (vi ((zrC Ln c (more = true)).length : Int))) (T, N, R, P, S, cn, un)) : Cm G (AP G F) yX8_zerosBehind cX8_zerosBehind 3 (some .int) d [.ref x, vi c, vb more] (T, N, R, P, S, cn, un) post := by
  refine Cm_intro (L := [some (.ref x), some (vi c), some (vb more)]) (by decide +kernel) (Nat.le_of_ble_eq_true rfl) rfl ?_
  refine s_iload_n 1 dX8_zerosBehind_0 rfl rfl ?_
  refine s_aload_n 2 dX8_zerosBehind_1 rfl rfl ?_
  refine g_X8_longest 5 dX8_zerosBehind_2 rfl fl_X8_9 (fun hr2 => ?_)
  rw [hL]
  refine s_iconst 6 dX8_zerosBehind_5 rfl ?_
  refine s_iadd 7 dX8_zerosBehind_6 rfl ?_
  refine s_icmp_le 10 12 dX8_zerosBehind_7 rfl rfl (fun g1 => ?_) (fun g1 => ?_)
  rotate_left
  · refine s_iconst 11 dX8_zerosBehind_10 rfl ?_
    refine s_ireturn rfl dX8_zerosBehind_11 ?_
    rw [zrC_2 (by omega)] at hp
    exact hp
  refine s_iload_n 13 dX8_zerosBehind_12 rfl rfl ?_
  refine s_aload_n 14 dX8_zerosBehind_13 rfl rfl ?_
  refine g_X8_longest 17 dX8_zerosBehind_14 rfl fl_X8_9 (fun hr14 => ?_)
  rw [hL]
  refine s_icmp_gt 20 28 dX8_zerosBehind_17 rfl rfl (fun g2 => ?_) (fun g2 => ?_)
  · refine s_iconst 29 dX8_zerosBehind_28 rfl ?_
    refine s_ireturn rfl dX8_zerosBehind_29 ?_
    rw [zrC_0 (fun h => by omega) (by omega)] at hp
    exact hp
  refine s_iload_nb 21 dX8_zerosBehind_20 rfl rfl ?_
  refine s_if_eqb 24 28 dX8_zerosBehind_21 rfl rfl (fun g3 => ?_) (fun g3 => ?_)
  · refine s_iconst 29 dX8_zerosBehind_28 rfl ?_
    refine s_ireturn rfl dX8_zerosBehind_29 ?_
    rw [zrC_0 (fun h => by rw [g3] at h; exact absurd h.2 (by decide)) (by omega)] at hp
    exact hp
  · refine s_iconst 25 dX8_zerosBehind_24 rfl ?_
    refine s_goto 29 dX8_zerosBehind_25 rfl ?_
    refine s_ireturn rfl dX8_zerosBehind_29 ?_
    rw [zrC_1 ⟨by omega, g3⟩] at hp
    exact hp
theorem fz_snoc_ne {bs : List Int} {p j k : Nat} (h : ¬ bs.getD (p + j) 0 = 0) (hk : j < k) : fz bs (p + j) (k - j) = fz bs (p + (j + 1)) (k - (j + 1)) := by
  obtain ⟨m, hm⟩ : ∃ m, k - j = m + 1 := ⟨k - j - 1, by omega⟩
  rw [hm, fz_s h, show k - (j + 1) = m by omega]
  rfl
theorem q_unpack {x z w lz Ln Zn fr : Nat} {way : Int} {bs src : List Int} (hT : T x = 9) (hz : T z = 100 + lz) (hw : T w = 100 + 600) (hne : z ≠ w) (hR : R z = src) (hb : byt src) (hlen : src.length ≤ 1000) (hbs : bs = (src.drop fr).take bs.length) (hfr : fr + bs.length ≤ src.length) (hn : bs.length ≤ 300) (hL : N x 0 = Ln) (hZ : N x 1 = Zn) (hL1 : Ln ≤ 60) (hZ1 : Zn ≤ 60) (hway : 0 ≤ way ∧ way ≤ 2) (hp : ∀ l', ((unF Ln Zn way bs).1 = -1 → l' = (unF Ln Zn way bs).2) → post (some (vi (unF Ln Zn way bs).1)) (T, N, up R w l', P, S, cn, un)) : Cm G (AP G F) yX8_unpack cX8_unpack 13 (some .int) (d + 3) [.ref x, .ref z, vi fr, vi bs.length, vi way, .ref w] (T, N, R, P, S, cn, un) post := by
  have hbb : byt bs := by rw [hbs]; exact byt_take (byt_drop hb _) _
  have hat : ∀ j, j < bs.length → atF src (((fr + j : Nat)) : Int) = bs.getD j 0 := fun j hj => by
    rw [atF_in (by omega), hbs, getD_slice hj hfr]
  refine Cm_intro (L := [some (.ref x), some (.ref z), some (vi fr), some (vi bs.length), some (vi way), some (.ref w), none, none, none, none, none, none, none]) (by decide +kernel) (Nat.le_of_ble_eq_true rfl) rfl ?_
  refine s_aload 2 dX8_unpack_0 rfl rfl ?_
  refine s_V0v 5 dX8_unpack_2 rfl km_X5_clear ml_X8_24 ds_X5_clear (Nat.le_of_ble_eq_true rfl) (q_recR (by assumption)) rfl (r_clear hw ?_)
  refine ⟨rfl, ?_⟩
  refine s_iload_n 6 dX8_unpack_5 rfl rfl ?_
  refine s_if_gt 9 11 dX8_unpack_6 rfl rfl (fun g0 => ?_) (fun g0 => ?_)
  rotate_left
  · refine s_iconst 10 dX8_unpack_9 rfl ?_
    refine s_ireturn rfl dX8_unpack_10 ?_
    have e0 : unF Ln Zn way bs = (0, []) := if_pos (by omega)
    rw [e0] at hp
    exact hp [] (fun _ => rfl)
  generalize ho : unl Ln Zn way bs (bs.length + 1) [] 0 = o
  have hF : unF Ln Zn way bs = o := by rw [← ho]; exact if_neg (by omega)
  rw [hF] at hp
  refine s_iconst 12 dX8_unpack_11 rfl ?_
  refine s_istore 14 dX8_unpack_12 rfl (Nat.le_of_ble_eq_true rfl) rfl ?_
  refine s_iconst 15 dX8_unpack_14 rfl ?_
  refine s_istore 17 dX8_unpack_15 rfl (Nat.le_of_ble_eq_true rfl) rfl ?_
  have key : ∀ (f : Nat) (out : List Int) (p blk : Nat), unl Ln Zn way bs f out p = o → bs.length < p + f → p ≤ bs.length → out.length ≤ 2 * p → blk ≤ p → V G (AP G F) yX8_unpack cX8_unpack 13 (some .int) (d + 3) (T, N, up R w out, P, S, cn, un) 17 [some (.ref x), some (.ref z), some (vi fr), some (vi bs.length), some (vi way), some (.ref w), some (vi p), some (vi blk), none, none, none, none, none] [] post := by
    intro f
    induction f with
    | zero => intro out p blk hs h1 h2; omega
    | succ f ih =>
      intro out p blk hs h1 h2 h3 h4
      have eR : up R w out z = src := (up_n hne).trans hR
      refine s_iload 19 dX8_unpack_17 rfl rfl ?_
      refine s_iload_n 20 dX8_unpack_19 rfl rfl ?_
      refine s_icmp_ge 23 188 dX8_unpack_20 rfl rfl (fun g1 => ?_) (fun g1 => ?_)
      · refine s_iconst 189 dX8_unpack_188 rfl ?_
        refine s_ireturn rfl dX8_unpack_189 ?_
        rw [unl_end (by omega)] at hs
        rw [← hs] at hp
        exact hp out (fun _ => rfl)
      refine s_iload 25 dX8_unpack_23 rfl rfl ?_
      refine s_iload_n 26 dX8_unpack_25 rfl rfl ?_
      refine s_icmp_ge 29 188 dX8_unpack_26 rfl rfl (fun g2 => ?_) (fun g2 => ?_)
      · omega
      refine s_aload_n 30 dX8_unpack_29 rfl rfl ?_
      refine s_iload_n 31 dX8_unpack_30 rfl rfl ?_
      refine s_iload 33 dX8_unpack_31 rfl rfl ?_
      refine s_iadd 34 dX8_unpack_33 rfl ?_
      refine s_V1i 37 dX8_unpack_34 rfl km_X5_at ml_X8_52 ds_X5_at (Nat.le_of_ble_eq_true rfl) (q_recR (by assumption)) rfl (r_atK hz eR (by constructor <;> omega) (fun hr9 => ?_))
      refine ⟨_, rfl, ?_⟩
      rw [show (fr : Int) + (p : Int) = ((fr + p : Nat) : Int) by omega, hat p (by omega)]
      have hby := byt_at hbb p
      generalize hc : bs.getD p 0 = c at *
      refine s_istore 39 dX8_unpack_37 rfl (Nat.le_of_ble_eq_true rfl) rfl ?_
      refine s_iload_n 40 dX8_unpack_39 rfl rfl ?_
      refine s_iload 42 dX8_unpack_40 rfl rfl ?_
      refine s_isub 43 dX8_unpack_42 rfl ?_
      refine s_iconst 44 dX8_unpack_43 rfl ?_
      refine s_isub 45 dX8_unpack_44 rfl ?_
      refine s_istore 47 dX8_unpack_45 rfl (Nat.le_of_ble_eq_true rfl) rfl ?_
      rw [show (bs.length : Int) - (p : Int) - 1 = ((bs.length - p - 1 : Nat) : Int) by omega]
      refine s_aload_n 48 dX8_unpack_47 rfl rfl ?_
      refine s_iload 50 dX8_unpack_48 rfl rfl ?_
      refine s_iload 52 dX8_unpack_50 rfl rfl ?_
      refine s_iload 54 dX8_unpack_52 rfl rfl ?_
      refine s_V3i 57 dX8_unpack_54 rfl km_X8_runOf ml_X8_60 ds_X8_runOf (Nat.le_of_ble_eq_true rfl) (q_rec (by assumption)) rfl (q_runOf hT hL hZ hL1 hZ1 (by omega) (by omega) hway ?_)
      refine ⟨_, rfl, ?_⟩
      refine s_istore 59 dX8_unpack_57 rfl (Nat.le_of_ble_eq_true rfl) rfl ?_
      have hrn := rnO_rg (L := Ln) (Z := Zn) (way := way) (c := c) (left := ((bs.length - p - 1 : Nat) : Int)) (by omega)
      -- the bytes of a CODE: copied, or one of them is 0
      have copy : ∀ k : Nat, p + 1 + k ≤ bs.length → (fz bs (p + 1) k ≠ -1 → ∀ l', post (some (vi (fz bs (p + 1) k))) (T, N, up R w l', P, S, cn, un)) → (fz bs (p + 1) k = -1 → V G (AP G F) yX8_unpack cX8_unpack 13 (some .int) (d + 3) (T, N, up R w (out ++ (bs.drop (p + 1)).take k), P, S, cn, un) 115 [some (.ref x), some (.ref z), some (vi fr), some (vi bs.length), some (vi way), some (.ref w), some (vi p), some (vi blk), some (vi c), some (vi ((bs.length - p - 1 : Nat) : Int)), some (vi k), none, none] [] post) → V G (AP G F) yX8_unpack cX8_unpack 13 (some .int) (d + 3) (T, N, up R w out, P, S, cn, un) 68 [some (.ref x), some (.ref z), some (vi fr), some (vi bs.length), some (vi way), some (.ref w), some (vi p), some (vi blk), some (vi c), some (vi ((bs.length - p - 1 : Nat) : Int)), some (vi k), none, none] [] post := by
        intro k hk hbad hgood
        refine s_iconst 69 dX8_unpack_68 rfl ?_
        refine s_istore 71 dX8_unpack_69 rfl (Nat.le_of_ble_eq_true rfl) rfl ?_
        have loop : ∀ (m j : Nat), j + m = k → fz bs (p + 1) k = fz bs (p + 1 + j) (k - j) → V G (AP G F) yX8_unpack cX8_unpack 13 (some .int) (d + 3) (T, N, up R w (out ++ (bs.drop (p + 1)).take j), P, S, cn, un) 71 [some (.ref x), some (.ref z), some (vi fr), some (vi bs.length), some (vi way), some (.ref w), some (vi p), some (vi blk), some (vi c), some (vi ((bs.length - p - 1 : Nat) : Int)), some (vi k), some (vi (1 + (j : Int))), none] [] post := by
          intro m
          induction m with
          | zero =>
            intro j hj hf
            refine s_iload 73 dX8_unpack_71 rfl rfl ?_
            refine s_iload 75 dX8_unpack_73 rfl rfl ?_
            refine s_icmp_gt 78 115 dX8_unpack_75 rfl rfl (fun g3 => ?_) (fun g3 => ?_)
            rotate_left
            · omega
            have ej : j = k := by omega
            subst ej
            rw [Nat.sub_self, fz_0] at hf
            exact V_kill 11 (hgood hf)
          | succ m ih2 =>
            intro j hj hf
            have eR2 : up R w (out ++ (bs.drop (p + 1)).take j) z = src := (up_n hne).trans hR
            have htk : ((bs.drop (p + 1)).take j).length = j := len_take_drop (by omega)
            have hby2 := byt_at hbb (p + 1 + j)
            refine s_iload 73 dX8_unpack_71 rfl rfl ?_
            refine s_iload 75 dX8_unpack_73 rfl rfl ?_
            refine s_icmp_gt 78 115 dX8_unpack_75 rfl rfl (fun g3 => ?_) (fun g3 => ?_)
            · omega
            refine s_aload_n 79 dX8_unpack_78 rfl rfl ?_
            refine s_iload_n 80 dX8_unpack_79 rfl rfl ?_
            refine s_iload 82 dX8_unpack_80 rfl rfl ?_
            refine s_iadd 83 dX8_unpack_82 rfl ?_
            refine s_iload 85 dX8_unpack_83 rfl rfl ?_
            refine s_iadd 86 dX8_unpack_85 rfl ?_
            refine s_V1i 89 dX8_unpack_86 rfl km_X5_at ml_X8_52 ds_X5_at (Nat.le_of_ble_eq_true rfl) (q_recR (by assumption)) rfl (r_atK hz eR2 (by constructor <;> omega) (fun hr8 => ?_))
            refine ⟨_, rfl, ?_⟩
            rw [show (fr : Int) + (p : Int) + (1 + (j : Int)) = ((fr + (p + 1 + j) : Nat) : Int) by omega, hat (p + 1 + j) (by omega)]
            refine s_istore 91 dX8_unpack_89 rfl (Nat.le_of_ble_eq_true rfl) rfl ?_
            refine s_iload 93 dX8_unpack_91 rfl rfl ?_
            refine s_if_gt 96 102 dX8_unpack_93 rfl rfl (fun g4 => ?_) (fun g4 => ?_)
            rotate_left
            · refine s_iload 98 dX8_unpack_96 rfl rfl ?_
              refine s_iload 100 dX8_unpack_98 rfl rfl ?_
              refine s_iadd 101 dX8_unpack_100 rfl ?_
              refine s_ireturn rfl dX8_unpack_101 ?_
              obtain ⟨q, hq⟩ : ∃ q, k - j = q + 1 := ⟨k - j - 1, by omega⟩
              rw [hq, fz_z (by omega)] at hf
              rw [show (p : Int) + (1 + (j : Int)) = ((p + 1 + j : Nat) : Int) by omega, ← hf]
              exact hbad (by omega) _
            refine s_aload 104 dX8_unpack_102 rfl rfl ?_
            refine s_iload 106 dX8_unpack_104 rfl rfl ?_
            refine s_V1v 109 dX8_unpack_106 rfl km_X5_add ml_X8_40 ds_X5_add (Nat.le_of_ble_eq_true rfl) (q_recR (by assumption)) rfl (r_addK hw (up_s _ _ _) (by rw [List.length_append, htk]; omega) (by constructor <;> omega) ?_)
            refine ⟨rfl, ?_⟩
            rw [up_up, List.append_assoc, ← take_snoc (bs := bs) (p := p + 1) (r := j) (by omega)]
            refine s_iinc 112 dX8_unpack_109 rfl rfl (Nat.le_of_ble_eq_true rfl) rfl ?_
            refine s_goto 71 dX8_unpack_112 rfl ?_
            rw [show 1 + (j : Int) + 1 = 1 + ((j + 1 : Nat) : Int) by omega]
            refine V_kill 12 (ih2 (j + 1) (by omega) ?_)
            rw [hf]
            exact fz_snoc_ne (p := p + 1) (by omega) (by omega)
        have h9 := loop k 0 (by omega) rfl
        rw [List.take_zero, List.append_nil] at h9
        exact h9
      by_cases gT : way = 2 ∧ 0 < c ∧ ((bs.length - p - 1 : Nat) : Int) < c - 1
      · rw [unl_tail (by omega) (by rw [hc]; exact gT), hc] at hs
        have er : rnO Ln Zn way c ((bs.length - p - 1 : Nat) : Int) = ((bs.length - p - 1 : Nat) : Int) := by
          unfold rnO
          rw [if_neg (by omega), if_pos ⟨gT.1, gT.2.2⟩]
        rw [er]
        refine s_iload 61 dX8_unpack_59 rfl rfl ?_
        refine s_iconst 62 dX8_unpack_61 rfl ?_
        refine s_icmp_ne 65 68 dX8_unpack_62 rfl rfl (fun g3 => ?_) (fun g3 => ?_)
        rotate_left
        · omega
        rw [← hs] at hp
        refine copy (bs.length - p - 1) (by omega) (fun hne l' => hp l' (fun h => absurd h hne)) (fun hz0 => ?_)
        refine s_iload 117 dX8_unpack_115 rfl rfl ?_
        refine s_iconst 118 dX8_unpack_117 rfl ?_
        refine s_iload 120 dX8_unpack_118 rfl rfl ?_
        refine s_iadd 121 dX8_unpack_120 rfl ?_
        refine s_iadd 122 dX8_unpack_121 rfl ?_
        refine s_istore 124 dX8_unpack_122 rfl (Nat.le_of_ble_eq_true rfl) rfl ?_
        refine s_iload 126 dX8_unpack_124 rfl rfl ?_
        refine s_iload 128 dX8_unpack_126 rfl rfl ?_
        refine s_iload 130 dX8_unpack_128 rfl rfl ?_
        refine s_S3b 133 dX8_unpack_130 rfl km_X8_isTail rfl ml_X8_64 ds_X8_isTail (Nat.le_of_ble_eq_true rfl) (q_isTail (by omega) (by constructor <;> omega) hway ?_)
        refine ⟨_, rfl, ?_⟩
        refine s_if_eqb 136 146 dX8_unpack_133 rfl rfl (fun g4 => ?_) (fun g4 => ?_)
        · exact absurd ⟨gT.1, gT.2.2⟩ (of_decide_eq_false g4)
        have htk : ((bs.drop (p + 1)).take (bs.length - p - 1)).length = bs.length - p - 1 := len_take_drop (by omega)
        refine s_aload 138 dX8_unpack_136 rfl rfl ?_
        refine s_iload 140 dX8_unpack_138 rfl rfl ?_
        refine s_V1v 143 dX8_unpack_140 rfl km_X5_add ml_X8_40 ds_X5_add (Nat.le_of_ble_eq_true rfl) (q_recR (by assumption)) rfl (r_addK hw (up_s _ _ _) (by rw [List.length_append, htk]; omega) (by constructor <;> omega) ?_)
        refine ⟨rfl, ?_⟩
        rw [up_up]
        refine s_goto 182 dX8_unpack_143 rfl ?_
        refine s_iinc 185 dX8_unpack_182 rfl rfl (Nat.le_of_ble_eq_true rfl) rfl ?_
        refine s_goto 17 dX8_unpack_185 rfl ?_
        refine s_iload 19 dX8_unpack_17 rfl rfl ?_
        refine s_iload_n 20 dX8_unpack_19 rfl rfl ?_
        refine s_icmp_ge 23 188 dX8_unpack_20 rfl rfl (fun g5 => ?_) (fun g5 => ?_)
        rotate_left
        · omega
        refine s_iconst 189 dX8_unpack_188 rfl ?_
        refine s_ireturn rfl dX8_unpack_189 ?_
        have e9 : (bs.drop (p + 1)).take (bs.length - p - 1) = bs.drop (p + 1) := List.take_of_length_le (by rw [List.length_drop]; omega)
        have hp := hp (out ++ bs.drop (p + 1) ++ [c]) (fun _ => rfl)
        rw [show fz bs (p + 1) (bs.length - p - 1) = -1 from hz0] at hp
        rw [e9]
        exact hp
      by_cases gB : ¬ isC Ln Zn way c ∨ ((bs.length - p - 1 : Nat) : Int) < ndC Ln c
      · rw [unl_bad (by omega) (by rw [hc]; exact gT) (by rw [hc]; exact gB)] at hs
        have er : rnO Ln Zn way c ((bs.length - p - 1 : Nat) : Int) = -1 := by
          unfold rnO
          by_cases c1 : c < 1
          · rw [if_pos c1]
          · rw [if_neg c1, if_neg (fun h => gT ⟨h.1, by omega, h.2⟩)]
            unfold ndC at gB
            by_cases c2 : c ≤ Ln + 1
            · rw [if_pos c2] at gB
              rw [if_pos c2, if_neg]
              intro h
              rcases gB with g | g
              · exact g (Or.inl ⟨by omega, c2⟩)
              · omega
            · rw [if_neg c2] at gB
              rw [if_neg c2]
              by_cases c3 : way = 1 ∧ c ≤ Ln + 1 + Zn
              · rw [if_pos c3, if_neg]
                intro h
                rcases gB with g | g
                · exact g (Or.inr ⟨c3.1, by omega, c3.2⟩)
                · omega
              · rw [if_neg c3]
        rw [er]
        refine s_iload 61 dX8_unpack_59 rfl rfl ?_
        refine s_iconst 62 dX8_unpack_61 rfl ?_
        refine s_icmp_ne 65 68 dX8_unpack_62 rfl rfl (fun g3 => ?_) (fun g3 => ?_)
        · omega
        refine s_iload 67 dX8_unpack_65 rfl rfl ?_
        refine s_ireturn rfl dX8_unpack_67 ?_
        rw [← hs] at hp
        exact hp out (fun h => absurd (show (p : Int) = -1 from h) (by omega))
      have gC : isC Ln Zn way c := Classical.byContradiction (fun h => gB (Or.inl h))
      have gN : ndC Ln c ≤ ((bs.length - p - 1 : Nat) : Int) := by
        rcases Int.lt_or_le ((bs.length - p - 1 : Nat) : Int) (ndC Ln c) with h | h
        · exact absurd (Or.inr h) gB
        · exact h
      have gP : 0 ≤ ndC Ln c := by
        unfold ndC
        split
        · rcases gC with h | h <;> omega
        · rcases gC with h | h <;> omega
      obtain ⟨k, hk⟩ := Int.eq_ofNat_of_zero_le gP
      have er : rnO Ln Zn way c ((bs.length - p - 1 : Nat) : Int) = (k : Int) := by
        rw [← hk]
        unfold rnO
        unfold ndC at gN ⊢
        have c1 : 0 < c := by rcases gC with h | h <;> omega
        rw [if_neg (by omega), if_neg (fun h => gT ⟨h.1, c1, h.2⟩)]
        by_cases c2 : c ≤ Ln + 1
        · rw [if_pos c2] at gN
          rw [if_pos c2, if_pos c2, if_pos gN]
        · rw [if_neg c2] at gN
          have c3 : way = 1 ∧ c ≤ Ln + 1 + Zn := by rcases gC with h | h <;> omega
          rw [if_neg c2, if_neg c2, if_pos c3, if_pos gN]
      rw [er]
      refine s_iload 61 dX8_unpack_59 rfl rfl ?_
      refine s_iconst 62 dX8_unpack_61 rfl ?_
      refine s_icmp_ne 65 68 dX8_unpack_62 rfl rfl (fun g3 => ?_) (fun g3 => ?_)
      rotate_left
      · omega
      refine copy k (by omega) (fun hne l' => ?_) (fun hz0 => ?_)
      · rw [unl_zero (by omega) (by rw [hc]; exact gT) (by rw [hc]; exact gC) (by rw [hc]; exact hk) (by omega) hne] at hs
        rw [← hs] at hp
        exact hp l' (fun h => absurd h hne)
      rw [unl_step (by omega) (by rw [hc]; exact gT) (by rw [hc]; exact gC) (by rw [hc]; exact hk) (by omega) hz0, hc] at hs
      have htk : ((bs.drop (p + 1)).take k).length = k := len_take_drop (by omega)
      have hzl := (zrC_byt Ln c (p + 1 + k < bs.length)).2
      refine s_iload 117 dX8_unpack_115 rfl rfl ?_
      refine s_iconst 118 dX8_unpack_117 rfl ?_
      refine s_iload 120 dX8_unpack_118 rfl rfl ?_
      refine s_iadd 121 dX8_unpack_120 rfl ?_
      refine s_iadd 122 dX8_unpack_121 rfl ?_
      refine s_istore 124 dX8_unpack_122 rfl (Nat.le_of_ble_eq_true rfl) rfl ?_
      refine s_iload 126 dX8_unpack_124 rfl rfl ?_
      refine s_iload 128 dX8_unpack_126 rfl rfl ?_
      refine s_iload 130 dX8_unpack_128 rfl rfl ?_
      refine s_S3b 133 dX8_unpack_130 rfl km_X8_isTail rfl ml_X8_64 ds_X8_isTail (Nat.le_of_ble_eq_true rfl) (q_isTail (by omega) (by constructor <;> omega) hway ?_)
      refine ⟨_, rfl, ?_⟩
      refine s_if_eqb 136 146 dX8_unpack_133 rfl rfl (fun g4 => ?_) (fun g4 => ?_)
      rotate_left
      · have g4 := of_decide_eq_true g4
        have c1 : 0 < c := by rcases gC with h | h <;> omega
        exact absurd ⟨g4.1, c1, g4.2⟩ gT
      have zer : ∀ mb : Bool, mb = decide (p + 1 + k < bs.length) → V G (AP G F) yX8_unpack cX8_unpack 13 (some .int) (d + 3) (T, N, up R w (out ++ (bs.drop (p + 1)).take k), P, S, cn, un) 160 [some (.ref x), some (.ref z), some (vi fr), some (vi bs.length), some (vi way), some (.ref w), some (vi ((p : Int) + (1 + (k : Int)))), some (vi blk), some (vi c), some (vi ((bs.length - p - 1 : Nat) : Int)), some (vi k), none, none] [vb mb, vi c, .ref x] post := by
        intro mb hmb
        refine s_V2i 163 dX8_unpack_160 rfl km_X8_zerosBehind ml_X8_68 ds_X8_zerosBehind (Nat.le_of_ble_eq_true rfl) (q_rec (by assumption)) rfl (q_zeros hT hL hL1 (by omega) ?_)
        refine ⟨_, rfl, ?_⟩
        refine s_istore 165 dX8_unpack_163 rfl (Nat.le_of_ble_eq_true rfl) rfl ?_
        have ez : zrC Ln c (mb = true) = zrC Ln c (p + 1 + k < bs.length) := by
          unfold zrC
          by_cases e : p + 1 + k < bs.length
          · rw [decide_eq_true e] at hmb
            simp only [hmb, e]
          · rw [decide_eq_false e] at hmb
            rw [hmb, if_neg (fun h => absurd h.2 (by decide)), if_neg (c := c ≤ (Ln : Int) ∧ p + 1 + k < bs.length) (fun h => e h.2)]
        rw [ez]
        have hz2 : zrC Ln c (p + 1 + k < bs.length) = List.replicate (zrC Ln c (p + 1 + k < bs.length)).length 0 := by
          unfold zrC
          split
          · rfl
          · split <;> rfl
        have loop : ∀ (m : Nat) (o2 : List Int), o2.length + m ≤ 600 → o2 ++ List.replicate m 0 = out ++ (bs.drop (p + 1)).take k ++ zrC Ln c (p + 1 + k < bs.length) → m ≤ 2 → V G (AP G F) yX8_unpack cX8_unpack 13 (some .int) (d + 3) (T, N, up R w o2, P, S, cn, un) 165 [some (.ref x), some (.ref z), some (vi fr), some (vi bs.length), some (vi way), some (.ref w), some (vi ((p : Int) + (1 + (k : Int)))), some (vi blk), some (vi c), some (vi ((bs.length - p - 1 : Nat) : Int)), some (vi k), some (vi m), none] [] post := by
          intro m
          induction m with
          | zero =>
            intro o2 h5 h6 h7
            refine s_iload 167 dX8_unpack_165 rfl rfl ?_
            refine s_if_le 170 182 dX8_unpack_167 rfl rfl (fun g5 => ?_) (fun g5 => ?_)
            rotate_left
            · omega
            refine s_iinc 185 dX8_unpack_182 rfl rfl (Nat.le_of_ble_eq_true rfl) rfl ?_
            refine s_goto 17 dX8_unpack_185 rfl ?_
            rw [List.replicate_zero, List.append_nil] at h6
            rw [← h6] at hs
            have hl6 : o2.length = out.length + k + (zrC Ln c (p + 1 + k < bs.length)).length := by rw [h6, List.length_append, List.length_append, htk]
            rw [show (p : Int) + (1 + (k : Int)) = ((p + 1 + k : Nat) : Int) by omega]
            refine V_kill 8 (V_kill 9 (V_kill 10 (V_kill 11 ?_)))
            exact ih o2 (p + 1 + k) (blk + 1) hs (by omega) (by omega) (by omega) (by omega)
          | succ m ih2 =>
            intro o2 h5 h6 h7
            refine s_iload 167 dX8_unpack_165 rfl rfl ?_
            refine s_if_le 170 182 dX8_unpack_167 rfl rfl (fun g5 => ?_) (fun g5 => ?_)
            · omega
            refine s_aload 172 dX8_unpack_170 rfl rfl ?_
            refine s_iconst 173 dX8_unpack_172 rfl ?_
            refine s_V1v 176 dX8_unpack_173 rfl km_X5_add ml_X8_40 ds_X5_add (Nat.le_of_ble_eq_true rfl) (q_recR (by assumption)) rfl (r_addK hw (up_s _ _ _) (by omega) (by decide) ?_)
            refine ⟨rfl, ?_⟩
            rw [up_up]
            refine s_iinc 179 dX8_unpack_176 rfl rfl (Nat.le_of_ble_eq_true rfl) rfl ?_
            refine s_goto 165 dX8_unpack_179 rfl ?_
            rw [show ((m + 1 : Nat) : Int) + -1 = (m : Int) by omega]
            refine ih2 (o2 ++ [0]) (by rw [List.length_append, List.length_singleton]; omega) ?_ (by omega)
            rw [List.append_assoc]
            exact h6
        refine loop _ (out ++ (bs.drop (p + 1)).take k) ?_ ?_ hzl
        · rw [List.length_append, htk]; omega
        · rw [← hz2]
      refine s_aload_n 147 dX8_unpack_146 rfl rfl ?_
      refine s_iload 149 dX8_unpack_147 rfl rfl ?_
      refine s_iload 151 dX8_unpack_149 rfl rfl ?_
      refine s_iload_n 152 dX8_unpack_151 rfl rfl ?_
      refine s_icmp_ge 155 159 dX8_unpack_152 rfl rfl (fun g5 => ?_) (fun g5 => ?_)
      · refine s_iconst 160 dX8_unpack_159 rfl ?_
        exact zer false (by rw [decide_eq_false]; omega)
      · refine s_iconst 156 dX8_unpack_155 rfl ?_
        refine s_goto 160 dX8_unpack_156 rfl ?_
        exact zer true (by rw [decide_eq_true]; omega)
  exact key (bs.length + 1) [] 0 0 ho (by omega) (by omega) (by simp) (by omega)
end UNSTUFF
