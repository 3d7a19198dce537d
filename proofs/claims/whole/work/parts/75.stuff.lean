/-! ===== Stuffing: bytes packed ===== -/
theorem atF_in {l : List Int} {k : Nat} (h : k < l.length) : atF l (k : Int) = l.getD k 0 := if_pos ⟨by omega, by omega⟩
theorem atF_out {l : List Int} {i : Int} (h : i < 0 ∨ (l.length : Int) ≤ i) : atF l i = -1 := if_neg (fun h => by omega)
theorem stl_len {L Z : Nat} {pw : Bool} {bs : List Int} (hL : 2 ≤ L) : ∀ (f : Nat) (out : List Int) (lc p : Nat), 2 * out.length ≤ 3 * p → p ≤ bs.length → bs.length < p + f → 2 * (stl L Z pw bs f out lc p).1.length ≤ 3 * bs.length + 2 := by
  intro f
  induction f with
  | zero => intro out lc p h1 h2 h3; omega
  | succ f ih =>
    intro out lc p h1 h2 h3
    obtain ⟨r, hr⟩ : ∃ r, rln L (bs.drop p) = r := ⟨_, rfl⟩
    have hr1 : r ≤ L := by rw [← hr]; exact rln_le _ _
    have hr2 : p + r ≤ bs.length := by have := rln_len L (bs.drop p); rw [hr, List.length_drop] at this; omega
    have htk : ((bs.drop p).take r).length = r := List.length_take_of_le (by rw [List.length_drop]; omega)
    by_cases g1 : r = L
    · rw [g1] at hr htk
      rw [stl_L hr]
      split
      · refine ih _ _ _ ?_ (by omega) (by omega)
        rw [List.length_append, List.length_cons, htk]; omega
      · show 2 * (out ++ _ :: _).length ≤ _
        rw [List.length_append, List.length_cons, htk]; omega
    · by_cases g2 : pw = true ∧ r < Z ∧ p + r + 1 < bs.length ∧ bs.getD (p + r) 0 = 0 ∧ bs.getD (p + r + 1) 0 = 0
      · rw [stl_P hr g1 g2]
        split
        · refine ih _ _ _ ?_ (by omega) (by omega)
          rw [List.length_append, List.length_cons, htk]; omega
        · show 2 * (out ++ _ :: _).length ≤ _
          rw [List.length_append, List.length_cons, htk]; omega
      · rw [stl_0 hr g1 g2]
        split
        · refine ih _ _ _ ?_ (by omega) (by omega)
          rw [List.length_append, List.length_cons, htk]; omega
        · show 2 * (out ++ _ :: _).length ≤ _
          rw [List.length_append, List.length_cons, htk]; omega
theorem stuffF_len {L Z : Nat} {way : Int} {bs : List Int} (hL : 2 ≤ L) : 2 * (stuffF L Z way bs).length ≤ 3 * bs.length + 2 := by
  have h := stl_len (Z := Z) (pw := decide (way = 1)) (bs := bs) hL (bs.length + 1) [] 0 0 (by simp) (by omega) (by omega)
  unfold stuffF
  split
  · unfold rdc
    split
    · rw [List.length_dropLast, List.length_set]; omega
    · exact h
  · exact h
section STUFF
variable {G : GT} {F : HS} {d : Nat} {T : Nat → Nat} {N : Nat → Nat → Int} {R : Nat → List Int} {P : Nat → Nat → Option Nat} {S : Nat → Int64} {cn un : Nat} {post : Option Value → PT → Prop}
theorem q_widest {x : Nat} {k : Int} (hT : T x = 9) (hL : 1 ≤ N x 0 ∧ N x 0 ≤ 60) (hk : 0 ≤ k ∧ k ≤ 1000) (hp : post (some (vi (mstF (N x 0) k))) (T, N, R, P, S, cn, un)) : Cm G (AP G F) yX8_widest cX8_widest 2 (some .int) (d + 1) [.ref x, vi k] (T, N, R, P, S, cn, un) post := by
  refine Cm_intro (L := [some (.ref x), some (vi k)]) (by decide +kernel) (Nat.le_of_ble_eq_true rfl) rfl ?_
  have hdv : 0 ≤ (k + N x 0 - 1) / N x 0 ∧ (k + N x 0 - 1) / N x 0 ≤ k + N x 0 - 1 := ⟨Int.ediv_nonneg (by omega) (by omega), Int.ediv_le_self _ (by omega)⟩
  refine s_iload_n 1 dX8_widest_0 rfl rfl ?_
  refine s_iconst 2 dX8_widest_1 rfl ?_
  refine s_aload_n 3 dX8_widest_2 rfl rfl ?_
  refine g_X8_longest 6 dX8_widest_3 rfl fl_X8_9 (fun hr3 => ?_)
  refine s_iconst 7 dX8_widest_6 rfl ?_
  refine s_icmp_ge 10 14 dX8_widest_7 rfl rfl (fun g => ?_) (fun g => ?_)
  rotate_left
  · omega
  refine s_iload_n 15 dX8_widest_14 rfl rfl ?_
  refine s_aload_n 16 dX8_widest_15 rfl rfl ?_
  refine g_X8_longest 19 dX8_widest_16 rfl fl_X8_9 (fun hr16 => ?_)
  refine s_iadd 20 dX8_widest_19 rfl ?_
  refine s_iconst 21 dX8_widest_20 rfl ?_
  refine s_isub 22 dX8_widest_21 rfl ?_
  refine s_aload_n 23 dX8_widest_22 rfl rfl ?_
  refine g_X8_longest 26 dX8_widest_23 rfl fl_X8_9 (fun hr23 => ?_)
  refine s_idiv (q := 27) (hd := dX8_widest_26) (hq := rfl) (k := ?_)
  refine s_max (q := 30) (hd := dX8_widest_27) (hq := rfl) (hw := ml_X8_18) (hrest := Nat.le_of_ble_eq_true rfl) (k := ?_)
  refine s_iadd 31 dX8_widest_30 rfl ?_
  refine s_ireturn rfl dX8_widest_31 ?_
  exact hp
theorem q_runFrom {x z lz p Ln : Nat} {bs : List Int} (hT : T x = 9) (hz : T z = 100 + lz) (hR : R z = bs) (hb : byt bs) (hlen : bs.length ≤ 1000) (hL : N x 0 = Ln) (hL1 : Ln ≤ 60) (hpl : p ≤ bs.length) (hp : post (some (vi (rln Ln (bs.drop p) : Nat))) (T, N, R, P, S, cn, un)) : Cm G (AP G F) yX8_runFrom cX8_runFrom 4 (some .int) (d + 2) [.ref x, .ref z, vi p] (T, N, R, P, S, cn, un) post := by
  refine Cm_intro (L := [some (.ref x), some (.ref z), some (vi p), none]) (by decide +kernel) (Nat.le_of_ble_eq_true rfl) rfl ?_
  refine s_iconst 1 dX8_runFrom_0 rfl ?_
  refine s_istore_n 2 dX8_runFrom_1 rfl (Nat.le_of_ble_eq_true rfl) rfl ?_
  have key : ∀ (k r : Nat), r + k = Ln → p + r ≤ bs.length → rln Ln (bs.drop p) = r + rln (Ln - r) (bs.drop (p + r)) → V G (AP G F) yX8_runFrom cX8_runFrom 4 (some .int) (d + 2) (T, N, R, P, S, cn, un) 2 [some (.ref x), some (.ref z), some (vi p), some (vi r)] [] post := by
    intro k
    induction k with
    | zero =>
      intro r hk hr he
      refine s_iload_n 3 dX8_runFrom_2 rfl rfl ?_
      refine s_aload_n 4 dX8_runFrom_3 rfl rfl ?_
      refine g_X8_longest 7 dX8_runFrom_4 rfl fl_X8_9 (fun hr4 => ?_)
      rw [hL]
      refine s_icmp_ge 10 26 dX8_runFrom_7 rfl rfl (fun g => ?_) (fun g => ?_)
      rotate_left
      · omega
      refine s_iload_n 27 dX8_runFrom_26 rfl rfl ?_
      refine s_ireturn rfl dX8_runFrom_27 ?_
      rw [show Ln - r = 0 by omega, rln_0, Nat.add_zero] at he
      rw [he] at hp
      exact hp
    | succ k ih =>
      intro r hk hr he
      refine s_iload_n 3 dX8_runFrom_2 rfl rfl ?_
      refine s_aload_n 4 dX8_runFrom_3 rfl rfl ?_
      refine g_X8_longest 7 dX8_runFrom_4 rfl fl_X8_9 (fun hr4 => ?_)
      rw [hL]
      refine s_icmp_ge 10 26 dX8_runFrom_7 rfl rfl (fun g => ?_) (fun g => ?_)
      · omega
      refine s_aload_n 11 dX8_runFrom_10 rfl rfl ?_
      refine s_iload_n 12 dX8_runFrom_11 rfl rfl ?_
      refine s_iload_n 13 dX8_runFrom_12 rfl rfl ?_
      refine s_iadd 14 dX8_runFrom_13 rfl ?_
      refine s_V1i 17 dX8_runFrom_14 rfl km_X5_at ml_X8_52 ds_X5_at (Nat.le_of_ble_eq_true rfl) (q_recR (by assumption)) rfl (r_atK hz hR (by constructor <;> omega) (fun hr9 => ?_))
      refine ⟨_, rfl, ?_⟩
      rw [show (p : Int) + (r : Int) = ((p + r : Nat) : Int) by omega] at hr9 ⊢
      by_cases e : p + r < bs.length
      · rw [atF_in e]
        have hby := byt_at hb (p + r)
        refine s_if_le 20 26 dX8_runFrom_17 rfl rfl (fun g2 => ?_) (fun g2 => ?_)
        · refine s_iload_n 27 dX8_runFrom_26 rfl rfl ?_
          refine s_ireturn rfl dX8_runFrom_27 ?_
          rw [drop_cons (k := p + r) e, show bs.getD (p + r) 0 = 0 by omega, rln_zero, Nat.add_zero] at he
          rw [he] at hp
          exact hp
        refine s_iinc 23 dX8_runFrom_20 rfl rfl (Nat.le_of_ble_eq_true rfl) rfl ?_
        refine s_goto 2 dX8_runFrom_23 rfl ?_
        refine ih (r + 1) (by omega) (by omega) ?_
        rw [he, drop_cons (k := p + r) e, show Ln - r = (Ln - (r + 1)) + 1 by omega, rln_succ (by omega), show p + (r + 1) = p + r + 1 by omega]
        omega
      · rw [atF_out (Or.inr (by omega))]
        refine s_if_le 20 26 dX8_runFrom_17 rfl rfl (fun g2 => ?_) (fun g2 => ?_)
        rotate_left
        · omega
        refine s_iload_n 27 dX8_runFrom_26 rfl rfl ?_
        refine s_ireturn rfl dX8_runFrom_27 ?_
        rw [show bs.drop (p + r) = [] from List.drop_eq_nil_of_le (by omega), rln_nil, Nat.add_zero] at he
        rw [he] at hp
        exact hp
  exact key Ln 0 (by omega) (by omega) (by simp)
abbrev prC (bs : List Int) (Ln Zn : Nat) (way : Int) (e r : Nat) : Prop := way = 1 ∧ (r < Ln ∧ r < Zn) ∧ e + 1 < bs.length ∧ bs.getD e 0 = 0 ∧ bs.getD (e + 1) 0 = 0
theorem q_codeOf {x z lz e r Ln Zn : Nat} {way : Int} {bs : List Int} (hT : T x = 9) (hz : T z = 100 + lz) (hR : R z = bs) (hb : byt bs) (hlen : bs.length ≤ 1000) (hL : N x 0 = Ln) (hZ : N x 1 = Zn) (hL1 : Ln ≤ 60) (hZ1 : Zn ≤ 60) (he : e ≤ 1000) (hr : r ≤ 100) (hw : 0 ≤ way ∧ way ≤ 2) (hp : post (some (vi (if prC bs Ln Zn way e r then (Ln : Int) + 2 + r else (r : Int) + 1))) (T, N, R, P, S, cn, un)) : Cm G (AP G F) yX8_codeOf cX8_codeOf 7 (some .int) (d + 2) [.ref x, .ref z, vi e, vi r, vi way] (T, N, R, P, S, cn, un) post := by
  refine Cm_intro (L := [some (.ref x), some (.ref z), some (vi e), some (vi r), some (vi way), none, none]) (by decide +kernel) (Nat.le_of_ble_eq_true rfl) rfl ?_
  have fin : ∀ b5 b6 : Bool, b5 = decide (r < Ln ∧ r < Zn) → b6 = decide (e + 1 < bs.length ∧ bs.getD e 0 = 0 ∧ bs.getD (e + 1) 0 = 0) → V G (AP G F) yX8_codeOf cX8_codeOf 7 (some .int) (d + 2) (T, N, R, P, S, cn, un) 48 [some (.ref x), some (.ref z), some (vi e), some (vi r), some (vi way), some (vb b5), some (vb b6)] [] post := by
    intro b5 b6 h5 h6
    refine s_iload 50 dX8_codeOf_48 rfl rfl ?_
    refine s_iconst 51 dX8_codeOf_50 rfl ?_
    refine s_icmp_ne 54 75 dX8_codeOf_51 rfl rfl (fun g1 => ?_) (fun g1 => ?_)
    · refine s_iload_n 76 dX8_codeOf_75 rfl rfl ?_
      refine s_iconst 77 dX8_codeOf_76 rfl ?_
      refine s_iadd 78 dX8_codeOf_77 rfl ?_
      refine s_ireturn rfl dX8_codeOf_78 ?_
      rw [if_neg (fun h => g1 h.1)] at hp
      exact hp
    refine s_iloadb 56 dX8_codeOf_54 rfl rfl ?_
    refine s_if_eqb 59 75 dX8_codeOf_56 rfl rfl (fun g2 => ?_) (fun g2 => ?_)
    · refine s_iload_n 76 dX8_codeOf_75 rfl rfl ?_
      refine s_iconst 77 dX8_codeOf_76 rfl ?_
      refine s_iadd 78 dX8_codeOf_77 rfl ?_
      refine s_ireturn rfl dX8_codeOf_78 ?_
      rw [g2] at h5
      rw [if_neg (fun h => of_decide_eq_false h5.symm h.2.1)] at hp
      exact hp
    refine s_iloadb 61 dX8_codeOf_59 rfl rfl ?_
    refine s_if_eqb 64 75 dX8_codeOf_61 rfl rfl (fun g3 => ?_) (fun g3 => ?_)
    · refine s_iload_n 76 dX8_codeOf_75 rfl rfl ?_
      refine s_iconst 77 dX8_codeOf_76 rfl ?_
      refine s_iadd 78 dX8_codeOf_77 rfl ?_
      refine s_ireturn rfl dX8_codeOf_78 ?_
      rw [g3] at h6
      rw [if_neg (fun h => of_decide_eq_false h6.symm h.2.2)] at hp
      exact hp
    refine s_aload_n 65 dX8_codeOf_64 rfl rfl ?_
    refine g_X8_longest 68 dX8_codeOf_65 rfl fl_X8_9 (fun hr65 => ?_)
    rw [hL]
    refine s_iconst 69 dX8_codeOf_68 rfl ?_
    refine s_iadd 70 dX8_codeOf_69 rfl ?_
    refine s_iload_n 71 dX8_codeOf_70 rfl rfl ?_
    refine s_iadd 72 dX8_codeOf_71 rfl ?_
    refine s_goto 78 dX8_codeOf_72 rfl ?_
    refine s_ireturn rfl dX8_codeOf_78 ?_
    rw [g2] at h5
    rw [g3] at h6
    rw [if_pos ⟨g1, of_decide_eq_true h5.symm, of_decide_eq_true h6.symm⟩] at hp
    exact hp
  have mid : ∀ b5 : Bool, b5 = decide (r < Ln ∧ r < Zn) → V G (AP G F) yX8_codeOf cX8_codeOf 7 (some .int) (d + 2) (T, N, R, P, S, cn, un) 23 [some (.ref x), some (.ref z), some (vi e), some (vi r), some (vi way), some (vb b5), none] [] post := by
    intro b5 h5
    have no : ¬ (e + 1 < bs.length ∧ bs.getD e 0 = 0 ∧ bs.getD (e + 1) 0 = 0) → V G (AP G F) yX8_codeOf cX8_codeOf 7 (some .int) (d + 2) (T, N, R, P, S, cn, un) 45 [some (.ref x), some (.ref z), some (vi e), some (vi r), some (vi way), some (vb b5), none] [] post := by
      intro h
      refine s_iconst 46 dX8_codeOf_45 rfl ?_
      refine s_istoreb (z := false) 48 dX8_codeOf_46 rfl (Nat.le_of_ble_eq_true rfl) rfl ?_
      exact fin b5 false h5 (by rw [decide_eq_false h])
    refine s_aload_n 24 dX8_codeOf_23 rfl rfl ?_
    refine s_iload_n 25 dX8_codeOf_24 rfl rfl ?_
    refine s_V1i 28 dX8_codeOf_25 rfl km_X5_at ml_X8_52 ds_X5_at (Nat.le_of_ble_eq_true rfl) (q_recR (by assumption)) rfl (r_atK hz hR (by constructor <;> omega) (fun hr9 => ?_))
    refine ⟨_, rfl, ?_⟩
    by_cases e1 : e < bs.length
    · rw [atF_in e1]
      have hby := byt_at hb e
      refine s_if_ne 31 45 dX8_codeOf_28 rfl rfl (fun g1 => ?_) (fun g1 => ?_)
      · exact no (fun h => g1 h.2.1)
      refine s_aload_n 32 dX8_codeOf_31 rfl rfl ?_
      refine s_iload_n 33 dX8_codeOf_32 rfl rfl ?_
      refine s_iconst 34 dX8_codeOf_33 rfl ?_
      refine s_iadd 35 dX8_codeOf_34 rfl ?_
      refine s_V1i 38 dX8_codeOf_35 rfl km_X5_at ml_X8_52 ds_X5_at (Nat.le_of_ble_eq_true rfl) (q_recR (by assumption)) rfl (r_atK hz hR (by constructor <;> omega) (fun hr8 => ?_))
      refine ⟨_, rfl, ?_⟩
      rw [show (e : Int) + 1 = ((e + 1 : Nat) : Int) by omega]
      by_cases e2 : e + 1 < bs.length
      · rw [atF_in e2]
        have hby2 := byt_at hb (e + 1)
        refine s_if_ne 41 45 dX8_codeOf_38 rfl rfl (fun g2 => ?_) (fun g2 => ?_)
        · exact no (fun h => g2 h.2.2)
        refine s_iconst 42 dX8_codeOf_41 rfl ?_
        refine s_goto 46 dX8_codeOf_42 rfl ?_
        refine s_istoreb (z := true) 48 dX8_codeOf_46 rfl (Nat.le_of_ble_eq_true rfl) rfl ?_
        exact fin b5 true h5 (by rw [decide_eq_true ⟨e2, g1, g2⟩])
      · rw [atF_out (Or.inr (by omega))]
        refine s_if_ne 41 45 dX8_codeOf_38 rfl rfl (fun g2 => ?_) (fun g2 => ?_)
        · exact no (fun h => e2 h.1)
        · omega
    · rw [atF_out (Or.inr (by omega))]
      refine s_if_ne 31 45 dX8_codeOf_28 rfl rfl (fun g1 => ?_) (fun g1 => ?_)
      · exact no (fun h => by omega)
      · omega
  refine s_iload_n 1 dX8_codeOf_0 rfl rfl ?_
  refine s_aload_n 2 dX8_codeOf_1 rfl rfl ?_
  refine g_X8_longest 5 dX8_codeOf_2 rfl fl_X8_9 (fun hr2 => ?_)
  rw [hL]
  refine s_icmp_ge 8 20 dX8_codeOf_5 rfl rfl (fun g1 => ?_) (fun g1 => ?_)
  · refine s_iconst 21 dX8_codeOf_20 rfl ?_
    refine s_istoreb (z := false) 23 dX8_codeOf_21 rfl (Nat.le_of_ble_eq_true rfl) rfl ?_
    exact mid false (by rw [decide_eq_false]; omega)
  refine s_iload_n 9 dX8_codeOf_8 rfl rfl ?_
  refine s_aload_n 10 dX8_codeOf_9 rfl rfl ?_
  refine g_X8_pairs 13 dX8_codeOf_10 rfl fl_X8_15 (fun hr10 => ?_)
  rw [hZ]
  refine s_icmp_ge 16 20 dX8_codeOf_13 rfl rfl (fun g2 => ?_) (fun g2 => ?_)
  · refine s_iconst 21 dX8_codeOf_20 rfl ?_
    refine s_istoreb (z := false) 23 dX8_codeOf_21 rfl (Nat.le_of_ble_eq_true rfl) rfl ?_
    exact mid false (by rw [decide_eq_false]; omega)
  refine s_iconst 17 dX8_codeOf_16 rfl ?_
  refine s_goto 21 dX8_codeOf_17 rfl ?_
  refine s_istoreb (z := true) 23 dX8_codeOf_21 rfl (Nat.le_of_ble_eq_true rfl) rfl ?_
  exact mid true (by rw [decide_eq_true]; omega)
theorem q_reduce {w lw lc : Nat} {l : List Int} (hw : T w = 100 + lw) (hR : R w = l) (hlen : l.length ≤ 1000) (hlc : lc < l.length) (hp : post none (T, N, up R w (rdc (l, lc)), P, S, cn, un)) : Cm G (AP G F) yX8_reduce cX8_reduce 3 none (d + 2) [.ref w, vi lc] (T, N, R, P, S, cn, un) post := by
  refine Cm_intro (L := [some (.ref w), some (vi lc), none]) (by decide +kernel) (Nat.le_of_ble_eq_true rfl) rfl ?_
  refine s_aload_n 1 dX8_reduce_0 rfl rfl ?_
  refine g_X5_size 4 dX8_reduce_1 rfl fl_X8_29 ?_
  rw [hR]
  refine s_iconst 5 dX8_reduce_4 rfl ?_
  refine s_isub 6 dX8_reduce_5 rfl ?_
  refine s_istore_n 7 dX8_reduce_6 rfl (Nat.le_of_ble_eq_true rfl) rfl ?_
  refine s_iload_n 8 dX8_reduce_7 rfl rfl ?_
  refine s_iload_n 9 dX8_reduce_8 rfl rfl ?_
  rw [show (l.length : Int) - 1 = ((l.length - 1 : Nat) : Int) by omega]
  refine s_icmp_le 12 40 dX8_reduce_9 rfl rfl (fun g1 => ?_) (fun g1 => ?_)
  · refine s_return rfl dX8_reduce_40 ?_
    rw [show rdc (l, lc) = l from if_neg (fun h => by have : lc + 1 < l.length := h.1; omega), up_self hR] at hp
    exact hp
  refine s_aload_n 13 dX8_reduce_12 rfl rfl ?_
  refine s_iload_n 14 dX8_reduce_13 rfl rfl ?_
  refine s_V1i 17 dX8_reduce_14 rfl km_X5_at ml_X8_52 ds_X5_at (Nat.le_of_ble_eq_true rfl) (q_recR (by assumption)) rfl (r_atK hw hR (by constructor <;> omega) (fun hr1 => ?_))
  refine ⟨_, rfl, ?_⟩
  rw [atF_in (by omega)] at hr1 ⊢
  refine s_aload_n 18 dX8_reduce_17 rfl rfl ?_
  refine s_iload_n 19 dX8_reduce_18 rfl rfl ?_
  refine s_V1i 22 dX8_reduce_19 rfl km_X5_at ml_X8_52 ds_X5_at (Nat.le_of_ble_eq_true rfl) (q_recR (by assumption)) rfl (r_atK hw hR (by constructor <;> omega) (fun hr2 => ?_))
  refine ⟨_, rfl, ?_⟩
  rw [atF_in hlc] at hr2 ⊢
  refine s_icmp_lt 25 40 dX8_reduce_22 rfl rfl (fun g2 => ?_) (fun g2 => ?_)
  · refine s_return rfl dX8_reduce_40 ?_
    rw [show rdc (l, lc) = l from if_neg (fun h => by have : l.getD lc 0 ≤ l.getD (l.length - 1) 0 := h.2; omega), up_self hR] at hp
    exact hp
  refine s_aload_n 26 dX8_reduce_25 rfl rfl ?_
  refine s_iload_n 27 dX8_reduce_26 rfl rfl ?_
  refine s_aload_n 28 dX8_reduce_27 rfl rfl ?_
  refine s_iload_n 29 dX8_reduce_28 rfl rfl ?_
  refine s_V1i 32 dX8_reduce_29 rfl km_X5_at ml_X8_52 ds_X5_at (Nat.le_of_ble_eq_true rfl) (q_recR (by assumption)) rfl (r_atK hw hR (by constructor <;> omega) (fun hr3 => ?_))
  refine ⟨_, rfl, ?_⟩
  rw [atF_in (by omega)] at hr3 ⊢
  refine s_V2v 35 dX8_reduce_32 rfl km_X5_set ml_X8_56 ds_X5_set (Nat.le_of_ble_eq_true rfl) (q_recR (by assumption)) rfl (r_setK hw hR (by omega) (by constructor <;> omega) hr3 ?_)
  refine ⟨rfl, ?_⟩
  have hl2 : ((up R w (l.set ((lc : Int)).toNat (l.getD (l.length - 1) 0))) w).length = l.length := by rw [up_s, List.length_set]
  refine s_aload_n 36 dX8_reduce_35 rfl rfl ?_
  refine s_iload_n 37 dX8_reduce_36 rfl rfl ?_
  refine p_X5_size 40 dX8_reduce_37 rfl fl_X8_29 ?_
  refine s_return rfl dX8_reduce_40 ?_
  rw [show rdc (l, lc) = (l.set lc (l.getD (l.length - 1) 0)).dropLast from if_pos ⟨by show lc + 1 < l.length; omega, by show l.getD lc 0 ≤ l.getD (l.length - 1) 0; omega⟩] at hp
  rw [up_s, up_up]
  rw [List.dropLast_eq_take, List.length_set] at hp
  exact hp
theorem q_pack {x z w lz Ln Zn : Nat} {way : Int} {bs : List Int} (hT : T x = 9) (hz : T z = 100 + lz) (hw : T w = 100 + 600) (hne : z ≠ w) (hR : R z = bs) (hb : byt bs) (hlen : bs.length ≤ 300) (hL : N x 0 = Ln) (hZ : N x 1 = Zn) (hL1 : 2 ≤ Ln ∧ Ln ≤ 60) (hZ1 : Zn ≤ 60) (hway : 0 ≤ way ∧ way ≤ 2) (hp : post none (T, N, up R w (stuffF Ln Zn way bs), P, S, cn, un)) : Cm G (AP G F) yX8_pack cX8_pack 12 none (d + 3) [.ref x, .ref z, vi way, .ref w] (T, N, R, P, S, cn, un) post := by
  refine Cm_intro (L := [some (.ref x), some (.ref z), some (vi way), some (.ref w), none, none, none, none, none, none, none, none]) (by decide +kernel) (Nat.le_of_ble_eq_true rfl) rfl ?_
  generalize ho : stl Ln Zn (decide (way = 1)) bs (bs.length + 1) [] 0 0 = o
  have hF : stuffF Ln Zn way bs = if way = 2 then rdc o else o.1 := by unfold stuffF; rw [ho]
  rw [hF] at hp
  have stop : ∀ (R' : Nat → List Int) (p blk : Int) (r e c lc z0 : Option Value), post none (T, N, R', P, S, cn, un) → V G (AP G F) yX8_pack cX8_pack 12 none (d + 3) (T, N, R', P, S, cn, un) 13 [some (.ref x), some (.ref z), some (vi way), some (.ref w), some (vi p), some (vi 0), some (vi blk), r, e, c, lc, z0] [] post := by
    intro R' p blk r e c lc z0 h
    refine s_iload 15 dX8_pack_13 rfl rfl ?_
    refine s_if_eq 18 174 dX8_pack_15 rfl rfl (fun g => ?_) (fun g => ?_)
    rotate_left
    · omega
    refine s_return rfl dX8_pack_174 ?_
    exact h
  refine s_aload_n 1 dX8_pack_0 rfl rfl ?_
  refine s_V0v 4 dX8_pack_1 rfl km_X5_clear ml_X8_24 ds_X5_clear (Nat.le_of_ble_eq_true rfl) (q_recR (by assumption)) rfl (r_clear hw ?_)
  refine ⟨rfl, ?_⟩
  refine s_iconst 5 dX8_pack_4 rfl ?_
  refine s_istore 7 dX8_pack_5 rfl (Nat.le_of_ble_eq_true rfl) rfl ?_
  refine s_iconst 8 dX8_pack_7 rfl ?_
  refine s_istore 10 dX8_pack_8 rfl (Nat.le_of_ble_eq_true rfl) rfl ?_
  refine s_iconst 11 dX8_pack_10 rfl ?_
  refine s_istore 13 dX8_pack_11 rfl (Nat.le_of_ble_eq_true rfl) rfl ?_
  have key : ∀ (f : Nat) (out : List Int) (lc p blk : Nat), stl Ln Zn (decide (way = 1)) bs f out lc p = o → bs.length < p + f → p ≤ bs.length → 2 * out.length ≤ 3 * p → blk ≤ p → V G (AP G F) yX8_pack cX8_pack 12 none (d + 3) (T, N, up R w out, P, S, cn, un) 13 [some (.ref x), some (.ref z), some (vi way), some (.ref w), some (vi p), some (vi 1), some (vi blk), none, none, none, none, none] [] post := by
    intro f
    induction f with
    | zero => intro out lc p blk hs h1 h2; omega
    | succ f ih =>
      intro out lc p blk hs h1 h2 h3 h4
      have eR : up R w out z = bs := (up_n hne).trans hR
      refine s_iload 15 dX8_pack_13 rfl rfl ?_
      refine s_if_eq 18 174 dX8_pack_15 rfl rfl (fun g => ?_) (fun g => ?_)
      · omega
      refine s_iload 20 dX8_pack_18 rfl rfl ?_
      refine s_aload_n 21 dX8_pack_20 rfl rfl ?_
      refine g_X5_size 24 dX8_pack_21 rfl fl_X8_29 ?_
      rw [eR]
      refine s_icmp_gt 27 174 dX8_pack_24 rfl rfl (fun g2 => ?_) (fun g2 => ?_)
      · omega
      refine s_aload_n 28 dX8_pack_27 rfl rfl ?_
      refine s_aload_n 29 dX8_pack_28 rfl rfl ?_
      refine s_iload 31 dX8_pack_29 rfl rfl ?_
      refine s_V2i 34 dX8_pack_31 rfl km_X8_runFrom ml_X8_32 ds_X8_runFrom (Nat.le_of_ble_eq_true rfl) (q_rec (by assumption)) rfl (q_runFrom hT hz eR hb (by omega) hL (by omega) h2 ?_)
      refine ⟨_, rfl, ?_⟩
      refine s_istore 36 dX8_pack_34 rfl (Nat.le_of_ble_eq_true rfl) rfl ?_
      refine s_iload 38 dX8_pack_36 rfl rfl ?_
      refine s_iload 40 dX8_pack_38 rfl rfl ?_
      refine s_iadd 41 dX8_pack_40 rfl ?_
      refine s_istore 43 dX8_pack_41 rfl (Nat.le_of_ble_eq_true rfl) rfl ?_
      generalize hr : rln Ln (bs.drop p) = r at hs ⊢
      have hr1 : r ≤ Ln := by rw [← hr]; exact rln_le _ _
      have hr2 : p + r ≤ bs.length := by have := rln_len Ln (bs.drop p); rw [hr, List.length_drop] at this; omega
      have htk : ((bs.drop p).take r).length = r := List.length_take_of_le (by rw [List.length_drop]; omega)
      rw [show (p : Int) + (r : Int) = ((p + r : Nat) : Int) by omega]
      refine s_aload_n 44 dX8_pack_43 rfl rfl ?_
      refine s_aload_n 45 dX8_pack_44 rfl rfl ?_
      refine s_iload 47 dX8_pack_45 rfl rfl ?_
      refine s_iload 49 dX8_pack_47 rfl rfl ?_
      refine s_iload_n 50 dX8_pack_49 rfl rfl ?_
      refine s_V4i 53 dX8_pack_50 rfl km_X8_codeOf ml_X8_36 ds_X8_codeOf (Nat.le_of_ble_eq_true rfl) (q_rec (by assumption)) rfl (q_codeOf hT hz eR hb (by omega) hL hZ (by omega) hZ1 (by omega) (by omega) hway ?_)
      refine ⟨_, rfl, ?_⟩
      refine s_istore 55 dX8_pack_53 rfl (Nat.le_of_ble_eq_true rfl) rfl ?_
      refine s_aload_n 56 dX8_pack_55 rfl rfl ?_
      refine g_X5_size 59 dX8_pack_56 rfl fl_X8_29 ?_
      rw [up_s]
      generalize hcd : (if prC bs Ln Zn way (p + r) r then (Ln : Int) + 2 + r else (r : Int) + 1) = cd
      have hcr : 1 ≤ cd ∧ cd ≤ 200 := by rw [← hcd]; split <;> omega
      refine s_istore 61 dX8_pack_59 rfl (Nat.le_of_ble_eq_true rfl) rfl ?_
      refine s_aload_n 62 dX8_pack_61 rfl rfl ?_
      refine s_iload 64 dX8_pack_62 rfl rfl ?_
      refine s_V1v 67 dX8_pack_64 rfl km_X5_add ml_X8_40 ds_X5_add (Nat.le_of_ble_eq_true rfl) (q_recR (by assumption)) rfl (r_addK hw (up_s _ _ _) (by omega) (by constructor <;> omega) ?_)
      refine ⟨rfl, ?_⟩
      rw [up_up]
      have eR2 : up R w (out ++ [cd]) z = bs := (up_n hne).trans hR
      refine s_aload_n 68 dX8_pack_67 rfl rfl ?_
      refine s_aload_n 69 dX8_pack_68 rfl rfl ?_
      refine s_iload 71 dX8_pack_69 rfl rfl ?_
      refine s_iload 73 dX8_pack_71 rfl rfl ?_
      refine s_V3v 76 dX8_pack_73 rfl km_X5_addAll ml_X8_44 ds_X5_addAll (Nat.le_of_ble_eq_true rfl) (q_recR (by assumption)) rfl (r_addAllK hw (by omega) hne (up_s _ _ _) eR2 (by omega) (by omega) (by omega) (by rw [List.length_append, List.length_singleton]; omega) (by omega) ?_)
      refine ⟨rfl, ?_⟩
      rw [up_up, show ((p : Int)).toNat = p from rfl, show ((r : Int)).toNat = r from rfl, List.append_assoc, show [cd] ++ (bs.drop p).take r = cd :: (bs.drop p).take r from rfl]
      have hol : (out ++ cd :: (bs.drop p).take r).length = out.length + 1 + r := by rw [List.length_append, List.length_cons, htk]; omega
      generalize hou : out ++ cd :: (bs.drop p).take r = out2 at *
      have eR3 : up R w out2 z = bs := (up_n hne).trans hR
      -- it goes on; it ends
      have more : ∀ (p2 : Nat) (e0 : Int), (e0 = 1 ∨ e0 = 0 ∧ p2 < bs.length) → stl Ln Zn (decide (way = 1)) bs f out2 out.length p2 = o → bs.length < p2 + f → p2 ≤ bs.length → 2 * out2.length ≤ 3 * p2 → p < p2 → V G (AP G F) yX8_pack cX8_pack 12 none (d + 3) (T, N, up R w out2, P, S, cn, un) 131 [some (.ref x), some (.ref z), some (vi way), some (.ref w), some (vi p2), some (vi 1), some (vi blk), some (vi r), some (vi ((p + r : Nat) : Int)), some (vi cd), some (vi out.length), some (vi e0)] [] post := by
        intro p2 e0 he hs2 k1 k2 k3 k4
        have go : V G (AP G F) yX8_pack cX8_pack 12 none (d + 3) (T, N, up R w out2, P, S, cn, un) 145 [some (.ref x), some (.ref z), some (vi way), some (.ref w), some (vi p2), some (vi 1), some (vi blk), some (vi r), some (vi ((p + r : Nat) : Int)), some (vi cd), some (vi out.length), some (vi e0)] [] post := by
          refine s_iconst 146 dX8_pack_145 rfl ?_
          refine s_goto 150 dX8_pack_146 rfl ?_
          refine s_istore 152 dX8_pack_150 rfl (Nat.le_of_ble_eq_true rfl) rfl ?_
          refine s_iload 154 dX8_pack_152 rfl rfl ?_
          refine s_if_ne 157 168 dX8_pack_154 rfl rfl (fun g5 => ?_) (fun g5 => ?_)
          rotate_left
          · omega
          refine s_iinc 171 dX8_pack_168 rfl rfl (Nat.le_of_ble_eq_true rfl) rfl ?_
          refine s_goto 13 dX8_pack_171 rfl ?_
          refine V_kill 7 (V_kill 8 (V_kill 9 (V_kill 10 (V_kill 11 ?_))))
          exact ih out2 out.length p2 (blk + 1) hs2 k1 k2 k3 (by omega)
        refine s_iload 133 dX8_pack_131 rfl rfl ?_
        refine s_if_ne 136 145 dX8_pack_133 rfl rfl (fun g3 => ?_) (fun g3 => ?_)
        · exact go
        refine s_iload 138 dX8_pack_136 rfl rfl ?_
        refine s_aload_n 139 dX8_pack_138 rfl rfl ?_
        refine g_X5_size 142 dX8_pack_139 rfl fl_X8_29 ?_
        rw [eR3]
        refine s_icmp_ge 145 149 dX8_pack_142 rfl rfl (fun g4 => ?_) (fun g4 => ?_)
        · omega
        exact go
      have ends : ∀ (p2 : Nat), bs.length ≤ p2 → p2 ≤ 1000 → (out2, out.length) = o → V G (AP G F) yX8_pack cX8_pack 12 none (d + 3) (T, N, up R w out2, P, S, cn, un) 131 [some (.ref x), some (.ref z), some (vi way), some (.ref w), some (vi p2), some (vi 1), some (vi blk), some (vi r), some (vi ((p + r : Nat) : Int)), some (vi cd), some (vi out.length), some (vi 0)] [] post := by
        intro p2 k1 k2 k3
        refine s_iload 133 dX8_pack_131 rfl rfl ?_
        refine s_if_ne 136 145 dX8_pack_133 rfl rfl (fun g3 => ?_) (fun g3 => ?_)
        · omega
        refine s_iload 138 dX8_pack_136 rfl rfl ?_
        refine s_aload_n 139 dX8_pack_138 rfl rfl ?_
        refine g_X5_size 142 dX8_pack_139 rfl fl_X8_29 ?_
        rw [eR3]
        refine s_icmp_ge 145 149 dX8_pack_142 rfl rfl (fun g4 => ?_) (fun g4 => ?_)
        rotate_left
        · omega
        refine s_iconst 150 dX8_pack_149 rfl ?_
        refine s_istore 152 dX8_pack_150 rfl (Nat.le_of_ble_eq_true rfl) rfl ?_
        refine s_iload 154 dX8_pack_152 rfl rfl ?_
        refine s_if_ne 157 168 dX8_pack_154 rfl rfl (fun g5 => ?_) (fun g5 => ?_)
        · omega
        refine s_iload_n 158 dX8_pack_157 rfl rfl ?_
        refine s_iconst 159 dX8_pack_158 rfl ?_
        refine s_icmp_ne 162 168 dX8_pack_159 rfl rfl (fun g6 => ?_) (fun g6 => ?_)
        · refine s_iinc 171 dX8_pack_168 rfl rfl (Nat.le_of_ble_eq_true rfl) rfl ?_
          refine s_goto 13 dX8_pack_171 rfl ?_
          rw [if_neg (by omega), ← k3] at hp
          exact stop _ _ _ _ _ _ _ _ hp
        refine s_aload_n 163 dX8_pack_162 rfl rfl ?_
        refine s_iload 165 dX8_pack_163 rfl rfl ?_
        refine s_S2v 168 dX8_pack_165 rfl km_X8_reduce rfl ml_X8_48 ds_X8_reduce (Nat.le_of_ble_eq_true rfl) (q_reduce hw (up_s _ _ _) (by omega) (by omega) ?_)
        refine ⟨rfl, ?_⟩
        rw [up_up]
        refine s_iinc 171 dX8_pack_168 rfl rfl (Nat.le_of_ble_eq_true rfl) rfl ?_
        refine s_goto 13 dX8_pack_171 rfl ?_
        rw [if_pos (by omega), ← k3] at hp
        exact stop _ _ _ _ _ _ _ _ hp
      refine s_iload 78 dX8_pack_76 rfl rfl ?_
      refine s_aload_n 79 dX8_pack_78 rfl rfl ?_
      refine g_X8_longest 82 dX8_pack_79 rfl fl_X8_9 (fun hr79 => ?_)
      rw [hL]
      by_cases g3 : prC bs Ln Zn way (p + r) r
      · rw [if_pos g3] at hcd
        rw [stl_P hr (by omega) ⟨by rw [decide_eq_true g3.1], g3.2.1.2, g3.2.2⟩, hcd, hou] at hs
        refine s_icmp_gt 85 98 dX8_pack_82 rfl rfl (fun g4 => ?_) (fun g4 => ?_)
        rotate_left
        · omega
        refine s_iconst 99 dX8_pack_98 rfl ?_
        refine s_istore 101 dX8_pack_99 rfl (Nat.le_of_ble_eq_true rfl) rfl ?_
        refine s_iload 103 dX8_pack_101 rfl rfl ?_
        refine s_iload 105 dX8_pack_103 rfl rfl ?_
        refine s_if_eq 108 112 dX8_pack_105 rfl rfl (fun g5 => ?_) (fun g5 => ?_)
        rotate_left
        · omega
        refine s_iload 114 dX8_pack_112 rfl rfl ?_
        refine s_aload_n 115 dX8_pack_114 rfl rfl ?_
        refine g_X8_longest 118 dX8_pack_115 rfl fl_X8_9 (fun hr115 => ?_)
        rw [hL]
        refine s_iconst 119 dX8_pack_118 rfl ?_
        refine s_iadd 120 dX8_pack_119 rfl ?_
        refine s_icmp_le 123 127 dX8_pack_120 rfl rfl (fun g6 => ?_) (fun g6 => ?_)
        · omega
        refine s_iconst 124 dX8_pack_123 rfl ?_
        refine s_goto 128 dX8_pack_124 rfl ?_
        refine s_iadd 129 dX8_pack_128 rfl ?_
        refine s_istore 131 dX8_pack_129 rfl (Nat.le_of_ble_eq_true rfl) rfl ?_
        rw [show ((p + r : Nat) : Int) + 2 = ((p + r + 2 : Nat) : Int) by omega]
        have g7 := g3.2.2.1
        by_cases g8 : p + r + 2 < bs.length
        · rw [if_pos g8] at hs
          exact more (p + r + 2) 0 (Or.inr ⟨rfl, g8⟩) hs (by omega) (by omega) (by omega) (by omega)
        · rw [if_neg g8] at hs
          exact ends (p + r + 2) (by omega) (by omega) hs
      rw [if_neg g3] at hcd
      by_cases g4 : r = Ln
      · rw [g4] at hr
        rw [g4] at hou hcd
        rw [stl_L hr, show ((Ln : Int) + 1) = cd from hcd, hou] at hs
        refine s_icmp_gt 85 98 dX8_pack_82 rfl rfl (fun g5 => ?_) (fun g5 => ?_)
        rotate_left
        · omega
        refine s_iconst 99 dX8_pack_98 rfl ?_
        refine s_istore 101 dX8_pack_99 rfl (Nat.le_of_ble_eq_true rfl) rfl ?_
        refine s_iload 103 dX8_pack_101 rfl rfl ?_
        refine s_iload 105 dX8_pack_103 rfl rfl ?_
        refine s_if_eq 108 112 dX8_pack_105 rfl rfl (fun g6 => ?_) (fun g6 => ?_)
        rotate_left
        · omega
        refine s_iload 114 dX8_pack_112 rfl rfl ?_
        refine s_aload_n 115 dX8_pack_114 rfl rfl ?_
        refine g_X8_longest 118 dX8_pack_115 rfl fl_X8_9 (fun hr115 => ?_)
        rw [hL]
        refine s_iconst 119 dX8_pack_118 rfl ?_
        refine s_iadd 120 dX8_pack_119 rfl ?_
        refine s_icmp_le 123 127 dX8_pack_120 rfl rfl (fun g7 => ?_) (fun g7 => ?_)
        rotate_left
        · omega
        refine s_iconst 128 dX8_pack_127 rfl ?_
        refine s_iadd 129 dX8_pack_128 rfl ?_
        refine s_istore 131 dX8_pack_129 rfl (Nat.le_of_ble_eq_true rfl) rfl ?_
        rw [show ((p + r : Nat) : Int) + 0 = ((p + r : Nat) : Int) by omega]
        by_cases g8 : p + Ln < bs.length
        · rw [if_pos g8] at hs
          exact more (p + r) 0 (Or.inr ⟨rfl, by omega⟩) (by rw [g4]; exact hs) (by omega) (by omega) (by omega) (by omega)
        · rw [if_neg g8] at hs
          exact ends (p + r) (by omega) (by omega) hs
      · have h2n : ¬ (decide (way = 1) = true ∧ r < Zn ∧ p + r + 1 < bs.length ∧ bs.getD (p + r) 0 = 0 ∧ bs.getD (p + r + 1) 0 = 0) := fun h => g3 ⟨of_decide_eq_true h.1, ⟨by omega, h.2.1⟩, h.2.2⟩
        rw [stl_0 hr g4 h2n, hcd, hou] at hs
        refine s_icmp_gt 85 98 dX8_pack_82 rfl rfl (fun g5 => ?_) (fun g5 => ?_)
        · omega
        refine s_iload 87 dX8_pack_85 rfl rfl ?_
        refine s_aload_n 88 dX8_pack_87 rfl rfl ?_
        refine g_X5_size 91 dX8_pack_88 rfl fl_X8_29 ?_
        rw [eR3]
        refine s_icmp_ge 94 98 dX8_pack_91 rfl rfl (fun g6 => ?_) (fun g6 => ?_)
        · refine s_iconst 99 dX8_pack_98 rfl ?_
          refine s_istore 101 dX8_pack_99 rfl (Nat.le_of_ble_eq_true rfl) rfl ?_
          refine s_iload 103 dX8_pack_101 rfl rfl ?_
          refine s_iload 105 dX8_pack_103 rfl rfl ?_
          refine s_if_eq 108 112 dX8_pack_105 rfl rfl (fun g7 => ?_) (fun g7 => ?_)
          rotate_left
          · omega
          refine s_iload 114 dX8_pack_112 rfl rfl ?_
          refine s_aload_n 115 dX8_pack_114 rfl rfl ?_
          refine g_X8_longest 118 dX8_pack_115 rfl fl_X8_9 (fun hr115 => ?_)
          rw [hL]
          refine s_iconst 119 dX8_pack_118 rfl ?_
          refine s_iadd 120 dX8_pack_119 rfl ?_
          refine s_icmp_le 123 127 dX8_pack_120 rfl rfl (fun g8 => ?_) (fun g8 => ?_)
          rotate_left
          · omega
          refine s_iconst 128 dX8_pack_127 rfl ?_
          refine s_iadd 129 dX8_pack_128 rfl ?_
          refine s_istore 131 dX8_pack_129 rfl (Nat.le_of_ble_eq_true rfl) rfl ?_
          rw [show ((p + r : Nat) : Int) + 0 = ((p + r : Nat) : Int) by omega]
          rw [if_neg (by omega)] at hs
          exact ends (p + r) (by omega) (by omega) hs
        · refine s_iconst 95 dX8_pack_94 rfl ?_
          refine s_goto 99 dX8_pack_95 rfl ?_
          refine s_istore 101 dX8_pack_99 rfl (Nat.le_of_ble_eq_true rfl) rfl ?_
          refine s_iload 103 dX8_pack_101 rfl rfl ?_
          refine s_iload 105 dX8_pack_103 rfl rfl ?_
          refine s_if_eq 108 112 dX8_pack_105 rfl rfl (fun g7 => ?_) (fun g7 => ?_)
          · omega
          refine s_iconst 109 dX8_pack_108 rfl ?_
          refine s_goto 128 dX8_pack_109 rfl ?_
          refine s_iadd 129 dX8_pack_128 rfl ?_
          refine s_istore 131 dX8_pack_129 rfl (Nat.le_of_ble_eq_true rfl) rfl ?_
          rw [show ((p + r : Nat) : Int) + 1 = ((p + r + 1 : Nat) : Int) by omega]
          rw [if_pos (by omega)] at hs
          exact more (p + r + 1) 1 (Or.inl rfl) hs (by omega) (by omega) (by omega) (by omega)
  exact key (bs.length + 1) [] 0 0 0 ho (by omega) (by omega) (by simp) (by omega)
end STUFF
