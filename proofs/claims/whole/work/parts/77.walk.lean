/-! ===== Walk, Rules ===== -/
theorem frL_acc {w : List Int} : ∀ (m k b : Nat) (acc : List (Nat × Nat)), frL w m k b acc = acc ++ frL w m k b [] := by
  intro m
  induction m with
  | zero => intro k b acc; show acc = acc ++ []; rw [List.append_nil]
  | succ m ih =>
    intro k b acc
    rw [frL, frL]
    split
    · split
      · rw [ih _ _ (acc ++ [(b, k)]), ih _ _ ([] ++ [(b, k)]), List.nil_append, List.append_assoc]
      · exact ih _ _ _
    · exact ih _ _ _
/-- the frames from a place on -/
def frN (w : List Int) (k : Nat) : List (Nat × Nat) := frL w (w.length - k) k k []
def frB2 (w : List Int) (k b : Nat) : List (Nat × Nat) := frL w (w.length - k) k b []
theorem frB2_no {w : List Int} {k b : Nat} (h : k < w.length) (h0 : ¬ w.getD k 0 = 0) : frB2 w k b = frB2 w (k + 1) b := by
  unfold frB2
  obtain ⟨m, hm⟩ : ∃ m, w.length - k = m + 1 := ⟨w.length - k - 1, by omega⟩
  rw [hm, frL, if_neg h0, show w.length - (k + 1) = m by omega]
theorem frB2_yes {w : List Int} {k b : Nat} (h : k < w.length) (h0 : w.getD k 0 = 0) (hb : b < k) : frB2 w k b = (b, k) :: frN w (k + 1) := by
  unfold frB2 frN
  obtain ⟨m, hm⟩ : ∃ m, w.length - k = m + 1 := ⟨w.length - k - 1, by omega⟩
  rw [hm, frL, if_pos h0, if_pos hb, show w.length - (k + 1) = m by omega, frL_acc]
  rfl
theorem frB2_mt {w : List Int} {k b : Nat} (h : k < w.length) (h0 : w.getD k 0 = 0) (hb : ¬ b < k) : frB2 w k b = frB2 w (k + 1) (k + 1) := by
  unfold frB2
  obtain ⟨m, hm⟩ : ∃ m, w.length - k = m + 1 := ⟨w.length - k - 1, by omega⟩
  rw [hm, frL, if_pos h0, if_neg hb, show w.length - (k + 1) = m by omega]
theorem frB2_end {w : List Int} {k b : Nat} (h : w.length ≤ k) : frB2 w k b = [] := by
  unfold frB2
  rw [show w.length - k = 0 by omega]
  rfl
def RuS (T : Nat → Nat) (x : Nat) : Prop := T x = 7 ∧ T (x + 1) = 9 ∧ T (x + 2) = 20
def RuP (N : Nat → Nat → Int) (x : Nat) (ru : RU) : Prop := N x 2 = ru 0 ∧ N (x + 1) 0 = ru 1 ∧ N (x + 1) 1 = ru 2 ∧ N x 3 = ru 3 ∧ N x 4 = ru 4 ∧ N x 5 = ru 5
theorem RuP.fr {N N' : Nat → Nat → Int} {x lo hi : Nat} {ru : RU} (h : RuP N x ru) (hf : frO lo hi N N') (hx : x + 3 ≤ lo ∨ hi ≤ x) : RuP N' x ru := by
  obtain ⟨a, b, c, e, f, g⟩ := h
  have h1 := hf x (by omega)
  have h2 := hf (x + 1) (by omega)
  exact ⟨by rw [h1]; exact a, by rw [h2]; exact b, by rw [h2]; exact c, by rw [h1]; exact e, by rw [h1]; exact f, by rw [h1]; exact g⟩
section WALK
variable {G : GT} {F : HS} {d : Nat} {T : Nat → Nat} {N : Nat → Nat → Int} {R : Nat → List Int} {P : Nat → Nat → Option Nat} {S : Nat → Int64} {cn un : Nat} {post : Option Value → PT → Prop}
theorem q_begin {x : Nat} (hT : T x = 11) (hp : ∀ N', frO x (x + 1) N N' → N' x 2 = 0 → post none (T, N', R, P, S, cn, un)) : Cm G (AP G F) yX10_begin cX10_begin 1 none d [.ref x] (T, N, R, P, S, cn, un) post := by
  refine Cm_intro (L := [some (.ref x)]) (by decide +kernel) (Nat.le_of_ble_eq_true rfl) rfl ?_
  refine s_aload_n 1 dX10_begin_0 rfl rfl ?_
  refine s_iconst 2 dX10_begin_1 rfl ?_
  refine p_X10_from 5 dX10_begin_2 rfl fl_X10_7 ?_
  refine s_aload_n 6 dX10_begin_5 rfl rfl ?_
  refine s_iconst 7 dX10_begin_6 rfl ?_
  refine p_X10_length 10 dX10_begin_7 rfl fl_X10_13 ?_
  refine s_aload_n 11 dX10_begin_10 rfl rfl ?_
  refine s_iconst 12 dX10_begin_11 rfl ?_
  refine p_X10_next 15 dX10_begin_12 rfl fl_X10_16 ?_
  refine s_return rfl dX10_begin_15 ?_
  exact hp _ (((frO.rf.up (by omega)).up (by omega)).up (by omega)) (by rw [up_s, up_s])
theorem q_step {x z lz nx : Nat} {w : List Int} (hT : T x = 11) (hz : T z = 100 + lz) (hR : R z = w) (hb : byt w) (hlen : w.length ≤ 1000) (hn : N x 2 = nx) (hnl : nx ≤ w.length) (hp1 : ∀ (N' : Nat → Nat → Int) (b k : Nat), frO x (x + 1) N N' → frN w nx = (b, k) :: frN w (k + 1) → b < k → k < w.length → N' x 0 = b → N' x 1 = (k : Int) - b → N' x 2 = ((k + 1 : Nat) : Int) → post (some (vb true)) (T, N', R, P, S, cn, un)) (hp0 : ∀ (N' : Nat → Nat → Int), frO x (x + 1) N N' → frN w nx = [] → N' x 2 = w.length → post (some (vb false)) (T, N', R, P, S, cn, un)) : Cm G (AP G F) yX10_step cX10_step 4 (some .boolean) (d + 2) [.ref x, .ref z] (T, N, R, P, S, cn, un) post := by
  refine Cm_intro (L := [some (.ref x), some (.ref z), none, none]) (by decide +kernel) (Nat.le_of_ble_eq_true rfl) rfl ?_
  refine s_aload_n 1 dX10_step_0 rfl rfl ?_
  refine g_X10_next 4 dX10_step_1 rfl fl_X10_16 (fun hr1 => ?_)
  rw [hn]
  refine s_istore_n 5 dX10_step_4 rfl (Nat.le_of_ble_eq_true rfl) rfl ?_
  refine s_iload_n 6 dX10_step_5 rfl rfl ?_
  refine s_istore_n 7 dX10_step_6 rfl (Nat.le_of_ble_eq_true rfl) rfl ?_
  have key : ∀ (m i b : Nat) (N2 : Nat → Nat → Int), i + m = w.length → b ≤ i → frO x (x + 1) N N2 → frN w nx = frB2 w i b → V G (AP G F) yX10_step cX10_step 4 (some .boolean) (d + 2) (T, N2, R, P, S, cn, un) 7 [some (.ref x), some (.ref z), some (vi b), some (vi i)] [] post := by
    intro m
    induction m with
    | zero =>
      intro i b N2 hi hbi f1 f2
      refine s_iload_n 8 dX10_step_7 rfl rfl ?_
      refine s_aload_n 9 dX10_step_8 rfl rfl ?_
      refine g_X5_size 12 dX10_step_9 rfl fl_X10_19 ?_
      rw [hR]
      refine s_icmp_ge 15 59 dX10_step_12 rfl rfl (fun g => ?_) (fun g => ?_)
      rotate_left
      · omega
      refine s_aload_n 60 dX10_step_59 rfl rfl ?_
      refine s_aload_n 61 dX10_step_60 rfl rfl ?_
      refine g_X5_size 64 dX10_step_61 rfl fl_X10_19 ?_
      rw [hR]
      refine p_X10_next 67 dX10_step_64 rfl fl_X10_16 ?_
      refine s_iconst 68 dX10_step_67 rfl ?_
      first | refine s_zreturn rfl dX10_step_68 ?_ | refine s_zreturn1 rfl dX10_step_68 ?_ | refine s_zreturn0 rfl dX10_step_68 ?_
      exact hp0 _ (f1.up (by omega)) (by rw [f2, frB2_end (by omega)]) (by rw [up_s, up_s])
    | succ m ih =>
      intro i b N2 hi hbi f1 f2
      refine s_iload_n 8 dX10_step_7 rfl rfl ?_
      refine s_aload_n 9 dX10_step_8 rfl rfl ?_
      refine g_X5_size 12 dX10_step_9 rfl fl_X10_19 ?_
      rw [hR]
      refine s_icmp_ge 15 59 dX10_step_12 rfl rfl (fun g => ?_) (fun g => ?_)
      · omega
      refine s_aload_n 16 dX10_step_15 rfl rfl ?_
      refine s_iload_n 17 dX10_step_16 rfl rfl ?_
      refine s_V1i 20 dX10_step_17 rfl km_X5_at ml_X10_24 ds_X5_at (Nat.le_of_ble_eq_true rfl) (q_recR (by assumption)) rfl (r_atK hz hR (by constructor <;> omega) (fun hr => ?_))
      refine ⟨_, rfl, ?_⟩
      rw [atF_in (by omega)] at hr ⊢
      refine s_if_ne 23 53 dX10_step_20 rfl rfl (fun g2 => ?_) (fun g2 => ?_)
      · refine s_iinc 56 dX10_step_53 rfl rfl (Nat.le_of_ble_eq_true rfl) rfl ?_
        refine s_goto 7 dX10_step_56 rfl ?_
        exact ih (i + 1) b N2 (by omega) (by omega) f1 (by rw [f2, frB2_no (by omega) g2])
      refine s_aload_n 24 dX10_step_23 rfl rfl ?_
      refine s_iload_n 25 dX10_step_24 rfl rfl ?_
      refine s_iconst 26 dX10_step_25 rfl ?_
      refine s_iadd 27 dX10_step_26 rfl ?_
      refine p_X10_next 30 dX10_step_27 rfl fl_X10_16 ?_
      refine s_iload_n 31 dX10_step_30 rfl rfl ?_
      refine s_iload_n 32 dX10_step_31 rfl rfl ?_
      refine s_icmp_le 35 49 dX10_step_32 rfl rfl (fun g3 => ?_) (fun g3 => ?_)
      · refine s_iload_n 50 dX10_step_49 rfl rfl ?_
        refine s_iconst 51 dX10_step_50 rfl ?_
        refine s_iadd 52 dX10_step_51 rfl ?_
        refine s_istore_n 53 dX10_step_52 rfl (Nat.le_of_ble_eq_true rfl) rfl ?_
        refine s_iinc 56 dX10_step_53 rfl rfl (Nat.le_of_ble_eq_true rfl) rfl ?_
        refine s_goto 7 dX10_step_56 rfl ?_
        exact ih (i + 1) (i + 1) _ (by omega) (by omega) (f1.up (by omega)) (by rw [f2, frB2_mt (by omega) g2 (by omega)])
      · refine s_aload_n 36 dX10_step_35 rfl rfl ?_
        refine s_iload_n 37 dX10_step_36 rfl rfl ?_
        refine p_X10_from 40 dX10_step_37 rfl fl_X10_7 ?_
        refine s_aload_n 41 dX10_step_40 rfl rfl ?_
        refine s_iload_n 42 dX10_step_41 rfl rfl ?_
        refine s_iload_n 43 dX10_step_42 rfl rfl ?_
        refine s_isub 44 dX10_step_43 rfl ?_
        refine p_X10_length 47 dX10_step_44 rfl fl_X10_13 ?_
        refine s_iconst 48 dX10_step_47 rfl ?_
        first | refine s_zreturn rfl dX10_step_48 ?_ | refine s_zreturn1 rfl dX10_step_48 ?_ | refine s_zreturn0 rfl dX10_step_48 ?_
        refine hp1 _ b i (((f1.up (by omega)).up (by omega)).up (by omega)) (by rw [f2, frB2_yes (by omega) g2 (by omega)]) (by omega) (by omega) ?_ ?_ ?_
        · rw [up_s, up_n (by decide), up_s, up_s]
        · rw [up_s, up_s]
        · rw [up_s, up_n (by decide), up_s, up_n (by decide), up_s, up_s]
          omega
  exact key (w.length - nx) nx nx N (by omega) (by omega) frO.rf rfl
theorem frs_N (w : List Int) : frs w = frN w 0 := by
  unfold frs frN
  rw [Nat.sub_zero]
theorem q_find {x z lz : Nat} {w : List Int} {k : Int} (hT : T x = 11) (hz : T z = 100 + lz) (hR : R z = w) (hb : byt w) (hlen : w.length ≤ 1000) (hk : rg k) (hp1 : ∀ (N' : Nat → Nat → Int), frO x (x + 1) N N' → 0 ≤ k → k < (frs w).length → N' x 0 = ((frs w).getD k.toNat (0, 0)).1 → N' x 1 = (((frs w).getD k.toNat (0, 0)).2 : Int) - ((frs w).getD k.toNat (0, 0)).1 → post (some (vb true)) (T, N', R, P, S, cn, un)) (hp0 : ∀ (N' : Nat → Nat → Int), frO x (x + 1) N N' → ¬ (0 ≤ k ∧ k < (frs w).length) → post (some (vb false)) (T, N', R, P, S, cn, un)) : Cm G (AP G F) yX10_find cX10_find 5 (some .boolean) (d + 3) [.ref x, .ref z, vi k] (T, N, R, P, S, cn, un) post := by
  have hfl := (frs_ok w).1
  refine Cm_intro (L := [some (.ref x), some (.ref z), some (vi k), none, none]) (by decide +kernel) (Nat.le_of_ble_eq_true rfl) rfl ?_
  refine s_iload_n 1 dX10_find_0 rfl rfl ?_
  refine s_if_lt 4 12 dX10_find_1 rfl rfl (fun g1 => ?_) (fun g1 => ?_)
  · refine s_iconst 13 dX10_find_12 rfl ?_
    first | refine s_zreturn rfl dX10_find_13 ?_ | refine s_zreturn1 rfl dX10_find_13 ?_ | refine s_zreturn0 rfl dX10_find_13 ?_
    exact hp0 N frO.rf (fun h => by omega)
  refine s_iload_n 5 dX10_find_4 rfl rfl ?_
  refine s_aload_n 6 dX10_find_5 rfl rfl ?_
  refine g_X5_size 9 dX10_find_6 rfl fl_X10_19 ?_
  rw [hR]
  refine s_icmp_lt 12 14 dX10_find_9 rfl rfl (fun g2 => ?_) (fun g2 => ?_)
  rotate_left
  · refine s_iconst 13 dX10_find_12 rfl ?_
    first | refine s_zreturn rfl dX10_find_13 ?_ | refine s_zreturn1 rfl dX10_find_13 ?_ | refine s_zreturn0 rfl dX10_find_13 ?_
    exact hp0 N frO.rf (fun h => by omega)
  obtain ⟨k0, rfl⟩ := Int.eq_ofNat_of_zero_le (show 0 ≤ k by omega)
  refine s_aload_n 15 dX10_find_14 rfl rfl ?_
  refine s_V0v 18 dX10_find_15 rfl km_X10_begin ml_X10_28 ds_X10_begin (Nat.le_of_ble_eq_true rfl) (q_rec (by assumption)) rfl (q_begin hT (fun N1 f1 f2 => ?_))
  refine ⟨rfl, ?_⟩
  refine s_iconst 19 dX10_find_18 rfl ?_
  refine s_istore_nb (z := true) 20 dX10_find_19 rfl (Nat.le_of_ble_eq_true rfl) rfl ?_
  refine s_iconst 21 dX10_find_20 rfl ?_
  refine s_istore 23 dX10_find_21 rfl (Nat.le_of_ble_eq_true rfl) rfl ?_
  have key : ∀ (m seen nx : Nat) (N2 : Nat → Nat → Int), seen + m = k0 + 1 → frO x (x + 1) N N2 → N2 x 2 = nx → nx ≤ w.length → (frs w).drop seen = frN w nx → (0 < seen → seen ≤ (frs w).length ∧ N2 x 0 = ((frs w).getD (seen - 1) (0, 0)).1 ∧ N2 x 1 = (((frs w).getD (seen - 1) (0, 0)).2 : Int) - ((frs w).getD (seen - 1) (0, 0)).1) → V G (AP G F) yX10_find cX10_find 5 (some .boolean) (d + 3) (T, N2, R, P, S, cn, un) 23 [some (.ref x), some (.ref z), some (vi k0), some (vb true), some (vi seen)] [] post := by
    intro m
    induction m with
    | zero =>
      intro seen nx N2 hs h1 h2 h3 h4 h5
      refine s_iload_nb 24 dX10_find_23 rfl rfl ?_
      refine s_if_eqb 27 45 dX10_find_24 rfl rfl (fun g3 => ?_) (fun g3 => ?_)
      · exact absurd g3 (by decide)
      refine s_iload 29 dX10_find_27 rfl rfl ?_
      refine s_iload_n 30 dX10_find_29 rfl rfl ?_
      refine s_icmp_gt 33 45 dX10_find_30 rfl rfl (fun g4 => ?_) (fun g4 => ?_)
      rotate_left
      · omega
      refine s_iload_nb 46 dX10_find_45 rfl rfl ?_
      refine s_zreturn rfl dX10_find_46 ?_
      obtain ⟨h6, h7, h8⟩ := h5 (by omega)
      rw [show seen - 1 = k0 by omega] at h7 h8
      exact hp1 N2 h1 (by omega) (by omega) h7 h8
    | succ m ih =>
      intro seen nx N2 hs h1 h2 h3 h4 h5
      refine s_iload_nb 24 dX10_find_23 rfl rfl ?_
      refine s_if_eqb 27 45 dX10_find_24 rfl rfl (fun g3 => ?_) (fun g3 => ?_)
      · exact absurd g3 (by decide)
      refine s_iload 29 dX10_find_27 rfl rfl ?_
      refine s_iload_n 30 dX10_find_29 rfl rfl ?_
      refine s_icmp_gt 33 45 dX10_find_30 rfl rfl (fun g4 => ?_) (fun g4 => ?_)
      · omega
      refine s_aload_n 34 dX10_find_33 rfl rfl ?_
      refine s_aload_n 35 dX10_find_34 rfl rfl ?_
      refine s_V1b 38 dX10_find_35 rfl km_X10_step ml_X10_31 ds_X10_step (Nat.le_of_ble_eq_true rfl) (q_rec (by assumption)) rfl (q_step hT hz hR hb hlen h2 h3 (fun N3 b j k1 k2 k3 k4 k5 k6 k7 => ?_) (fun N3 k1 k2 k3 => ?_))
      refine ⟨_, rfl, ?_⟩
      · refine s_istore_nb 39 dX10_find_38 rfl (Nat.le_of_ble_eq_true rfl) rfl ?_
        refine s_iinc 42 dX10_find_39 rfl rfl (Nat.le_of_ble_eq_true rfl) rfl ?_
        refine s_goto 23 dX10_find_42 rfl ?_
        have hd : (frs w).drop seen = (b, j) :: frN w (j + 1) := h4.trans k2
        have hlt : seen < (frs w).length := by
          rcases Nat.lt_or_ge seen (frs w).length with h | h
          · exact h
          · rw [List.drop_eq_nil_of_le h] at hd; cases hd
        rw [List.drop_eq_getElem_cons hlt] at hd
        injection hd with e1 e2
        have e3 : (frs w).getD seen (0, 0) = (b, j) := by
          rw [List.getD_eq_getElem?_getD, List.getElem?_eq_getElem hlt, e1]
          rfl
        refine ih (seen + 1) (j + 1) N3 (by omega) (h1.trans k1 (by omega)) k7 (by omega) e2 (fun _ => ⟨hlt, ?_, ?_⟩)
        · rw [show seen + 1 - 1 = seen by omega, e3]; exact k5
        · rw [show seen + 1 - 1 = seen by omega, e3]; exact k6
      · refine ⟨_, rfl, ?_⟩
        refine s_istore_nb 39 dX10_find_38 rfl (Nat.le_of_ble_eq_true rfl) rfl ?_
        refine s_iinc 42 dX10_find_39 rfl rfl (Nat.le_of_ble_eq_true rfl) rfl ?_
        refine s_goto 23 dX10_find_42 rfl ?_
        refine s_iload_nb 24 dX10_find_23 rfl rfl ?_
        refine s_if_eqb 27 45 dX10_find_24 rfl rfl (fun g5 => ?_) (fun g5 => ?_)
        rotate_left
        · exact absurd g5 (by decide)
        refine s_iload_nb 46 dX10_find_45 rfl rfl ?_
        refine s_zreturn rfl dX10_find_46 ?_
        refine hp0 N3 (h1.trans k1 (by omega)) (fun h => ?_)
        rw [k2] at h4
        have := List.drop_eq_nil_iff.mp h4
        omega
  refine key (k0 + 1) 0 0 N1 (by omega) f1 f2 (Nat.zero_le _) ?_ (fun h => by omega)
  rw [List.drop_zero, frs_N]
theorem q_forget {x : Nat} (hS : RuS T x) (hp : ∀ N', frO x (x + 2) N N' → RuP N' x ru0 → post none (T, N', R, P, S, cn, un)) : Cm G (AP G F) yX6_forget cX6_forget 1 none d [.ref x] (T, N, R, P, S, cn, un) post := by
  obtain ⟨t0, t1, t2⟩ := hS
  refine Cm_intro (L := [some (.ref x)]) (by decide +kernel) (Nat.le_of_ble_eq_true rfl) rfl ?_
  refine s_aload_n 1 dX6_forget_0 rfl rfl ?_
  refine g_X6_stuffing 4 dX6_forget_1 rfl fl_X6_12 ?_
  refine s_bipush 6 dX6_forget_4 rfl (k := ?_)
  refine p_X8_longest 9 dX6_forget_6 rfl fl_X6_32 ?_
  refine s_aload_n 10 dX6_forget_9 rfl rfl ?_
  refine g_X6_stuffing 13 dX6_forget_10 rfl fl_X6_12 ?_
  refine s_bipush 15 dX6_forget_13 rfl (k := ?_)
  refine p_X8_pairs 18 dX6_forget_15 rfl fl_X6_35 ?_
  refine s_aload_n 19 dX6_forget_18 rfl rfl ?_
  refine s_iconst 20 dX6_forget_19 rfl ?_
  refine p_X6_way 23 dX6_forget_20 rfl fl_X6_22 ?_
  refine s_aload_n 24 dX6_forget_23 rfl rfl ?_
  refine s_iconst 25 dX6_forget_24 rfl ?_
  refine p_X6_check 28 dX6_forget_25 rfl fl_X6_26 ?_
  refine s_aload_n 29 dX6_forget_28 rfl rfl ?_
  refine s_bipush 31 dX6_forget_29 rfl (k := ?_)
  refine p_X6_size 34 dX6_forget_31 rfl fl_X6_29 ?_
  refine s_aload_n 35 dX6_forget_34 rfl rfl ?_
  refine s_iconst 36 dX6_forget_35 rfl ?_
  refine p_X6_ports 39 dX6_forget_36 rfl fl_X6_38 ?_
  refine s_return rfl dX6_forget_39 ?_
  refine hp _ ((((((frO.rf.up (by omega)).up (by omega)).up (by omega)).up (by omega)).up (by omega)).up (by omega)) ⟨?_, ?_, ?_, ?_, ?_, ?_⟩
  · rw [up_s, up_n (by decide), up_s, up_n (by decide), up_s, up_n (by decide), up_s, up_s]; rfl
  · rw [up_n (by omega), up_n (by omega), up_n (by omega), up_n (by omega), up_s, up_n (by decide), up_s, up_s]; rfl
  · rw [up_n (by omega), up_n (by omega), up_n (by omega), up_n (by omega), up_s, up_s]; rfl
  · rw [up_s, up_n (by decide), up_s, up_n (by decide), up_s, up_s]; rfl
  · rw [up_s, up_n (by decide), up_s, up_s]; rfl
  · rw [up_s, up_s]; rfl
theorem q_rcopy {x z : Nat} {ru : RU} (hS : RuS T x) (hS2 : RuS T z) (hne : z + 3 ≤ x ∨ x + 3 ≤ z) (hru : RuP N z ru) (hp : ∀ N', frO x (x + 3) N N' → RuP N' x ru → (∀ k, k < 4 → N' (x + 2) k = N (z + 2) k) → post none (T, N', R, P, S, cn, un)) : Cm G (AP G F) yX6_copyFrom cX6_copyFrom 2 none (d + 1) [.ref x, .ref z] (T, N, R, P, S, cn, un) post := by
  obtain ⟨t0, t1, t2⟩ := hS
  obtain ⟨z0, z1, z2⟩ := hS2
  obtain ⟨r0, r1, r2, r3, r4, r5⟩ := hru
  refine Cm_intro (L := [some (.ref x), some (.ref z)]) (by decide +kernel) (Nat.le_of_ble_eq_true rfl) rfl ?_
  refine s_aload_n 1 dX6_copyFrom_0 rfl rfl ?_
  refine g_X6_stuffing 4 dX6_copyFrom_1 rfl fl_X6_12 ?_
  refine s_aload_n 5 dX6_copyFrom_4 rfl rfl ?_
  refine g_X6_stuffing 8 dX6_copyFrom_5 rfl fl_X6_12 ?_
  refine g_X8_longest 11 dX6_copyFrom_8 rfl fl_X6_32 (fun hr8 => ?_)
  refine p_X8_longest 14 dX6_copyFrom_11 rfl fl_X6_32 ?_
  refine s_aload_n 15 dX6_copyFrom_14 rfl rfl ?_
  refine g_X6_stuffing 18 dX6_copyFrom_15 rfl fl_X6_12 ?_
  refine s_aload_n 19 dX6_copyFrom_18 rfl rfl ?_
  refine g_X6_stuffing 22 dX6_copyFrom_19 rfl fl_X6_12 ?_
  refine g_X8_pairs 25 dX6_copyFrom_22 rfl fl_X6_35 (fun hr22 => ?_)
  refine p_X8_pairs 28 dX6_copyFrom_25 rfl fl_X6_35 ?_
  refine s_aload_n 29 dX6_copyFrom_28 rfl rfl ?_
  refine s_aload_n 30 dX6_copyFrom_29 rfl rfl ?_
  refine g_X6_way 33 dX6_copyFrom_30 rfl fl_X6_22 (fun hr30 => ?_)
  refine p_X6_way 36 dX6_copyFrom_33 rfl fl_X6_22 ?_
  refine s_aload_n 37 dX6_copyFrom_36 rfl rfl ?_
  refine s_aload_n 38 dX6_copyFrom_37 rfl rfl ?_
  refine g_X6_check 41 dX6_copyFrom_38 rfl fl_X6_26 (fun hr38 => ?_)
  refine p_X6_check 44 dX6_copyFrom_41 rfl fl_X6_26 ?_
  refine s_aload_n 45 dX6_copyFrom_44 rfl rfl ?_
  refine s_aload_n 46 dX6_copyFrom_45 rfl rfl ?_
  refine g_X6_size 49 dX6_copyFrom_46 rfl fl_X6_29 (fun hr46 => ?_)
  refine p_X6_size 52 dX6_copyFrom_49 rfl fl_X6_29 ?_
  refine s_aload_n 53 dX6_copyFrom_52 rfl rfl ?_
  refine s_aload_n 54 dX6_copyFrom_53 rfl rfl ?_
  refine g_X6_ports 57 dX6_copyFrom_54 rfl fl_X6_38 (fun hr54 => ?_)
  refine p_X6_ports 60 dX6_copyFrom_57 rfl fl_X6_38 ?_
  refine s_aload_n 61 dX6_copyFrom_60 rfl rfl ?_
  refine g_X6_credits 64 dX6_copyFrom_61 rfl fl_X6_18 ?_
  refine s_iconst 65 dX6_copyFrom_64 rfl ?_
  refine s_aload_n 66 dX6_copyFrom_65 rfl rfl ?_
  refine g_X6_credits 69 dX6_copyFrom_66 rfl fl_X6_18 ?_
  refine s_iconst 70 dX6_copyFrom_69 rfl ?_
  refine s_iconst 71 dX6_copyFrom_70 rfl ?_
  refine q_copy4 74 dX6_copyFrom_71 rfl ml_X6_41 t2 z2 (Nat.le_of_ble_eq_true rfl) (fun N2 f1 f2 => ?_)
  refine s_return rfl dX6_copyFrom_74 ?_
  have hf : frO x (x + 3) N N2 := fun y hy => by
    rw [f1 y (by omega)]
    exact ((((((frO.rf.up (lo := x) (hi := x + 3) (by omega)).up (by omega)).up (by omega)).up (by omega)).up (by omega)).up (by omega)) y hy
  refine hp N2 hf ⟨?_, ?_, ?_, ?_, ?_, ?_⟩ (fun k hk => ?_)
  · rw [f1 x (by omega), up_s, up_n (by decide), up_s, up_n (by decide), up_s, up_n (by decide), up_s, up_s, up_n (by omega), up_n (by omega)]
    exact r0
  · rw [f1 (x + 1) (by omega), up_n (by omega), up_n (by omega), up_n (by omega), up_n (by omega), up_s, up_n (by decide), up_s, up_s]
    exact r1
  · rw [f1 (x + 1) (by omega), up_n (by omega), up_n (by omega), up_n (by omega), up_n (by omega), up_s, up_s, up_n (by omega)]
    exact r2
  · rw [f1 x (by omega), up_s, up_n (by decide), up_s, up_n (by decide), up_s, up_s, up_n (by omega), up_n (by omega), up_n (by omega)]
    exact r3
  · rw [f1 x (by omega), up_s, up_n (by decide), up_s, up_s, up_n (by omega), up_n (by omega), up_n (by omega), up_n (by omega)]
    exact r4
  · rw [f1 x (by omega), up_s, up_s, up_n (by omega), up_n (by omega), up_n (by omega), up_n (by omega), up_n (by omega)]
    exact r5
  · rw [f2 k hk, up_n (by omega), up_n (by omega), up_n (by omega), up_n (by omega), up_n (by omega), up_n (by omega)]
theorem q_addPort {x : Nat} {v : Int} (hS : RuS T x) (hc : 0 ≤ N x 5 ∧ N x 5 ≤ 4) (hv : rg v) (hp : post none (T, (if N x 5 < 4 then up (up N (x + 2) (up (N (x + 2)) (N x 5).toNat v)) x (up (N x) 5 (N x 5 + 1)) else N), R, P, S, cn, un)) : Cm G (AP G F) yX6_addPort cX6_addPort 2 none d [.ref x, vi v] (T, N, R, P, S, cn, un) post := by
  obtain ⟨t0, t1, t2⟩ := hS
  refine Cm_intro (L := [some (.ref x), some (vi v)]) (by decide +kernel) (Nat.le_of_ble_eq_true rfl) rfl ?_
  refine s_aload_n 1 dX6_addPort_0 rfl rfl ?_
  refine g_X6_ports 4 dX6_addPort_1 rfl fl_X6_38 (fun hr1 => ?_)
  refine s_if_lt 7 35 dX6_addPort_4 rfl rfl (fun g1 => ?_) (fun g1 => ?_)
  · omega
  refine s_aload_n 8 dX6_addPort_7 rfl rfl ?_
  refine g_X6_ports 11 dX6_addPort_8 rfl fl_X6_38 (fun hr8 => ?_)
  refine s_iconst 12 dX6_addPort_11 rfl ?_
  refine s_icmp_ge 15 35 dX6_addPort_12 rfl rfl (fun g2 => ?_) (fun g2 => ?_)
  · refine s_return rfl dX6_addPort_35 ?_
    rw [if_neg (by omega)] at hp
    exact hp
  refine s_aload_n 16 dX6_addPort_15 rfl rfl ?_
  refine g_X6_credits 19 dX6_addPort_16 rfl fl_X6_18 ?_
  refine s_aload_n 20 dX6_addPort_19 rfl rfl ?_
  refine g_X6_ports 23 dX6_addPort_20 rfl fl_X6_38 (fun hr20 => ?_)
  refine s_iload_n 24 dX6_addPort_23 rfl rfl ?_
  refine q_ast 25 dX6_addPort_24 rfl ?_
  refine s_aload_n 26 dX6_addPort_25 rfl rfl ?_
  refine s_dup (q := 27) (hd := dX6_addPort_26) (hq := rfl) (k := ?_)
  refine g_X6_ports 30 dX6_addPort_27 rfl fl_X6_38 (fun hr27 => ?_)
  rw [up_n (show x ≠ x + 2 by omega)] at *
  refine s_iconst 31 dX6_addPort_30 rfl ?_
  refine s_iadd 32 dX6_addPort_31 rfl ?_
  refine p_X6_ports 35 dX6_addPort_32 rfl fl_X6_38 ?_
  refine s_return rfl dX6_addPort_35 ?_
  rw [if_pos (by omega)] at hp
  rw [up_n (show x ≠ x + 2 by omega)]
  exact hp
theorem q_checkBytes {x : Nat} (hT : T x = 7) (hp : post (some (vi ((ckl (N x 3) : Nat) : Int))) (T, N, R, P, S, cn, un)) : Cm G (AP G F) yX6_checkBytes cX6_checkBytes 1 (some .int) d [.ref x] (T, N, R, P, S, cn, un) post := by
  refine Cm_intro (L := [some (.ref x)]) (by decide +kernel) (Nat.le_of_ble_eq_true rfl) rfl ?_
  unfold ckl at hp
  refine s_aload_n 1 dX6_checkBytes_0 rfl rfl ?_
  refine g_X6_check 4 dX6_checkBytes_1 rfl fl_X6_26 (fun hr1 => ?_)
  refine s_if_ne 7 11 dX6_checkBytes_4 rfl rfl (fun g => ?_) (fun g => ?_)
  · refine s_iconst 12 dX6_checkBytes_11 rfl ?_
    refine s_ireturn rfl dX6_checkBytes_12 ?_
    rw [if_neg g] at hp
    exact hp
  · refine s_iconst 8 dX6_checkBytes_7 rfl ?_
    refine s_goto 12 dX6_checkBytes_8 rfl ?_
    refine s_ireturn rfl dX6_checkBytes_12 ?_
    rw [if_pos g] at hp
    exact hp
theorem q_widestFrame {x : Nat} {k : Int} {ru : RU} (hS : RuS T x) (hru : RuP N x ru) (hL : 1 ≤ ru 1 ∧ ru 1 ≤ 60) (hk : 0 ≤ k ∧ k ≤ 500) (hp : post (some (vi (mstF (ru 1) (1 + k + (ckl (ru 3) : Nat)) + 1))) (T, N, R, P, S, cn, un)) : Cm G (AP G F) yX6_widestFrame cX6_widestFrame 2 (some .int) (d + 2) [.ref x, vi k] (T, N, R, P, S, cn, un) post := by
  obtain ⟨t0, t1, t2⟩ := hS
  obtain ⟨r0, r1, r2, r3, r4, r5⟩ := hru
  have hck : ckl (ru 3) ≤ 1 := by unfold ckl; split <;> omega
  refine Cm_intro (L := [some (.ref x), some (vi k)]) (by decide +kernel) (Nat.le_of_ble_eq_true rfl) rfl ?_
  refine s_aload_n 1 dX6_widestFrame_0 rfl rfl ?_
  refine g_X6_stuffing 4 dX6_widestFrame_1 rfl fl_X6_12 ?_
  refine s_iconst 5 dX6_widestFrame_4 rfl ?_
  refine s_iload_n 6 dX6_widestFrame_5 rfl rfl ?_
  refine s_iadd 7 dX6_widestFrame_6 rfl ?_
  refine s_aload_n 8 dX6_widestFrame_7 rfl rfl ?_
  refine s_V0i 11 dX6_widestFrame_8 rfl km_X6_checkBytes ml_X6_47 ds_X6_checkBytes (Nat.le_of_ble_eq_true rfl) (q_rec (by assumption)) rfl (q_checkBytes t0 ?_)
  refine ⟨_, rfl, ?_⟩
  rw [r3]
  refine s_iadd 12 dX6_widestFrame_11 rfl ?_
  refine s_V1i 15 dX6_widestFrame_12 rfl km_X8_widest ml_X6_51 ds_X8_widest (Nat.le_of_ble_eq_true rfl) (q_rec (by assumption)) rfl (q_widest t1 (by omega) (by omega) ?_)
  refine ⟨_, rfl, ?_⟩
  rw [r1]
  refine s_iconst 16 dX6_widestFrame_15 rfl ?_
  refine s_iadd 17 dX6_widestFrame_16 rfl ?_
  refine s_ireturn rfl dX6_widestFrame_17 ?_
  exact hp
end WALK
