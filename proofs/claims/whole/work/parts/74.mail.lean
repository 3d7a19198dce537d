/-! ===== Rows whose contents are known; Draws, Mail ===== -/
def frO {β : Type} (lo hi : Nat) (f f' : Nat → β) : Prop := ∀ w, (w < lo ∨ hi ≤ w) → f' w = f w
theorem frO.rf {β : Type} {lo hi : Nat} {f : Nat → β} : frO lo hi f f := fun _ _ => rfl
theorem frO.up {β : Type} {lo hi x : Nat} {f f' : Nat → β} {v : β} (h : frO lo hi f f') (hx : lo ≤ x ∧ x < hi) : frO lo hi f (up f' x v) := fun w hw => by
  rw [up_n (by omega)]
  exact h w hw
theorem frO.trans {β : Type} {lo hi lo2 hi2 : Nat} {f g k : Nat → β} (h : frO lo hi f g) (h2 : frO lo2 hi2 g k) (hs : lo ≤ lo2 ∧ hi2 ≤ hi) : frO lo hi f k := fun w hw => (h2 w (by omega)).trans (h w hw)
theorem frO.wk {β : Type} {lo hi lo2 hi2 : Nat} {f g : Nat → β} (h : frO lo2 hi2 f g) (hs : lo ≤ lo2 ∧ hi2 ≤ hi) : frO lo hi f g := fun w hw => h w (by omega)
section MAIL
variable {G : GT} {F : HS} {d : Nat} {T : Nat → Nat} {N : Nat → Nat → Int} {R : Nat → List Int} {P : Nat → Nat → Option Nat} {S : Nat → Int64} {cn un : Nat} {post : Option Value → PT → Prop}
theorem r_atK {x lim : Nat} {i : Int} {l : List Int} (hT : T x = 100 + lim) (hR : R x = l) (hi : rg i) (hp : rg (atF l i) → post (some (vi (atF l i))) (T, N, R, P, S, cn, un)) : Cm G (AP G F) yX5_at cX5_at 2 (some .int) (d + 1) [.ref x, vi i] (T, N, R, P, S, cn, un) post := r_at hT hi (by rw [hR]; exact hp)
theorem r_addK {x lim : Nat} {v : Int} {l : List Int} (hT : T x = 100 + lim) (hR : R x = l) (hl : l.length < lim) (hv : rg v) (hp : post none (T, N, up R x (l ++ [v]), P, S, cn, un)) : Cm G (AP G F) yX5_add cX5_add 2 none (d + 2) [.ref x, vi v] (T, N, R, P, S, cn, un) post := r_add hT hv (by rw [hR, if_pos hl]; exact hp)
theorem r_setK {x lim : Nat} {i v : Int} {l : List Int} (hT : T x = 100 + lim) (hR : R x = l) (hi : 0 ≤ i ∧ i < l.length) (hi2 : rg i) (hv : rg v) (hp : post none (T, N, up R x (l.set i.toNat v), P, S, cn, un)) : Cm G (AP G F) yX5_set cX5_set 3 none (d + 1) [.ref x, vi i, vi v] (T, N, R, P, S, cn, un) post := r_set hT hi2 hv (by rw [hR, if_pos hi]; exact hp)
theorem r_addAllK {x lim z : Nat} {i k : Int} {l l2 : List Int} (hT : T x = 100 + lim) (hz : 100 ≤ T z) (hne : z ≠ x) (hR : R x = l) (hR2 : R z = l2) (hi : 0 ≤ i) (hk : 0 ≤ k) (h1 : i + k ≤ l2.length) (h2 : l.length + k ≤ lim) (h3 : lim ≤ 1000 ∧ l2.length ≤ 1000) (hp : post none (T, N, up R x (l ++ (l2.drop i.toNat).take k.toNat), P, S, cn, un)) : Cm G (AP G F) yX5_addAll cX5_addAll 4 none (d + 2) [.ref x, .ref z, vi i, vi k] (T, N, R, P, S, cn, un) post := by
  refine r_addAll hT hz hne ⟨by omega, by omega⟩ ⟨by omega, by omega⟩ ?_
  rw [hR, hR2]
  by_cases e : 0 < k
  · rw [if_pos ⟨hi, e, by omega, by omega⟩]
    exact hp
  · rw [if_neg (fun h => e h.2.1)]
    have e0 : k.toNat = 0 := by omega
    rw [e0, List.take_zero, List.append_nil] at hp
    exact hp
theorem r_dropK {x lim : Nat} {i : Int} {l : List Int} (hT : T x = 100 + lim) (hR : R x = l) (hi : 0 ≤ i ∧ i ≤ l.length) (hi2 : rg i) (hp : post none (T, N, up R x (l.drop i.toNat), P, S, cn, un)) : Cm G (AP G F) yX5_dropFirst cX5_dropFirst 2 none (d + 1) [.ref x, vi i] (T, N, R, P, S, cn, un) post := by
  refine r_dropFirst hT hi2 ?_
  rw [hR]
  by_cases e : 0 < i
  · rw [if_pos ⟨e, hi.2⟩]
    exact hp
  · rw [if_neg (fun h => e h.1)]
    have e0 : i.toNat = 0 := by omega
    rw [e0, List.drop_zero] at hp
    exact hp
theorem q_draw {x : Nat} {m : Int} (hT : T x = 1) (hm : 1 ≤ m ∧ m ≤ 1000) (hp : post (some (vi (dv (dn (S x)) m))) (T, N, R, P, up S x (dn (S x)), cn, un)) : Cm G (AP G F) yX0_draw cX0_draw 2 (some .int) d [.ref x, vi m] (T, N, R, P, S, cn, un) post := by
  refine Cm_intro (L := [some (.ref x), some (vi m)]) (by decide +kernel) (Nat.le_of_ble_eq_true rfl) rfl ?_
  refine s_aload_n 1 dX0_draw_0 rfl rfl ?_
  refine s_aload_n 2 dX0_draw_1 rfl rfl ?_
  refine g_X0_seed 5 dX0_draw_2 rfl fl_X0_7 ?_
  refine s_ldc2 8 dX0_draw_5 rfl kc_X0_13 ?_
  refine s_lmul 9 dX0_draw_8 rfl ?_
  refine s_ldc2 12 dX0_draw_9 rfl kc_X0_15 ?_
  refine s_ladd 13 dX0_draw_12 rfl ?_
  refine p_X0_seed 16 dX0_draw_13 rfl fl_X0_7 ?_
  refine s_iload_n 17 dX0_draw_16 rfl rfl ?_
  refine s_iconst 18 dX0_draw_17 rfl ?_
  refine s_icmp_ge 21 25 dX0_draw_18 rfl rfl (fun g => ?_) (fun g => ?_)
  rotate_left
  · omega
  refine s_aload_n 26 dX0_draw_25 rfl rfl ?_
  refine g_X0_seed 29 dX0_draw_26 rfl fl_X0_7 ?_
  refine s_bipush 31 dX0_draw_29 rfl (k := ?_)
  rw [up_s]
  refine s_lushr 32 _ dX0_draw_31 rfl rfl ?_
  refine s_iload_n 33 dX0_draw_32 rfl rfl ?_
  refine s_i2lz 34 dX0_draw_33 rfl ?_
  refine s_lrem 35 dX0_draw_34 rfl (fun h => by have h9 := congrArg Int64.toInt h; rw [rL (by omega)] at h9; have h0 : m = 0 := h9; omega) ?_
  refine s_l2i 36 ((dv (dn (S x)) m)) dX0_draw_35 rfl ((Int32.ofInt_toInt _).symm) ?_
  refine s_ireturn rfl dX0_draw_36 ?_
  exact hp
/-- messages one behind the other -/
def catF (ms : List (List Int × Int)) : List Int := (ms.map (fun m => m.1)).flatten
def MaS (T : Nat → Nat) (x : Nat) : Prop := T x = 3 ∧ T (x + 1) = 100 + 960 ∧ T (x + 3) = 100 + 8 ∧ T (x + 5) = 100 + 8
def MaR (R : Nat → List Int) (x : Nat) (ms : List (List Int × Int)) : Prop := R (x + 1) = catF ms ∧ R (x + 3) = ms.map (fun m => (m.1.length : Int)) ∧ R (x + 5) = ms.map (fun m => m.2)
theorem MaR.fr {R R' : Nat → List Int} {x lo hi : Nat} {ms : List (List Int × Int)} (h : MaR R x ms) (hf : frO lo hi R R') (hx : x + 7 ≤ lo ∨ hi ≤ x) : MaR R' x ms := ⟨(hf _ (by omega)).trans h.1, (hf _ (by omega)).trans h.2.1, (hf _ (by omega)).trans h.2.2⟩
theorem catF_len {ms : List (List Int × Int)} (h : ∀ m ∈ ms, m.1.length ≤ 120) : (catF ms).length ≤ 120 * ms.length := by
  induction ms with
  | nil => exact Nat.le_refl _
  | cons m t ih =>
    have h1 := ih (fun w hw => h w (List.mem_cons_of_mem _ hw))
    have h2 := h m List.mem_cons_self
    show ((m.1 ++ (t.map (fun m => m.1)).flatten)).length ≤ 120 * (t.length + 1)
    rw [List.length_append]
    have h3 : ((t.map (fun m => m.1)).flatten).length ≤ 120 * t.length := h1
    omega
theorem q_many {x : Nat} {ms : List (List Int × Int)} (hS : MaS T x) (hM : MaR R x ms) (hp : post (some (vi (ms.length : Int))) (T, N, R, P, S, cn, un)) : Cm G (AP G F) yX2_many cX2_many 1 (some .int) d [.ref x] (T, N, R, P, S, cn, un) post := by
  obtain ⟨t0, t1, t2, t3⟩ := hS
  refine Cm_intro (L := [some (.ref x)]) (by decide +kernel) (Nat.le_of_ble_eq_true rfl) rfl ?_
  refine s_aload_n 1 dX2_many_0 rfl rfl ?_
  refine g_X2_lengths 4 dX2_many_1 rfl fl_X2_20 ?_
  refine g_X5_size 7 dX2_many_4 rfl fl_X2_26 ?_
  refine s_ireturn rfl dX2_many_7 ?_
  rw [hM.2.1, List.length_map]
  exact hp
theorem q_firstLength {x : Nat} {ms : List (List Int × Int)} (hS : MaS T x) (hM : MaR R x ms) (hl : ∀ m ∈ ms, m.1.length ≤ 120) (hp : post (some (vi ((ms.getD 0 ([], 0)).1.length : Int))) (T, N, R, P, S, cn, un)) : Cm G (AP G F) yX2_firstLength cX2_firstLength 1 (some .int) (d + 2) [.ref x] (T, N, R, P, S, cn, un) post := by
  obtain ⟨t0, t1, t2, t3⟩ := hS
  refine Cm_intro (L := [some (.ref x)]) (by decide +kernel) (Nat.le_of_ble_eq_true rfl) rfl ?_
  refine s_iconst 1 dX2_firstLength_0 rfl ?_
  refine s_aload_n 2 dX2_firstLength_1 rfl rfl ?_
  refine g_X2_lengths 5 dX2_firstLength_2 rfl fl_X2_20 ?_
  refine s_iconst 6 dX2_firstLength_5 rfl ?_
  refine s_V1i 9 dX2_firstLength_6 rfl km_X5_at ml_X2_30 ds_X5_at (Nat.le_of_ble_eq_true rfl) (q_recR (by assumption)) rfl (r_atK t2 hM.2.1 (by decide) (fun hr => ?_))
  refine ⟨_, rfl, ?_⟩
  refine s_max (q := 12) (hd := dX2_firstLength_9) (hq := rfl) (hw := ml_X2_34) (hrest := Nat.le_of_ble_eq_true rfl) (k := ?_)
  refine s_ireturn rfl dX2_firstLength_12 ?_
  have e : max 0 (atF (ms.map (fun m => (m.1.length : Int))) 0) = ((ms.getD 0 ([], 0)).1.length : Int) := by
    cases ms with
    | nil => rfl
    | cons m t =>
      show max 0 (if (0 : Int) ≤ 0 ∧ (0 : Int) < ((m :: t).map (fun m => (m.1.length : Int))).length then (m.1.length : Int) else -1) = (m.1.length : Int)
      rw [if_pos ⟨by decide, by rw [List.length_map, List.length_cons]; omega⟩]
      omega
  rw [e]
  exact hp
theorem q_firstFrames {x : Nat} {ms : List (List Int × Int)} (hS : MaS T x) (hM : MaR R x ms) (hl : ∀ m ∈ ms, 0 ≤ m.2 ∧ m.2 ≤ 100000000) (hp : post (some (vi (ms.getD 0 ([], 0)).2)) (T, N, R, P, S, cn, un)) : Cm G (AP G F) yX2_firstFrames cX2_firstFrames 1 (some .int) (d + 2) [.ref x] (T, N, R, P, S, cn, un) post := by
  obtain ⟨t0, t1, t2, t3⟩ := hS
  refine Cm_intro (L := [some (.ref x)]) (by decide +kernel) (Nat.le_of_ble_eq_true rfl) rfl ?_
  refine s_iconst 1 dX2_firstFrames_0 rfl ?_
  refine s_aload_n 2 dX2_firstFrames_1 rfl rfl ?_
  refine g_X2_frames 5 dX2_firstFrames_2 rfl fl_X2_23 ?_
  refine s_iconst 6 dX2_firstFrames_5 rfl ?_
  refine s_V1i 9 dX2_firstFrames_6 rfl km_X5_at ml_X2_30 ds_X5_at (Nat.le_of_ble_eq_true rfl) (q_recR (by assumption)) rfl (r_atK t3 hM.2.2 (by decide) (fun hr => ?_))
  refine ⟨_, rfl, ?_⟩
  refine s_max (q := 12) (hd := dX2_firstFrames_9) (hq := rfl) (hw := ml_X2_34) (hrest := Nat.le_of_ble_eq_true rfl) (k := ?_)
  refine s_ireturn rfl dX2_firstFrames_12 ?_
  have e : max 0 (atF (ms.map (fun m => m.2)) 0) = (ms.getD 0 ([], 0)).2 := by
    cases ms with
    | nil => rfl
    | cons m t =>
      show max 0 (if (0 : Int) ≤ 0 ∧ (0 : Int) < ((m :: t).map (fun m => m.2)).length then m.2 else -1) = m.2
      rw [if_pos ⟨by decide, by rw [List.length_map, List.length_cons]; omega⟩]
      have := hl m List.mem_cons_self
      omega
  rw [e]
  exact hp
theorem q_push {x z : Nat} {ms : List (List Int × Int)} {l : List Int} {k : Int} (hS : MaS T x) (hz : 100 ≤ T z) (hne : z < x ∨ x + 7 ≤ z) (hM : MaR R x ms) (hl : ∀ m ∈ ms, m.1.length ≤ 120) (hms : ms.length < 8) (hR : R z = l) (hll : l.length ≤ 120) (hk : rg k) (hp : ∀ R', MaR R' x (ms ++ [(l, k)]) → frO x (x + 7) R R' → post none (T, N, R', P, S, cn, un)) : Cm G (AP G F) yX2_push cX2_push 3 none (d + 3) [.ref x, .ref z, vi k] (T, N, R, P, S, cn, un) post := by
  obtain ⟨t0, t1, t2, t3⟩ := hS
  obtain ⟨m1, m2, m3⟩ := hM
  have hcl := catF_len hl
  refine Cm_intro (L := [some (.ref x), some (.ref z), some (vi k)]) (by decide +kernel) (Nat.le_of_ble_eq_true rfl) rfl ?_
  refine s_aload_n 1 dX2_push_0 rfl rfl ?_
  refine g_X2_bytes 4 dX2_push_1 rfl fl_X2_14 ?_
  refine s_aload_n 5 dX2_push_4 rfl rfl ?_
  refine s_iconst 6 dX2_push_5 rfl ?_
  refine s_aload_n 7 dX2_push_6 rfl rfl ?_
  refine g_X5_size 10 dX2_push_7 rfl fl_X2_26 ?_
  rw [hR]
  refine s_V3v 13 dX2_push_10 rfl km_X5_addAll ml_X2_40 ds_X5_addAll (Nat.le_of_ble_eq_true rfl) (q_recR (by assumption)) rfl (r_addAllK t1 hz (by omega) m1 hR (by omega) (by omega) (by omega) (by omega) (by omega) ?_)
  refine ⟨rfl, ?_⟩
  rw [show ((0 : Int)).toNat = 0 from rfl, List.drop_zero, show ((l.length : Int)).toNat = l.length from rfl, List.take_length]
  refine s_aload_n 14 dX2_push_13 rfl rfl ?_
  refine g_X2_lengths 17 dX2_push_14 rfl fl_X2_20 ?_
  refine s_aload_n 18 dX2_push_17 rfl rfl ?_
  refine g_X5_size 21 dX2_push_18 rfl fl_X2_26 ?_
  rw [up_n (show z ≠ x + 1 by omega), hR]
  refine s_V1v 24 dX2_push_21 rfl km_X5_add ml_X2_44 ds_X5_add (Nat.le_of_ble_eq_true rfl) (q_recR (by assumption)) rfl (r_addK t2 ((up_n (by omega)).trans m2) (by rw [List.length_map]; exact hms) (by constructor <;> omega) ?_)
  refine ⟨rfl, ?_⟩
  refine s_aload_n 25 dX2_push_24 rfl rfl ?_
  refine g_X2_frames 28 dX2_push_25 rfl fl_X2_23 ?_
  refine s_iload_n 29 dX2_push_28 rfl rfl ?_
  refine s_V1v 32 dX2_push_29 rfl km_X5_add ml_X2_44 ds_X5_add (Nat.le_of_ble_eq_true rfl) (q_recR (by assumption)) rfl (r_addK t3 ((up_n (by omega)).trans ((up_n (by omega)).trans m3)) (by rw [List.length_map]; exact hms) hk ?_)
  refine ⟨rfl, ?_⟩
  refine s_return rfl dX2_push_32 ?_
  refine hp _ ⟨?_, ?_, ?_⟩ (((frO.rf.up (by omega)).up (by omega)).up (by omega))
  · rw [up_n (by omega), up_n (by omega), up_s]
    unfold catF
    rw [List.map_append, List.flatten_append]
    show _ = _ ++ (l ++ [])
    rw [List.append_nil]
  · rw [up_n (by omega), up_s, List.map_append]
    rfl
  · rw [up_s, List.map_append]
    rfl
theorem q_dropFirst {x : Nat} {ms : List (List Int × Int)} (hS : MaS T x) (hM : MaR R x ms) (hl : ∀ m ∈ ms, m.1.length ≤ 120) (h0 : 0 < ms.length) (h8 : ms.length ≤ 8) (hp : ∀ R', MaR R' x (ms.drop 1) → frO x (x + 7) R R' → post none (T, N, R', P, S, cn, un)) : Cm G (AP G F) yX2_dropFirst cX2_dropFirst 1 none (d + 3) [.ref x] (T, N, R, P, S, cn, un) post := by
  obtain ⟨t0, t1, t2, t3⟩ := id hS
  obtain ⟨m1, m2, m3⟩ := id hM
  refine Cm_intro (L := [some (.ref x)]) (by decide +kernel) (Nat.le_of_ble_eq_true rfl) rfl ?_
  obtain ⟨m, t, rfl⟩ : ∃ m t, ms = m :: t := by
    cases ms with
    | nil => exact absurd h0 (by simp)
    | cons m t => exact ⟨m, t, rfl⟩
  have hm := hl m List.mem_cons_self
  have hc : catF (m :: t) = m.1 ++ catF t := rfl
  refine s_aload_n 1 dX2_dropFirst_0 rfl rfl ?_
  refine g_X2_bytes 4 dX2_dropFirst_1 rfl fl_X2_14 ?_
  refine s_aload_n 5 dX2_dropFirst_4 rfl rfl ?_
  refine s_V0i 8 dX2_dropFirst_5 rfl km_X2_firstLength ml_X2_47 ds_X2_firstLength (Nat.le_of_ble_eq_true rfl) (q_rec (by assumption)) rfl (q_firstLength hS hM hl ?_)
  refine ⟨_, rfl, ?_⟩
  rw [show (((m :: t).getD 0 ([], 0)).1.length : Int) = (m.1.length : Int) from rfl]
  refine s_V1v 11 dX2_dropFirst_8 rfl km_X5_dropFirst ml_X2_51 ds_X5_dropFirst (Nat.le_of_ble_eq_true rfl) (q_recR (by assumption)) rfl (r_dropK t1 m1 (by rw [hc, List.length_append]; omega) (by constructor <;> omega) ?_)
  refine ⟨rfl, ?_⟩
  refine s_aload_n 12 dX2_dropFirst_11 rfl rfl ?_
  refine g_X2_lengths 15 dX2_dropFirst_12 rfl fl_X2_20 ?_
  refine s_iconst 16 dX2_dropFirst_15 rfl ?_
  refine s_V1v 19 dX2_dropFirst_16 rfl km_X5_dropFirst ml_X2_51 ds_X5_dropFirst (Nat.le_of_ble_eq_true rfl) (q_recR (by assumption)) rfl (r_dropK t2 ((up_n (by omega)).trans m2) (by rw [List.length_map, List.length_cons]; omega) (by decide) ?_)
  refine ⟨rfl, ?_⟩
  refine s_aload_n 20 dX2_dropFirst_19 rfl rfl ?_
  refine g_X2_frames 23 dX2_dropFirst_20 rfl fl_X2_23 ?_
  refine s_iconst 24 dX2_dropFirst_23 rfl ?_
  refine s_V1v 27 dX2_dropFirst_24 rfl km_X5_dropFirst ml_X2_51 ds_X5_dropFirst (Nat.le_of_ble_eq_true rfl) (q_recR (by assumption)) rfl (r_dropK t3 ((up_n (by omega)).trans ((up_n (by omega)).trans m3)) (by rw [List.length_map, List.length_cons]; omega) (by decide) ?_)
  refine ⟨rfl, ?_⟩
  refine s_return rfl dX2_dropFirst_27 ?_
  refine hp _ ⟨?_, ?_, ?_⟩ (((frO.rf.up (by omega)).up (by omega)).up (by omega))
  · rw [up_n (by omega), up_n (by omega), up_s, hc, show ((m.1.length : Int)).toNat = m.1.length from rfl, List.drop_left]
    rfl
  · rw [up_n (by omega), up_s]
    rfl
  · rw [up_s]
    rfl
theorem q_mclear {x : Nat} (hS : MaS T x) (hp : ∀ R', MaR R' x [] → frO x (x + 7) R R' → post none (T, N, R', P, S, cn, un)) : Cm G (AP G F) yX2_clear cX2_clear 1 none (d + 1) [.ref x] (T, N, R, P, S, cn, un) post := by
  obtain ⟨t0, t1, t2, t3⟩ := hS
  refine Cm_intro (L := [some (.ref x)]) (by decide +kernel) (Nat.le_of_ble_eq_true rfl) rfl ?_
  refine s_aload_n 1 dX2_clear_0 rfl rfl ?_
  refine g_X2_bytes 4 dX2_clear_1 rfl fl_X2_14 ?_
  refine s_V0v 7 dX2_clear_4 rfl km_X5_clear ml_X2_54 ds_X5_clear (Nat.le_of_ble_eq_true rfl) (q_recR (by assumption)) rfl (r_clear t1 ?_)
  refine ⟨rfl, ?_⟩
  refine s_aload_n 8 dX2_clear_7 rfl rfl ?_
  refine g_X2_lengths 11 dX2_clear_8 rfl fl_X2_20 ?_
  refine s_V0v 14 dX2_clear_11 rfl km_X5_clear ml_X2_54 ds_X5_clear (Nat.le_of_ble_eq_true rfl) (q_recR (by assumption)) rfl (r_clear t2 ?_)
  refine ⟨rfl, ?_⟩
  refine s_aload_n 15 dX2_clear_14 rfl rfl ?_
  refine g_X2_frames 18 dX2_clear_15 rfl fl_X2_23 ?_
  refine s_V0v 21 dX2_clear_18 rfl km_X5_clear ml_X2_54 ds_X5_clear (Nat.le_of_ble_eq_true rfl) (q_recR (by assumption)) rfl (r_clear t3 ?_)
  refine ⟨rfl, ?_⟩
  refine s_return rfl dX2_clear_21 ?_
  refine hp _ ⟨?_, ?_, ?_⟩ (((frO.rf.up (by omega)).up (by omega)).up (by omega))
  · rw [up_n (by omega), up_n (by omega), up_s]
    rfl
  · rw [up_n (by omega), up_s]
    rfl
  · rw [up_s]
    rfl
theorem q_mcopy {x z : Nat} (hS : MaS T x) (hS2 : MaS T z) (hne : z + 7 ≤ x ∨ x + 7 ≤ z) {ms : List (List Int × Int)} (hM : MaR R z ms) (hl : ∀ m ∈ ms, m.1.length ≤ 120) (h8 : ms.length ≤ 8) (hp : ∀ R', MaR R' x ms → frO x (x + 7) R R' → post none (T, N, R', P, S, cn, un)) : Cm G (AP G F) yX2_copyFrom cX2_copyFrom 2 none (d + 3) [.ref x, .ref z] (T, N, R, P, S, cn, un) post := by
  obtain ⟨t0, t1, t2, t3⟩ := hS
  obtain ⟨z0, z1, z2, z3⟩ := hS2
  obtain ⟨m1, m2, m3⟩ := hM
  have hcl := catF_len hl
  refine Cm_intro (L := [some (.ref x), some (.ref z)]) (by decide +kernel) (Nat.le_of_ble_eq_true rfl) rfl ?_
  refine s_aload_n 1 dX2_copyFrom_0 rfl rfl ?_
  refine g_X2_bytes 4 dX2_copyFrom_1 rfl fl_X2_14 ?_
  refine s_aload_n 5 dX2_copyFrom_4 rfl rfl ?_
  refine g_X2_bytes 8 dX2_copyFrom_5 rfl fl_X2_14 ?_
  refine s_V1v 11 dX2_copyFrom_8 rfl km_X5_copyFrom ml_X2_57 ds_X5_copyFrom (Nat.le_of_ble_eq_true rfl) (q_recR (by assumption)) rfl (r_copyFrom t1 (by omega) (by omega) ?_)
  refine ⟨rfl, ?_⟩
  rw [m1, List.take_of_length_le (by omega)]
  refine s_aload_n 12 dX2_copyFrom_11 rfl rfl ?_
  refine g_X2_lengths 15 dX2_copyFrom_12 rfl fl_X2_20 ?_
  refine s_aload_n 16 dX2_copyFrom_15 rfl rfl ?_
  refine g_X2_lengths 19 dX2_copyFrom_16 rfl fl_X2_20 ?_
  refine s_V1v 22 dX2_copyFrom_19 rfl km_X5_copyFrom ml_X2_57 ds_X5_copyFrom (Nat.le_of_ble_eq_true rfl) (q_recR (by assumption)) rfl (r_copyFrom t2 (by omega) (by omega) ?_)
  refine ⟨rfl, ?_⟩
  rw [up_n (show z + 3 ≠ x + 1 by omega), m2, List.take_of_length_le (by rw [List.length_map]; exact h8)]
  refine s_aload_n 23 dX2_copyFrom_22 rfl rfl ?_
  refine g_X2_frames 26 dX2_copyFrom_23 rfl fl_X2_23 ?_
  refine s_aload_n 27 dX2_copyFrom_26 rfl rfl ?_
  refine g_X2_frames 30 dX2_copyFrom_27 rfl fl_X2_23 ?_
  refine s_V1v 33 dX2_copyFrom_30 rfl km_X5_copyFrom ml_X2_57 ds_X5_copyFrom (Nat.le_of_ble_eq_true rfl) (q_recR (by assumption)) rfl (r_copyFrom t3 (by omega) (by omega) ?_)
  refine ⟨rfl, ?_⟩
  rw [up_n (show z + 5 ≠ x + 3 by omega), up_n (show z + 5 ≠ x + 1 by omega), m3, List.take_of_length_le (by rw [List.length_map]; exact h8)]
  refine s_return rfl dX2_copyFrom_33 ?_
  refine hp _ ⟨?_, ?_, ?_⟩ (((frO.rf.up (by omega)).up (by omega)).up (by omega))
  · rw [up_n (by omega), up_n (by omega), up_s]
  · rw [up_n (by omega), up_s]
  · rw [up_s]
end MAIL
