/-! ===== Row's methods, a Row seen by itself ===== -/
/-- how often a Row can still get more cells -/
def potF (lim cap : Nat) : Nat := if lim ≤ cap then 0 else if 256 ≤ cap then 1 else if 64 ≤ cap then 2 else if 16 ≤ cap then 3 else 4
def RW (lim : Nat) (l : List Int) (cap : Nat) (f : Nat → Int32) : Prop := l.length ≤ cap ∧ cap ≤ lim ∧ lim ≤ 960 ∧ (∀ k, k < l.length → f k = Int32.ofInt (l.getD k 0)) ∧ ∀ v ∈ l, rg v
def stp (lim c cap nn uu c' cap' nn' uu' : Nat) : Prop := nn' + potF lim cap' ≤ nn + potF lim cap ∧ uu' + potF lim cap' * lim ≤ uu + potF lim cap * lim ∧ (c' = c ∨ nn ≤ c') ∧ nn ≤ nn'
theorem stp.rf {lim c cap nn uu : Nat} : stp lim c cap nn uu c cap nn uu := ⟨Nat.le_refl _, Nat.le_refl _, Or.inl rfl, Nat.le_refl _⟩
def RM (G : GT) (lim cap nn uu : Nat) : Prop := nn + potF lim cap ≤ gN G ∧ uu + potF lim cap * lim ≤ gU G
theorem potF_grow {lim cap w : Nat} (h1 : cap < w) (h2 : w ≤ lim) (h3 : lim ≤ 960) : potF lim (min lim (max w (max 16 (4 * cap)))) + 1 ≤ potF lim cap := by
  have e : ∀ k, k = min lim (max w (max 16 (4 * cap))) → potF lim k + 1 ≤ potF lim cap := by
    intro k hk
    unfold potF
    split
    · split
      · omega
      · split
        · omega
        · split
          · omega
          · split <;> omega
    · split
      · rw [if_neg (by omega)]
        split
        · omega
        · split
          · omega
          · split <;> omega
      · split
        · rw [if_neg (by omega)]
          split
          · omega
          · split
            · omega
            · split <;> omega
        · split
          · rw [if_neg (by omega)]
            split
            · omega
            · split
              · omega
              · split <;> omega
          · omega
  exact e _ rfl
theorem rg_at {l : List Int} (h : ∀ v ∈ l, rg v) (k : Nat) : rg (l.getD k 0) := by
  by_cases hk : k < l.length
  · exact h _ (getD_mem hk)
  · rw [List.getD_eq_getElem?_getD, List.getElem?_eq_none (by omega)]
    exact ⟨by decide, by decide⟩
section ROWM
variable {G : GT} {x lim : Nat} {σ0 : HS} {d : Nat} {c cap : Nat} {f : Nat → Int32} {nn uu : Nat} {post : Option Value → WT → Prop} {l : List Int}
theorem w_has {i : Int} (hi : rg i) (hR : RW lim l cap f) (hp : post (some (vb (decide (0 ≤ i ∧ i < l.length)))) (c, cap, f, (l.length : Int), nn, uu)) : Cm G (AW G x lim σ0) yX5_has cX5_has 2 (some .boolean) d [.ref x, vi i] (c, cap, f, (l.length : Int), nn, uu) post := by
  obtain ⟨r2, r3, r4, r5, r6⟩ := hR
  refine Cm_intro (L := [some (.ref x), some (vi i)]) (by decide +kernel) (Nat.le_of_ble_eq_true rfl) rfl ?_
  refine s_iload_n 1 dX5_has_0 rfl rfl ?_
  refine s_if_lt 4 16 dX5_has_1 rfl rfl (fun g => ?_) (fun g => ?_)
  · refine s_iconst 17 dX5_has_16 rfl ?_
    first | refine s_zreturn rfl dX5_has_17 ?_ | refine s_zreturn1 rfl dX5_has_17 ?_ | refine s_zreturn0 rfl dX5_has_17 ?_
    rw [decide_eq_false (fun h => by omega)] at hp
    exact hp
  refine s_iload_n 5 dX5_has_4 rfl rfl ?_
  refine s_aload_n 6 dX5_has_5 rfl rfl ?_
  refine w_get (k := 2) 9 dX5_has_6 rfl fl_X5_19 (by decide) rfl ?_
  refine s_icmp_ge 12 16 dX5_has_9 rfl rfl (fun g2 => ?_) (fun g2 => ?_)
  · refine s_iconst 17 dX5_has_16 rfl ?_
    first | refine s_zreturn rfl dX5_has_17 ?_ | refine s_zreturn1 rfl dX5_has_17 ?_ | refine s_zreturn0 rfl dX5_has_17 ?_
    rw [decide_eq_false (fun h => by omega)] at hp
    exact hp
  · refine s_iconst 13 dX5_has_12 rfl ?_
    refine s_goto 17 dX5_has_13 rfl ?_
    first | refine s_zreturn rfl dX5_has_17 ?_ | refine s_zreturn1 rfl dX5_has_17 ?_ | refine s_zreturn0 rfl dX5_has_17 ?_
    rw [decide_eq_true ⟨by omega, by omega⟩] at hp
    exact hp
theorem w_at {i : Int} (hi : rg i) (hR : RW lim l cap f) (hp : rg (atF l i) → post (some (vi (atF l i))) (c, cap, f, (l.length : Int), nn, uu)) : Cm G (AW G x lim σ0) yX5_at cX5_at 2 (some .int) (d + 1) [.ref x, vi i] (c, cap, f, (l.length : Int), nn, uu) post := by
  obtain ⟨r2, r3, r4, r5, r6⟩ := id hR
  refine Cm_intro (L := [some (.ref x), some (vi i)]) (by decide +kernel) (Nat.le_of_ble_eq_true rfl) rfl ?_
  refine s_aload_n 1 dX5_at_0 rfl rfl ?_
  refine s_iload_n 2 dX5_at_1 rfl rfl ?_
  refine s_V1b 5 dX5_at_2 rfl km_X5_has ml_X5_22 ds_X5_has (Nat.le_of_ble_eq_true rfl) w_rec rfl (w_has hi hR ?_)
  refine ⟨_, rfl, ?_⟩
  refine s_if_eqb 8 17 dX5_at_5 rfl rfl (fun g => ?_) (fun g => ?_)
  · have g := of_decide_eq_false g
    refine s_iconst 18 dX5_at_17 rfl ?_
    refine s_ireturn rfl dX5_at_18 ?_
    have hp := hp (by rw [show atF l i = -1 from if_neg g]; exact ⟨by decide, by decide⟩)
    rw [show atF l i = -1 from if_neg g] at hp
    exact hp
  · have g := of_decide_eq_true g
    refine s_aload_n 9 dX5_at_8 rfl rfl ?_
    refine w_get (k := 1) 12 dX5_at_9 rfl fl_X5_9 (by decide) rfl ?_
    refine s_iload_n 13 dX5_at_12 rfl rfl ?_
    refine w_ald 14 dX5_at_13 rfl ?_
    rw [show (Value.int (f i.toNat)) = vi (l.getD i.toNat 0) by rw [r5 _ (by omega)]; rfl]
    refine s_goto 18 dX5_at_14 rfl ?_
    refine s_ireturn rfl dX5_at_18 ?_
    have hp := hp (by rw [show atF l i = l.getD i.toNat 0 from if_pos g]; exact rg_at r6 _)
    rw [show atF l i = l.getD i.toNat 0 from if_pos g] at hp
    exact hp
theorem w_set {i v : Int} (hi : rg i) (hv : rg v) (hR : RW lim l cap f) (hp : ∀ f' l', l' = (if 0 ≤ i ∧ i < l.length then l.set i.toNat v else l) → RW lim l' cap f' → post none (c, cap, f', (l'.length : Int), nn, uu)) : Cm G (AW G x lim σ0) yX5_set cX5_set 3 none (d + 1) [.ref x, vi i, vi v] (c, cap, f, (l.length : Int), nn, uu) post := by
  obtain ⟨r2, r3, r4, r5, r6⟩ := id hR
  refine Cm_intro (L := [some (.ref x), some (vi i), some (vi v)]) (by decide +kernel) (Nat.le_of_ble_eq_true rfl) rfl ?_
  refine s_aload_n 1 dX5_set_0 rfl rfl ?_
  refine s_iload_n 2 dX5_set_1 rfl rfl ?_
  refine s_V1b 5 dX5_set_2 rfl km_X5_has ml_X5_22 ds_X5_has (Nat.le_of_ble_eq_true rfl) w_rec rfl (w_has hi hR ?_)
  refine ⟨_, rfl, ?_⟩
  refine s_if_eqb 8 15 dX5_set_5 rfl rfl (fun g => ?_) (fun g => ?_)
  · have g := of_decide_eq_false g
    refine s_return rfl dX5_set_15 ?_
    exact hp f l (by rw [if_neg g]) hR
  · have g := of_decide_eq_true g
    refine s_aload_n 9 dX5_set_8 rfl rfl ?_
    refine w_get (k := 1) 12 dX5_set_9 rfl fl_X5_9 (by decide) rfl ?_
    refine s_iload_n 13 dX5_set_12 rfl rfl ?_
    refine s_iload_n 14 dX5_set_13 rfl rfl ?_
    refine w_ast 15 dX5_set_14 rfl ?_
    refine s_return rfl dX5_set_15 ?_
    have hp := hp (up f i.toNat (Int32.ofInt v)) (l.set i.toNat v) (by rw [if_pos g]) ⟨by rw [List.length_set]; exact r2, r3, r4, fun k hk => ?_, fun w hw => ?_⟩
    · rw [List.length_set] at hp
      exact hp
    · rw [List.length_set] at hk
      rw [getD_set (by omega)]
      by_cases e : k = i.toNat
      · rw [e, up_s, if_pos rfl]
      · rw [up_n e, if_neg e]; exact r5 k hk
    · rcases List.mem_or_eq_of_mem_set hw with h | h
      · exact r6 w h
      · rw [h]; exact hv
theorem w_clear (hR : RW lim l cap f) (hp : RW lim [] cap f → post none (c, cap, f, (([] : List Int).length : Int), nn, uu)) : Cm G (AW G x lim σ0) yX5_clear cX5_clear 1 none d [.ref x] (c, cap, f, (l.length : Int), nn, uu) post := by
  obtain ⟨r2, r3, r4, r5, r6⟩ := id hR
  refine Cm_intro (L := [some (.ref x)]) (by decide +kernel) (Nat.le_of_ble_eq_true rfl) rfl ?_
  refine s_aload_n 1 dX5_clear_0 rfl rfl ?_
  refine s_iconst 2 dX5_clear_1 rfl ?_
  refine w_psize 5 dX5_clear_2 rfl fl_X5_19 ?_
  refine s_return rfl dX5_clear_5 ?_
  exact hp ⟨Nat.zero_le _, r3, r4, fun k hk => absurd hk (by simp), fun v hv => absurd hv List.not_mem_nil⟩
theorem w_makeRoom {w : Int} (hw : 0 ≤ w ∧ w ≤ lim) (hR : RW lim l cap f) (hM : RM G lim cap nn uu) (hp : ∀ c' cap' f' nn' uu', RW lim l cap' f' → w ≤ cap' → stp lim c cap nn uu c' cap' nn' uu' → post none (c', cap', f', (l.length : Int), nn', uu')) : Cm G (AW G x lim σ0) yX5_makeRoom cX5_makeRoom 3 none (d + 1) [.ref x, vi w] (c, cap, f, (l.length : Int), nn, uu) post := by
  obtain ⟨r2, r3, r4, r5, r6⟩ := id hR
  refine Cm_intro (L := [some (.ref x), some (vi w), none]) (by decide +kernel) (Nat.le_of_ble_eq_true rfl) rfl ?_
  refine s_iload_n 1 dX5_makeRoom_0 rfl rfl ?_
  refine s_aload_n 2 dX5_makeRoom_1 rfl rfl ?_
  refine w_get (k := 1) 5 dX5_makeRoom_2 rfl fl_X5_9 (by decide) rfl ?_
  refine w_alen 6 dX5_makeRoom_5 rfl ?_
  refine s_icmp_le 9 54 dX5_makeRoom_6 rfl rfl (fun g => ?_) (fun g => ?_)
  · refine s_return rfl dX5_makeRoom_54 ?_
    exact hp c cap f nn uu hR g stp.rf
  refine s_aload_n 10 dX5_makeRoom_9 rfl rfl ?_
  refine w_get (k := 0) 13 dX5_makeRoom_10 rfl fl_X5_15 (by decide) rfl ?_
  refine s_iload_n 14 dX5_makeRoom_13 rfl rfl ?_
  refine s_bipush 16 dX5_makeRoom_14 rfl (k := ?_)
  refine s_iconst 17 dX5_makeRoom_16 rfl ?_
  refine s_aload_n 18 dX5_makeRoom_17 rfl rfl ?_
  refine w_get (k := 1) 21 dX5_makeRoom_18 rfl fl_X5_9 (by decide) rfl ?_
  refine w_alen 22 dX5_makeRoom_21 rfl ?_
  refine s_imul 23 dX5_makeRoom_22 rfl ?_
  refine s_max (q := 26) (hd := dX5_makeRoom_23) (hq := rfl) (hw := ml_X5_36) (hrest := Nat.le_of_ble_eq_true rfl) (k := ?_)
  refine s_max (q := 29) (hd := dX5_makeRoom_26) (hq := rfl) (hw := ml_X5_36) (hrest := Nat.le_of_ble_eq_true rfl) (k := ?_)
  refine s_min (q := 32) (hd := dX5_makeRoom_29) (hq := rfl) (hw := ml_X5_42) (hrest := Nat.le_of_ble_eq_true rfl) (k := ?_)
  obtain ⟨K, hK⟩ : ∃ K : Nat, K = min lim (max w.toNat (max 16 (4 * cap))) := ⟨_, rfl⟩
  have hpg := potF_grow (lim := lim) (cap := cap) (w := w.toNat) (by omega) (by omega) r4
  rw [← hK] at hpg
  obtain ⟨M1, M2⟩ := hM
  have hU2 : uu + K + potF lim K * lim ≤ uu + potF lim cap * lim := by
    have h1 : (potF lim K + 1) * lim ≤ potF lim cap * lim := Nat.mul_le_mul_right _ hpg
    rw [Nat.add_mul, Nat.one_mul] at h1
    omega
  rw [show min (lim : Int) (max w (max 16 (4 * (cap : Int)))) = (K : Int) by omega]
  refine V_lift (Abs := A1 G) fun H hA => ?_
  obtain ⟨⟨σ, n1, u1⟩, h1, h2⟩ := hA
  refine ⟨(σ, n1, u1), h1, ?_⟩
  obtain ⟨e1, e2, e3, e4, e5⟩ := id h2
  cases e1
  have lt : ∀ z e, σ z = some e → z < nn := fun z e h => by
    have h3 := (h1.2.2 z e h).2.lt
    have h4 : H.size = nn := h1.1
    rw [h4] at h3
    exact h3
  have hx : x < nn := lt x _ e2
  have hc : c < nn := lt c _ e3
  refine h_newa 34 dX5_makeRoom_32 rfl rfl (by omega) (by omega) (by omega) ?_
  have hx1 : up σ nn (some (.inl (gK G 0, K, .inl (fun _ => 0)))) x = some (.inr (5, [vi lim, .ref c, vi (l.length : Int)])) := by rw [up_n (by omega)]; exact e2
  have hc1 : up σ nn (some (.inl (gK G 0, K, .inl (fun _ => 0)))) c = some (.inl (gK G 0, cap, .inl f)) := by rw [up_n (by omega)]; exact e3
  refine s_astore_n 35 dX5_makeRoom_34 rfl (Nat.le_of_ble_eq_true rfl) rfl ?_
  refine s_aload_n 36 dX5_makeRoom_35 rfl rfl ?_
  refine h_get (Cn := RX5) (T := TX5) (N := 3) 39 1 dX5_makeRoom_36 rfl hx1 rfl lay_X5 fl_X5_9 (by decide) rfl ?_
  refine s_iconst 40 dX5_makeRoom_39 rfl ?_
  refine s_aload_n 41 dX5_makeRoom_40 rfl rfl ?_
  refine s_iconst 42 dX5_makeRoom_41 rfl ?_
  refine s_aload_n 43 dX5_makeRoom_42 rfl rfl ?_
  refine h_get (Cn := RX5) (T := TX5) (N := 3) 46 2 dX5_makeRoom_43 rfl hx1 rfl lay_X5 fl_X5_19 (by decide) rfl ?_
  refine h_copy 49 dX5_makeRoom_46 rfl ml_X5_30 hc1 (up_s _ _ _) (by omega) (by omega) (by omega) (by omega) (by omega) (by omega) (by omega) (Nat.le_of_ble_eq_true rfl) ?_
  rw [up_up]
  have hx2 : up σ nn (some (.inl (gK G 0, K, .inl (va_cpy f (fun _ => 0) (0 : Int).toNat (0 : Int).toNat (l.length : Int).toNat)))) x = some (.inr (5, [vi lim, .ref c, vi (l.length : Int)])) := by rw [up_n (by omega)]; exact e2
  refine s_aload_n 50 dX5_makeRoom_49 rfl rfl ?_
  refine s_aload_n 51 dX5_makeRoom_50 rfl rfl ?_
  refine h_put (Cn := RX5) (T := TX5) (N := 3) tyX5 54 1 dX5_makeRoom_51 rfl hx2 rfl lay_X5 tyX5_ok nmX5 fl_X5_9 (by decide) (Or.inl rfl) rfl rfl (by show 1 < 3; decide) ?_
  refine s_return rfl dX5_makeRoom_54 ?_
  refine ⟨(nn, K, va_cpy f (fun _ => 0) 0 0 l.length, (l.length : Int), nn + 1, uu + K), fun H2 hH2 => ⟨_, hH2, rfl, by show up _ x _ x = _; rw [up_s]; rfl, ?_, by show x ≠ nn; omega, fun z e hz => ?_⟩, hp nn K _ (nn + 1) (uu + K) ⟨by omega, by omega, r4, fun k hk => ?_, r6⟩ (by omega) ⟨by omega, by omega, Or.inr (Nat.le_refl _), by omega⟩⟩
  · show up _ x _ nn = _
    rw [up_n (by omega), up_s]
    rfl
  · obtain ⟨g1, g2, g3⟩ := e5 z e hz
    have hz2 := lt z e g1
    refine ⟨?_, g2, by show z ≠ nn; omega⟩
    show up _ x _ z = _
    rw [up_n g2, up_n (by omega)]
    exact g1
  · show (if 0 ≤ k ∧ k < 0 + l.length then f (0 + (k - 0)) else 0) = _
    rw [if_pos ⟨Nat.zero_le _, by omega⟩, show 0 + (k - 0) = k by omega]
    exact r5 k hk
theorem w_add {v : Int} (hv : rg v) (hR : RW lim l cap f) (hM : RM G lim cap nn uu) (hp : ∀ c' cap' f' nn' uu' l', l' = (if l.length < lim then l ++ [v] else l) → RW lim l' cap' f' → stp lim c cap nn uu c' cap' nn' uu' → post none (c', cap', f', (l'.length : Int), nn', uu')) : Cm G (AW G x lim σ0) yX5_add cX5_add 2 none (d + 2) [.ref x, vi v] (c, cap, f, (l.length : Int), nn, uu) post := by
  obtain ⟨r2, r3, r4, r5, r6⟩ := id hR
  refine Cm_intro (L := [some (.ref x), some (vi v)]) (by decide +kernel) (Nat.le_of_ble_eq_true rfl) rfl ?_
  refine s_aload_n 1 dX5_add_0 rfl rfl ?_
  refine w_get (k := 2) 4 dX5_add_1 rfl fl_X5_19 (by decide) rfl ?_
  refine s_aload_n 5 dX5_add_4 rfl rfl ?_
  refine w_get (k := 0) 8 dX5_add_5 rfl fl_X5_15 (by decide) rfl ?_
  refine s_icmp_ge 11 41 dX5_add_8 rfl rfl (fun g => ?_) (fun g => ?_)
  · refine s_return rfl dX5_add_41 ?_
    exact hp c cap f nn uu l (by rw [if_neg (by omega)]) hR stp.rf
  refine s_aload_n 12 dX5_add_11 rfl rfl ?_
  refine s_aload_n 13 dX5_add_12 rfl rfl ?_
  refine w_get (k := 2) 16 dX5_add_13 rfl fl_X5_19 (by decide) rfl ?_
  refine s_iconst 17 dX5_add_16 rfl ?_
  refine s_iadd 18 dX5_add_17 rfl ?_
  refine s_V1v 21 dX5_add_18 rfl km_X5_makeRoom ml_X5_26 ds_X5_makeRoom (Nat.le_of_ble_eq_true rfl) w_rec rfl (w_makeRoom (by omega) hR hM (fun c1 cap1 f1 nn1 uu1 q1 q2 q3 => ?_))
  refine ⟨rfl, ?_⟩
  obtain ⟨s2, s3, s4, s5, s6⟩ := id q1
  refine s_aload_n 22 dX5_add_21 rfl rfl ?_
  refine w_get (k := 1) 25 dX5_add_22 rfl fl_X5_9 (by decide) rfl ?_
  refine s_aload_n 26 dX5_add_25 rfl rfl ?_
  refine w_get (k := 2) 29 dX5_add_26 rfl fl_X5_19 (by decide) rfl ?_
  refine s_iload_n 30 dX5_add_29 rfl rfl ?_
  refine w_ast 31 dX5_add_30 rfl ?_
  refine s_aload_n 32 dX5_add_31 rfl rfl ?_
  refine s_dup (q := 33) (hd := dX5_add_32) (hq := rfl) (k := ?_)
  refine w_get (k := 2) 36 dX5_add_33 rfl fl_X5_19 (by decide) rfl ?_
  refine s_iconst 37 dX5_add_36 rfl ?_
  refine s_iadd 38 dX5_add_37 rfl ?_
  refine w_psize 41 dX5_add_38 rfl fl_X5_19 ?_
  refine s_return rfl dX5_add_41 ?_
  rw [show (l.length : Int) + 1 = ((l ++ [v]).length : Int) by rw [List.length_append, List.length_singleton]; omega]
  refine hp c1 cap1 _ nn1 uu1 (l ++ [v]) (by rw [if_pos (by omega)]) ⟨by rw [List.length_append, List.length_singleton]; omega, s3, s4, fun k hk => ?_, fun w hw => ?_⟩ q3
  · rw [List.length_append, List.length_singleton] at hk
    rw [show ((l.length : Int)).toNat = l.length from rfl]
    by_cases e : k = l.length
    · rw [e, up_s, getD_snoc_eq]
    · rw [up_n e, getD_snoc_lt (by omega)]; exact s5 k (by omega)
  · rcases List.mem_append.mp hw with h | h
    · exact r6 w h
    · rw [List.mem_singleton.mp h]; exact hv
theorem getD_slice {l : List Int} {a k j : Nat} (h : j < k) (h2 : a + k ≤ l.length) : ((l.drop a).take k).getD j 0 = l.getD (a + j) 0 := by
  rw [List.getD_eq_getElem?_getD, List.getD_eq_getElem?_getD, List.getElem?_take, if_pos h, List.getElem?_drop]
theorem w_addAll {z cz lz capz : Nat} {g : Nat → Int32} {l2 : List Int} {i k : Int} (hi : rg i) (hk : rg k) (ho : σ0 z = some (.inr (5, [vi lz, .ref cz, vi (l2.length : Int)]))) (ha : σ0 cz = some (.inl (gK G 0, capz, .inl g))) (hR2 : RW lz l2 capz g) (hR : RW lim l cap f) (hM : RM G lim cap nn uu) (hp : ∀ c' cap' f' nn' uu' l', l' = (if 0 ≤ i ∧ 0 < k ∧ k ≤ l2.length - i ∧ k ≤ lim - l.length then l ++ (l2.drop i.toNat).take k.toNat else l) → RW lim l' cap' f' → stp lim c cap nn uu c' cap' nn' uu' → post none (c', cap', f', (l'.length : Int), nn', uu')) : Cm G (AW G x lim σ0) yX5_addAll cX5_addAll 4 none (d + 2) [.ref x, .ref z, vi i, vi k] (c, cap, f, (l.length : Int), nn, uu) post := by
  obtain ⟨r2, r3, r4, r5, r6⟩ := id hR
  obtain ⟨t2, t3, t4, t5, t6⟩ := id hR2
  refine Cm_intro (L := [some (.ref x), some (.ref z), some (vi i), some (vi k)]) (by decide +kernel) (Nat.le_of_ble_eq_true rfl) rfl ?_
  refine s_iload_n 1 dX5_addAll_0 rfl rfl ?_
  refine s_if_lt 4 31 dX5_addAll_1 rfl rfl (fun g1 => ?_) (fun g1 => ?_)
  · refine s_return rfl dX5_addAll_31 ?_
    exact hp c cap f nn uu l (by rw [if_neg (fun h => by omega)]) hR stp.rf
  refine s_iload_n 5 dX5_addAll_4 rfl rfl ?_
  refine s_if_le 8 31 dX5_addAll_5 rfl rfl (fun g2 => ?_) (fun g2 => ?_)
  · refine s_return rfl dX5_addAll_31 ?_
    exact hp c cap f nn uu l (by rw [if_neg (fun h => by omega)]) hR stp.rf
  refine s_iload_n 9 dX5_addAll_8 rfl rfl ?_
  refine s_aload_n 10 dX5_addAll_9 rfl rfl ?_
  refine w_oget (k := 2) 13 dX5_addAll_10 rfl ho fl_X5_19 (by decide) rfl ?_
  refine s_iload_n 14 dX5_addAll_13 rfl rfl ?_
  refine s_isub 15 dX5_addAll_14 rfl ?_
  refine s_icmp_gt 18 31 dX5_addAll_15 rfl rfl (fun g3 => ?_) (fun g3 => ?_)
  · refine s_return rfl dX5_addAll_31 ?_
    exact hp c cap f nn uu l (by rw [if_neg (fun h => by omega)]) hR stp.rf
  refine s_iload_n 19 dX5_addAll_18 rfl rfl ?_
  refine s_aload_n 20 dX5_addAll_19 rfl rfl ?_
  refine w_get (k := 0) 23 dX5_addAll_20 rfl fl_X5_15 (by decide) rfl ?_
  refine s_aload_n 24 dX5_addAll_23 rfl rfl ?_
  refine w_get (k := 2) 27 dX5_addAll_24 rfl fl_X5_19 (by decide) rfl ?_
  refine s_isub 28 dX5_addAll_27 rfl ?_
  refine s_icmp_le 31 32 dX5_addAll_28 rfl rfl (fun g4 => ?_) (fun g4 => ?_)
  rotate_left
  · refine s_return rfl dX5_addAll_31 ?_
    exact hp c cap f nn uu l (by rw [if_neg (fun h => by omega)]) hR stp.rf
  refine s_aload_n 33 dX5_addAll_32 rfl rfl ?_
  refine s_aload_n 34 dX5_addAll_33 rfl rfl ?_
  refine w_get (k := 2) 37 dX5_addAll_34 rfl fl_X5_19 (by decide) rfl ?_
  refine s_iload_n 38 dX5_addAll_37 rfl rfl ?_
  refine s_iadd 39 dX5_addAll_38 rfl ?_
  refine s_V1v 42 dX5_addAll_39 rfl km_X5_makeRoom ml_X5_26 ds_X5_makeRoom (Nat.le_of_ble_eq_true rfl) w_rec rfl (w_makeRoom (by omega) hR hM (fun c1 cap1 f1 nn1 uu1 q1 q2 q3 => ?_))
  refine ⟨rfl, ?_⟩
  obtain ⟨s2, s3, s4, s5, s6⟩ := id q1
  refine s_aload_n 43 dX5_addAll_42 rfl rfl ?_
  refine w_oget (k := 1) 46 dX5_addAll_43 rfl ho fl_X5_9 (by decide) rfl ?_
  refine s_iload_n 47 dX5_addAll_46 rfl rfl ?_
  refine s_aload_n 48 dX5_addAll_47 rfl rfl ?_
  refine w_get (k := 1) 51 dX5_addAll_48 rfl fl_X5_9 (by decide) rfl ?_
  refine s_aload_n 52 dX5_addAll_51 rfl rfl ?_
  refine w_get (k := 2) 55 dX5_addAll_52 rfl fl_X5_19 (by decide) rfl ?_
  refine s_iload_n 56 dX5_addAll_55 rfl rfl ?_
  refine w_copyO 59 dX5_addAll_56 rfl ml_X5_30 ha (by omega) (by omega) (by omega) (by omega) (by omega) (by omega) (by omega) (Nat.le_of_ble_eq_true rfl) ?_
  refine s_aload_n 60 dX5_addAll_59 rfl rfl ?_
  refine s_dup (q := 61) (hd := dX5_addAll_60) (hq := rfl) (k := ?_)
  refine w_get (k := 2) 64 dX5_addAll_61 rfl fl_X5_19 (by decide) rfl ?_
  refine s_iload_n 65 dX5_addAll_64 rfl rfl ?_
  refine s_iadd 66 dX5_addAll_65 rfl ?_
  refine w_psize 69 dX5_addAll_66 rfl fl_X5_19 ?_
  refine s_return rfl dX5_addAll_69 ?_
  have hlen : ((l2.drop i.toNat).take k.toNat).length = k.toNat := len_take_drop (by omega)
  rw [show (l.length : Int) + k = ((l ++ (l2.drop i.toNat).take k.toNat).length : Int) by rw [List.length_append, hlen]; omega]
  refine hp c1 cap1 _ nn1 uu1 _ (by rw [if_pos ⟨by omega, by omega, by omega, by omega⟩]) ⟨by rw [List.length_append, hlen]; omega, s3, s4, fun j hj => ?_, fun w hw => ?_⟩ q3
  · rw [List.length_append, hlen] at hj
    show (if ((l.length : Int)).toNat ≤ j ∧ j < ((l.length : Int)).toNat + k.toNat then g (i.toNat + (j - ((l.length : Int)).toNat)) else f1 j) = _
    rw [show ((l.length : Int)).toNat = l.length from rfl]
    by_cases e : l.length ≤ j
    · rw [if_pos ⟨e, hj⟩, getD_append_ge e, getD_slice (by omega) (by omega)]
      exact t5 _ (by omega)
    · rw [if_neg (fun h => e h.1), getD_append_lt (by omega)]
      exact s5 j (by omega)
  · rcases List.mem_append.mp hw with h | h
    · exact r6 w h
    · exact t6 w (List.mem_of_mem_drop (List.mem_of_mem_take h))
theorem w_insertAt {i v : Int} (hi : rg i) (hv : rg v) (hR : RW lim l cap f) (hM : RM G lim cap nn uu) (hp : ∀ c' cap' f' nn' uu' l', l' = (if 0 ≤ i ∧ i ≤ l.length ∧ l.length < lim then insL l i.toNat v else l) → RW lim l' cap' f' → stp lim c cap nn uu c' cap' nn' uu' → post none (c', cap', f', (l'.length : Int), nn', uu')) : Cm G (AW G x lim σ0) yX5_insertAt cX5_insertAt 3 none (d + 2) [.ref x, vi i, vi v] (c, cap, f, (l.length : Int), nn, uu) post := by
  obtain ⟨r2, r3, r4, r5, r6⟩ := id hR
  refine Cm_intro (L := [some (.ref x), some (vi i), some (vi v)]) (by decide +kernel) (Nat.le_of_ble_eq_true rfl) rfl ?_
  refine s_iload_n 1 dX5_insertAt_0 rfl rfl ?_
  refine s_if_lt 4 23 dX5_insertAt_1 rfl rfl (fun g1 => ?_) (fun g1 => ?_)
  · refine s_return rfl dX5_insertAt_23 ?_
    exact hp c cap f nn uu l (by rw [if_neg (fun h => by omega)]) hR stp.rf
  refine s_iload_n 5 dX5_insertAt_4 rfl rfl ?_
  refine s_aload_n 6 dX5_insertAt_5 rfl rfl ?_
  refine w_get (k := 2) 9 dX5_insertAt_6 rfl fl_X5_19 (by decide) rfl ?_
  refine s_icmp_gt 12 23 dX5_insertAt_9 rfl rfl (fun g2 => ?_) (fun g2 => ?_)
  · refine s_return rfl dX5_insertAt_23 ?_
    exact hp c cap f nn uu l (by rw [if_neg (fun h => by omega)]) hR stp.rf
  refine s_aload_n 13 dX5_insertAt_12 rfl rfl ?_
  refine w_get (k := 2) 16 dX5_insertAt_13 rfl fl_X5_19 (by decide) rfl ?_
  refine s_aload_n 17 dX5_insertAt_16 rfl rfl ?_
  refine w_get (k := 0) 20 dX5_insertAt_17 rfl fl_X5_15 (by decide) rfl ?_
  refine s_icmp_lt 23 24 dX5_insertAt_20 rfl rfl (fun g3 => ?_) (fun g3 => ?_)
  rotate_left
  · refine s_return rfl dX5_insertAt_23 ?_
    exact hp c cap f nn uu l (by rw [if_neg (fun h => by omega)]) hR stp.rf
  refine s_aload_n 25 dX5_insertAt_24 rfl rfl ?_
  refine s_aload_n 26 dX5_insertAt_25 rfl rfl ?_
  refine w_get (k := 2) 29 dX5_insertAt_26 rfl fl_X5_19 (by decide) rfl ?_
  refine s_iconst 30 dX5_insertAt_29 rfl ?_
  refine s_iadd 31 dX5_insertAt_30 rfl ?_
  refine s_V1v 34 dX5_insertAt_31 rfl km_X5_makeRoom ml_X5_26 ds_X5_makeRoom (Nat.le_of_ble_eq_true rfl) w_rec rfl (w_makeRoom (by omega) hR hM (fun c1 cap1 f1 nn1 uu1 q1 q2 q3 => ?_))
  refine ⟨rfl, ?_⟩
  obtain ⟨s2, s3, s4, s5, s6⟩ := id q1
  refine s_aload_n 35 dX5_insertAt_34 rfl rfl ?_
  refine w_get (k := 1) 38 dX5_insertAt_35 rfl fl_X5_9 (by decide) rfl ?_
  refine s_iload_n 39 dX5_insertAt_38 rfl rfl ?_
  refine s_aload_n 40 dX5_insertAt_39 rfl rfl ?_
  refine w_get (k := 1) 43 dX5_insertAt_40 rfl fl_X5_9 (by decide) rfl ?_
  refine s_iload_n 44 dX5_insertAt_43 rfl rfl ?_
  refine s_iconst 45 dX5_insertAt_44 rfl ?_
  refine s_iadd 46 dX5_insertAt_45 rfl ?_
  refine s_aload_n 47 dX5_insertAt_46 rfl rfl ?_
  refine w_get (k := 2) 50 dX5_insertAt_47 rfl fl_X5_19 (by decide) rfl ?_
  refine s_iload_n 51 dX5_insertAt_50 rfl rfl ?_
  refine s_isub 52 dX5_insertAt_51 rfl ?_
  refine w_copyS 55 dX5_insertAt_52 rfl ml_X5_30 (by omega) (by omega) (by omega) (by omega) (by omega) (by omega) (Nat.le_of_ble_eq_true rfl) ?_
  refine s_aload_n 56 dX5_insertAt_55 rfl rfl ?_
  refine w_get (k := 1) 59 dX5_insertAt_56 rfl fl_X5_9 (by decide) rfl ?_
  refine s_iload_n 60 dX5_insertAt_59 rfl rfl ?_
  refine s_iload_n 61 dX5_insertAt_60 rfl rfl ?_
  refine w_ast 62 dX5_insertAt_61 rfl ?_
  refine s_aload_n 63 dX5_insertAt_62 rfl rfl ?_
  refine s_dup (q := 64) (hd := dX5_insertAt_63) (hq := rfl) (k := ?_)
  refine w_get (k := 2) 67 dX5_insertAt_64 rfl fl_X5_19 (by decide) rfl ?_
  refine s_iconst 68 dX5_insertAt_67 rfl ?_
  refine s_iadd 69 dX5_insertAt_68 rfl ?_
  refine w_psize 72 dX5_insertAt_69 rfl fl_X5_19 ?_
  refine s_return rfl dX5_insertAt_72 ?_
  obtain ⟨k, rfl⟩ := Int.eq_ofNat_of_zero_le (show 0 ≤ i by omega)
  have hlen : (insL l k v).length = l.length + 1 := by
    unfold insL
    rw [List.length_append, List.length_take_of_le (by omega), List.length_cons, List.length_drop]
    omega
  rw [show (l.length : Int) + 1 = ((insL l k v).length : Int) by rw [hlen]; omega]
  refine hp c1 cap1 _ nn1 uu1 _ (by rw [if_pos ⟨by omega, by omega, by omega⟩]; rfl) ⟨by rw [hlen]; omega, s3, s4, fun j hj => ?_, fun w hw => ?_⟩ q3
  · rw [hlen] at hj
    rw [show ((k : Int)).toNat = k from rfl]
    by_cases e : j = k
    · rw [e, up_s]
      unfold insL
      rw [getD_append_ge (by rw [List.length_take_of_le (by omega)]; omega), List.length_take_of_le (by omega), Nat.sub_self]
      rfl
    · rw [up_n e]
      show (if (((k : Int)) + 1).toNat ≤ j ∧ j < (((k : Int)) + 1).toNat + ((l.length : Int) - k).toNat then f1 (k + (j - (((k : Int)) + 1).toNat)) else f1 j) = _
      rw [show (((k : Int)) + 1).toNat = k + 1 by omega, show ((l.length : Int) - k).toNat = l.length - k by omega]
      unfold insL
      by_cases e2 : j < k
      · rw [if_neg (fun h => by omega), getD_append_lt (by rw [List.length_take_of_le (by omega)]; omega), s5 j (by omega)]
        rw [List.getD_eq_getElem?_getD, List.getD_eq_getElem?_getD, List.getElem?_take, if_pos e2]
      · rw [if_pos ⟨by omega, by omega⟩, getD_append_ge (by rw [List.length_take_of_le (by omega)]; omega), List.length_take_of_le (by omega), s5 _ (by omega)]
        obtain ⟨q, hq⟩ : ∃ q, j - k = q + 1 := ⟨j - k - 1, by omega⟩
        rw [hq, List.getD_eq_getElem?_getD, List.getD_eq_getElem?_getD, List.getElem?_cons_succ, List.getElem?_drop]
        congr 3
        omega
  · unfold insL at hw
    rcases List.mem_append.mp hw with h | h
    · exact r6 w (List.mem_of_mem_take h)
    · rcases List.mem_cons.mp h with h | h
      · rw [h]; exact hv
      · exact r6 w (List.mem_of_mem_drop h)
theorem w_removeAt {i : Int} (hi : rg i) (hR : RW lim l cap f) (hp : ∀ f' l', l' = (if 0 ≤ i ∧ i < l.length then losL l i.toNat else l) → RW lim l' cap f' → post none (c, cap, f', (l'.length : Int), nn, uu)) : Cm G (AW G x lim σ0) yX5_removeAt cX5_removeAt 2 none (d + 1) [.ref x, vi i] (c, cap, f, (l.length : Int), nn, uu) post := by
  obtain ⟨r2, r3, r4, r5, r6⟩ := id hR
  refine Cm_intro (L := [some (.ref x), some (vi i)]) (by decide +kernel) (Nat.le_of_ble_eq_true rfl) rfl ?_
  refine s_aload_n 1 dX5_removeAt_0 rfl rfl ?_
  refine s_iload_n 2 dX5_removeAt_1 rfl rfl ?_
  refine s_V1b 5 dX5_removeAt_2 rfl km_X5_has ml_X5_22 ds_X5_has (Nat.le_of_ble_eq_true rfl) w_rec rfl (w_has hi hR ?_)
  refine ⟨_, rfl, ?_⟩
  refine s_if_eqb 8 41 dX5_removeAt_5 rfl rfl (fun g => ?_) (fun g => ?_)
  · have g := of_decide_eq_false g
    refine s_return rfl dX5_removeAt_41 ?_
    exact hp f l (by rw [if_neg g]) hR
  · have g := of_decide_eq_true g
    refine s_aload_n 9 dX5_removeAt_8 rfl rfl ?_
    refine w_get (k := 1) 12 dX5_removeAt_9 rfl fl_X5_9 (by decide) rfl ?_
    refine s_iload_n 13 dX5_removeAt_12 rfl rfl ?_
    refine s_iconst 14 dX5_removeAt_13 rfl ?_
    refine s_iadd 15 dX5_removeAt_14 rfl ?_
    refine s_aload_n 16 dX5_removeAt_15 rfl rfl ?_
    refine w_get (k := 1) 19 dX5_removeAt_16 rfl fl_X5_9 (by decide) rfl ?_
    refine s_iload_n 20 dX5_removeAt_19 rfl rfl ?_
    refine s_aload_n 21 dX5_removeAt_20 rfl rfl ?_
    refine w_get (k := 2) 24 dX5_removeAt_21 rfl fl_X5_19 (by decide) rfl ?_
    refine s_iload_n 25 dX5_removeAt_24 rfl rfl ?_
    refine s_isub 26 dX5_removeAt_25 rfl ?_
    refine s_iconst 27 dX5_removeAt_26 rfl ?_
    refine s_isub 28 dX5_removeAt_27 rfl ?_
    refine w_copyS 31 dX5_removeAt_28 rfl ml_X5_30 (by omega) (by omega) (by omega) (by omega) (by omega) (by omega) (Nat.le_of_ble_eq_true rfl) ?_
    refine s_aload_n 32 dX5_removeAt_31 rfl rfl ?_
    refine s_dup (q := 33) (hd := dX5_removeAt_32) (hq := rfl) (k := ?_)
    refine w_get (k := 2) 36 dX5_removeAt_33 rfl fl_X5_19 (by decide) rfl ?_
    refine s_iconst 37 dX5_removeAt_36 rfl ?_
    refine s_isub 38 dX5_removeAt_37 rfl ?_
    refine w_psize 41 dX5_removeAt_38 rfl fl_X5_19 ?_
    refine s_return rfl dX5_removeAt_41 ?_
    obtain ⟨k, rfl⟩ := Int.eq_ofNat_of_zero_le g.1
    have hlen : (losL l k).length = l.length - 1 := by
      unfold losL
      rw [List.length_append, List.length_take_of_le (by omega), List.length_drop]
      omega
    rw [show (l.length : Int) - 1 = ((losL l k).length : Int) by rw [hlen]; omega]
    refine hp _ _ (by rw [if_pos g]; rfl) ⟨by rw [hlen]; omega, r3, r4, fun j hj => ?_, fun w hw => ?_⟩
    · rw [hlen] at hj
      show (if ((k : Int)).toNat ≤ j ∧ j < ((k : Int)).toNat + ((l.length : Int) - k - 1).toNat then f (((k : Int) + 1).toNat + (j - ((k : Int)).toNat)) else f j) = _
      rw [show ((k : Int)).toNat = k from rfl, show ((k : Int) + 1).toNat = k + 1 by omega, show ((l.length : Int) - k - 1).toNat = l.length - k - 1 by omega]
      unfold losL
      by_cases e : k ≤ j
      · rw [if_pos ⟨e, by omega⟩, getD_append_ge (by rw [List.length_take_of_le (by omega)]; omega), List.length_take_of_le (by omega), r5 _ (by omega)]
        rw [List.getD_eq_getElem?_getD, List.getD_eq_getElem?_getD, List.getElem?_drop]
      · rw [if_neg (fun h => e h.1), getD_append_lt (by rw [List.length_take_of_le (by omega)]; omega), r5 _ (by omega)]
        rw [List.getD_eq_getElem?_getD, List.getD_eq_getElem?_getD, List.getElem?_take, if_pos (by omega)]
    · unfold losL at hw
      rcases List.mem_append.mp hw with h | h
      · exact r6 w (List.mem_of_mem_take h)
      · exact r6 w (List.mem_of_mem_drop h)
theorem w_dropFirst {i : Int} (hi : rg i) (hR : RW lim l cap f) (hp : ∀ f' l', l' = (if 0 < i ∧ i ≤ l.length then l.drop i.toNat else l) → RW lim l' cap f' → post none (c, cap, f', (l'.length : Int), nn, uu)) : Cm G (AW G x lim σ0) yX5_dropFirst cX5_dropFirst 2 none (d + 1) [.ref x, vi i] (c, cap, f, (l.length : Int), nn, uu) post := by
  obtain ⟨r2, r3, r4, r5, r6⟩ := id hR
  refine Cm_intro (L := [some (.ref x), some (vi i)]) (by decide +kernel) (Nat.le_of_ble_eq_true rfl) rfl ?_
  refine s_iload_n 1 dX5_dropFirst_0 rfl rfl ?_
  refine s_if_le 4 41 dX5_dropFirst_1 rfl rfl (fun g1 => ?_) (fun g1 => ?_)
  · refine s_return rfl dX5_dropFirst_41 ?_
    exact hp f l (by rw [if_neg (fun h => by omega)]) hR
  refine s_iload_n 5 dX5_dropFirst_4 rfl rfl ?_
  refine s_aload_n 6 dX5_dropFirst_5 rfl rfl ?_
  refine w_get (k := 2) 9 dX5_dropFirst_6 rfl fl_X5_19 (by decide) rfl ?_
  refine s_icmp_gt 12 41 dX5_dropFirst_9 rfl rfl (fun g2 => ?_) (fun g2 => ?_)
  · refine s_return rfl dX5_dropFirst_41 ?_
    exact hp f l (by rw [if_neg (fun h => by omega)]) hR
  refine s_aload_n 13 dX5_dropFirst_12 rfl rfl ?_
  refine w_get (k := 1) 16 dX5_dropFirst_13 rfl fl_X5_9 (by decide) rfl ?_
  refine s_iload_n 17 dX5_dropFirst_16 rfl rfl ?_
  refine s_aload_n 18 dX5_dropFirst_17 rfl rfl ?_
  refine w_get (k := 1) 21 dX5_dropFirst_18 rfl fl_X5_9 (by decide) rfl ?_
  refine s_iconst 22 dX5_dropFirst_21 rfl ?_
  refine s_aload_n 23 dX5_dropFirst_22 rfl rfl ?_
  refine w_get (k := 2) 26 dX5_dropFirst_23 rfl fl_X5_19 (by decide) rfl ?_
  refine s_iload_n 27 dX5_dropFirst_26 rfl rfl ?_
  refine s_isub 28 dX5_dropFirst_27 rfl ?_
  refine w_copyS 31 dX5_dropFirst_28 rfl ml_X5_30 (by omega) (by omega) (by omega) (by omega) (by omega) (by omega) (Nat.le_of_ble_eq_true rfl) ?_
  refine s_aload_n 32 dX5_dropFirst_31 rfl rfl ?_
  refine s_dup (q := 33) (hd := dX5_dropFirst_32) (hq := rfl) (k := ?_)
  refine w_get (k := 2) 36 dX5_dropFirst_33 rfl fl_X5_19 (by decide) rfl ?_
  refine s_iload_n 37 dX5_dropFirst_36 rfl rfl ?_
  refine s_isub 38 dX5_dropFirst_37 rfl ?_
  refine w_psize 41 dX5_dropFirst_38 rfl fl_X5_19 ?_
  refine s_return rfl dX5_dropFirst_41 ?_
  obtain ⟨k, rfl⟩ := Int.eq_ofNat_of_zero_le (show 0 ≤ i by omega)
  rw [show (l.length : Int) - (k : Int) = ((l.drop k).length : Int) by rw [List.length_drop]; omega]
  refine hp _ _ (by rw [if_pos ⟨by omega, by omega⟩]; rfl) ⟨by rw [List.length_drop]; omega, r3, r4, fun j hj => ?_, fun w hw => r6 w (List.mem_of_mem_drop hw)⟩
  rw [List.length_drop] at hj
  show (if 0 ≤ j ∧ j < 0 + (((l.drop k).length : Int)).toNat then f (((k : Int)).toNat + (j - 0)) else f j) = _
  rw [show ((k : Int)).toNat = k from rfl, List.length_drop, if_pos ⟨by omega, by omega⟩, r5 _ (by omega)]
  rw [List.getD_eq_getElem?_getD, List.getD_eq_getElem?_getD, List.getElem?_drop]
  rfl
theorem w_copyFrom {z cz lz capz : Nat} {g : Nat → Int32} {l2 : List Int} (ho : σ0 z = some (.inr (5, [vi lz, .ref cz, vi (l2.length : Int)]))) (ha : σ0 cz = some (.inl (gK G 0, capz, .inl g))) (hR2 : RW lz l2 capz g) (hR : RW lim l cap f) (hM : RM G lim cap nn uu) (hp : ∀ c' cap' f' nn' uu' l', l' = l2.take lim → RW lim l' cap' f' → stp lim c cap nn uu c' cap' nn' uu' → post none (c', cap', f', (l'.length : Int), nn', uu')) : Cm G (AW G x lim σ0) yX5_copyFrom cX5_copyFrom 3 none (d + 2) [.ref x, .ref z] (c, cap, f, (l.length : Int), nn, uu) post := by
  obtain ⟨r2, r3, r4, r5, r6⟩ := id hR
  obtain ⟨t2, t3, t4, t5, t6⟩ := id hR2
  refine Cm_intro (L := [some (.ref x), some (.ref z), none]) (by decide +kernel) (Nat.le_of_ble_eq_true rfl) rfl ?_
  refine s_aload_n 1 dX5_copyFrom_0 rfl rfl ?_
  refine w_get (k := 0) 4 dX5_copyFrom_1 rfl fl_X5_15 (by decide) rfl ?_
  refine s_aload_n 5 dX5_copyFrom_4 rfl rfl ?_
  refine w_oget (k := 2) 8 dX5_copyFrom_5 rfl ho fl_X5_19 (by decide) rfl ?_
  refine s_min (q := 11) (hd := dX5_copyFrom_8) (hq := rfl) (hw := ml_X5_42) (hrest := Nat.le_of_ble_eq_true rfl) (k := ?_)
  refine s_istore_n 12 dX5_copyFrom_11 rfl (Nat.le_of_ble_eq_true rfl) rfl ?_
  refine s_aload_n 13 dX5_copyFrom_12 rfl rfl ?_
  refine s_iconst 14 dX5_copyFrom_13 rfl ?_
  refine w_psize 17 dX5_copyFrom_14 rfl fl_X5_19 ?_
  refine s_aload_n 18 dX5_copyFrom_17 rfl rfl ?_
  refine s_iload_n 19 dX5_copyFrom_18 rfl rfl ?_
  have hR0 : RW lim ([] : List Int) cap f := ⟨Nat.zero_le _, r3, r4, fun k hk => absurd hk (by simp), fun v hv => absurd hv List.not_mem_nil⟩
  have hlen : (l2.take lim).length = min lim l2.length := List.length_take
  rw [show min (lim : Int) (l2.length : Int) = ((l2.take lim).length : Int) by rw [hlen]; omega]
  refine s_V1v 22 dX5_copyFrom_19 rfl km_X5_makeRoom ml_X5_26 ds_X5_makeRoom (Nat.le_of_ble_eq_true rfl) w_rec rfl (w_makeRoom (l := []) (by rw [hlen]; omega) hR0 hM (fun c1 cap1 f1 nn1 uu1 q1 q2 q3 => ?_))
  refine ⟨rfl, ?_⟩
  obtain ⟨s2, s3, s4, s5, s6⟩ := id q1
  refine s_aload_n 23 dX5_copyFrom_22 rfl rfl ?_
  refine w_oget (k := 1) 26 dX5_copyFrom_23 rfl ho fl_X5_9 (by decide) rfl ?_
  refine s_iconst 27 dX5_copyFrom_26 rfl ?_
  refine s_aload_n 28 dX5_copyFrom_27 rfl rfl ?_
  refine w_get (k := 1) 31 dX5_copyFrom_28 rfl fl_X5_9 (by decide) rfl ?_
  refine s_iconst 32 dX5_copyFrom_31 rfl ?_
  refine s_iload_n 33 dX5_copyFrom_32 rfl rfl ?_
  refine w_copyO 36 dX5_copyFrom_33 rfl ml_X5_30 ha (by omega) (by omega) (by omega) (by rw [hlen]; omega) (by omega) (by omega) (by omega) (Nat.le_of_ble_eq_true rfl) ?_
  refine s_aload_n 37 dX5_copyFrom_36 rfl rfl ?_
  refine s_iload_n 38 dX5_copyFrom_37 rfl rfl ?_
  refine w_psize 41 dX5_copyFrom_38 rfl fl_X5_19 ?_
  refine s_return rfl dX5_copyFrom_41 ?_
  refine hp c1 cap1 _ nn1 uu1 _ rfl ⟨by omega, s3, s4, fun j hj => ?_, fun w hw => t6 w (List.mem_of_mem_take hw)⟩ q3
  show (if 0 ≤ j ∧ j < 0 + (((l2.take lim).length : Int)).toNat then g (0 + (j - 0)) else f1 j) = _
  rw [if_pos ⟨Nat.zero_le _, by omega⟩, show 0 + (j - 0) = j by omega, t5 _ (by omega)]
  rw [List.getD_eq_getElem?_getD, List.getD_eq_getElem?_getD, List.getElem?_take, if_pos (by omega)]
theorem w_greatest (hR : RW lim l cap f) (hb : byt l) (hp : post (some (vi (greF l))) (c, cap, f, (l.length : Int), nn, uu)) : Cm G (AW G x lim σ0) yX5_greatest cX5_greatest 3 (some .int) (d + 1) [.ref x] (c, cap, f, (l.length : Int), nn, uu) post := by
  obtain ⟨r2, r3, r4, r5, r6⟩ := id hR
  refine Cm_intro (L := [some (.ref x), none, none]) (by decide +kernel) (Nat.le_of_ble_eq_true rfl) rfl ?_
  refine s_iconst 1 dX5_greatest_0 rfl ?_
  refine s_istore_n 2 dX5_greatest_1 rfl (Nat.le_of_ble_eq_true rfl) rfl ?_
  refine s_iconst 3 dX5_greatest_2 rfl ?_
  refine s_istore_n 4 dX5_greatest_3 rfl (Nat.le_of_ble_eq_true rfl) rfl ?_
  have key : ∀ (m k : Nat), k + m = l.length → V G (AW G x lim σ0) yX5_greatest cX5_greatest 3 (some .int) (d + 1) (c, cap, f, (l.length : Int), nn, uu) 4 [some (.ref x), some (vi (greF (l.take k))), some (vi k)] [] post := by
    intro m
    induction m with
    | zero =>
      intro k hk
      rw [List.take_of_length_le (by omega)]
      refine s_iload_n 5 dX5_greatest_4 rfl rfl ?_
      refine s_aload_n 6 dX5_greatest_5 rfl rfl ?_
      refine w_get (k := 2) 9 dX5_greatest_6 rfl fl_X5_19 (by decide) rfl ?_
      refine s_icmp_ge 12 29 dX5_greatest_9 rfl rfl (fun g => ?_) (fun g => ?_)
      rotate_left
      · omega
      refine s_iload_n 30 dX5_greatest_29 rfl rfl ?_
      refine s_ireturn rfl dX5_greatest_30 ?_
      exact hp
    | succ m ih =>
      intro k hk
      refine s_iload_n 5 dX5_greatest_4 rfl rfl ?_
      refine s_aload_n 6 dX5_greatest_5 rfl rfl ?_
      refine w_get (k := 2) 9 dX5_greatest_6 rfl fl_X5_19 (by decide) rfl ?_
      refine s_icmp_ge 12 29 dX5_greatest_9 rfl rfl (fun g => ?_) (fun g => ?_)
      · omega
      have hg := greF_rg (byt_take hb k)
      have hv := byt_at hb k
      refine s_iload_n 13 dX5_greatest_12 rfl rfl ?_
      refine s_aload_n 14 dX5_greatest_13 rfl rfl ?_
      refine w_get (k := 1) 17 dX5_greatest_14 rfl fl_X5_9 (by decide) rfl ?_
      refine s_iload_n 18 dX5_greatest_17 rfl rfl ?_
      refine w_ald 19 dX5_greatest_18 rfl ?_
      rw [show ((k : Int)).toNat = k from rfl, show (Value.int (f k)) = vi (l.getD k 0) by rw [r5 _ (by omega)]; rfl]
      refine s_max (q := 22) (hd := dX5_greatest_19) (hq := rfl) (hw := ml_X5_36) (hrest := Nat.le_of_ble_eq_true rfl) (k := ?_)
      refine s_istore_n 23 dX5_greatest_22 rfl (Nat.le_of_ble_eq_true rfl) rfl ?_
      refine s_iinc 26 dX5_greatest_23 rfl rfl (Nat.le_of_ble_eq_true rfl) rfl ?_
      refine s_goto 4 dX5_greatest_26 rfl ?_
      have e : greF (l.take (k + 1)) = max (greF (l.take k)) (l.getD k 0) := foldl_snoc max (-1) l k 0 (by omega)
      rw [← e]
      exact ih (k + 1) (by omega)
  exact key l.length 0 (by omega)
end ROWM
