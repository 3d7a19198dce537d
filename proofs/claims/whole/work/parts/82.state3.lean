/-! ===== State: bytes read, copies, a new one ===== -/
theorem flat5_len {l : List (List Int)} (h : ∀ e ∈ l, e.length = 5) : l.flatten.length = 5 * l.length := by
  induction l with
  | nil => rfl
  | cons a t ih =>
    rw [List.flatten_cons, List.length_append, ih (fun e he => h e (List.mem_cons_of_mem _ he)), h a List.mem_cons_self, List.length_cons]
    omega
theorem flat5_at {l : List (List Int)} (h : ∀ e ∈ l, e.length = 5) {j i : Nat} (hj : j < l.length) (hi : i < 5) : l.flatten.getD (5 * j + i) 0 = (l.getD j []).getD i 0 := by
  induction l generalizing j with
  | nil => exact absurd hj (by simp)
  | cons a t ih =>
    have ha := h a List.mem_cons_self
    rw [List.flatten_cons]
    cases j with
    | zero =>
      rw [getD_append_lt (by omega)]
      simp
    | succ j =>
      rw [getD_append_ge (by omega), show 5 * (j + 1) + i - a.length = 5 * j + i by omega, ih (fun e he => h e (List.mem_cons_of_mem _ he)) (by rw [List.length_cons] at hj; omega)]
      rfl
theorem evR_len {l : List (List Int)} (h : ∀ e ∈ l, e.length = 5) : (evR l).length = 5 * l.length := by
  unfold evR
  rw [flat5_len (fun e he => h e (List.mem_reverse.mp he)), List.length_reverse]
theorem evR_cons (e : List Int) (l : List (List Int)) : evR (e :: l) = evR l ++ e := by
  unfold evR
  rw [List.reverse_cons, List.flatten_append]
  show _ ++ (e ++ []) = _
  rw [List.append_nil]
theorem evR_drop {l : List (List Int)} (h : ∀ e ∈ l, e.length = 5) (hl : l.length = 40) : (evR l).drop 5 = evR (l.take 39) := by
  have e1 : l = l.take 39 ++ [l.getD 39 []] := by
    have h1 : l.take (39 + 1) = l.take 39 ++ [l.getD 39 []] := by
      rw [List.take_add_one, List.getD_eq_getElem?_getD, List.getElem?_eq_getElem (by omega)]
      rfl
    rw [List.take_of_length_le (by omega)] at h1
    exact h1
  have h5 : (l.getD 39 []).length = 5 := h _ (getD_mem (by omega))
  have e2 : evR l = l.getD 39 [] ++ evR (l.take 39) := by
    conv => lhs; rw [e1]
    unfold evR
    rw [List.reverse_append]
    rfl
  rw [e2, ← h5, List.drop_left]
theorem badF_acc (l : List (List Int)) (z : Int) : l.foldl (fun n e => n + badE e) z = z + badF l := by
  induction l generalizing z with
  | nil => show z = z + 0; omega
  | cons a t ih =>
    unfold badF
    rw [List.foldl_cons, List.foldl_cons, ih, ih (0 + badE a)]
    omega
theorem badF_snoc (l : List (List Int)) (e : List Int) : badF (l ++ [e]) = badF l + badE e := by
  unfold badF
  rw [List.foldl_append]
  rfl
theorem badF_rev (l : List (List Int)) : badF l.reverse = badF l := by
  induction l with
  | nil => rfl
  | cons a t ih =>
    rw [List.reverse_cons, badF_snoc, ih]
    show _ = (a :: t).foldl _ 0
    rw [List.foldl_cons, badF_acc]
    omega
theorem waiB_flat (l : List (List Int)) : waiB l = (l.flatten.length : Int) := by
  have acc : ∀ (l : List (List Int)) (z : Int), l.foldl (fun n w => n + (w.length : Int)) z = z + (l.flatten.length : Int) := by
    intro l
    induction l with
    | nil => intro z; show z = z + 0; omega
    | cons a t ih =>
      intro z
      rw [List.foldl_cons, ih, List.flatten_cons, List.length_append]
      omega
  unfold waiB
  rw [acc]
  omega
section STATE3
variable {G : GT} {F : HS} {d : Nat} {T : Nat → Nat} {N : Nat → Nat → Int} {R : Nat → List Int} {P : Nat → Nat → Option Nat} {S : Nat → Int64} {cn un : Nat} {post : Option Value → PT → Prop} {ru : RU} {x f ch : Nat} {tl : Nat → Int} {s : ST} {b : Int}
theorem q_bytesWaiting (hS : StS T x) (hR : StR N R x ch tl s) (hc4 : ch ≤ 4) (hp : post (some (vi (sumC (fun c => waiB (s.2.2.2.2 c).2.1 - (s.2.2.2.2 c).1 1) ch))) (T, N, R, P, S, cn, un)) : Cm G (AP G F) yX7_bytesWaiting cX7_bytesWaiting 3 (some .int) (d + 1) [.ref x] (T, N, R, P, S, cn, un) post := by
  obtain ⟨t0, t1, t2, t3, t4, t5⟩ := id hS
  obtain ⟨q1, q2, q3, ⟨q4, q5, q6, q7⟩, q8⟩ := id hR
  refine Cm_intro (L := [some (.ref x), none, none]) (by decide +kernel) (Nat.le_of_ble_eq_true rfl) rfl ?_
  refine s_iconst 1 dX7_bytesWaiting_0 rfl ?_
  refine s_istore_n 2 dX7_bytesWaiting_1 rfl (Nat.le_of_ble_eq_true rfl) rfl ?_
  refine s_iconst 3 dX7_bytesWaiting_2 rfl ?_
  refine s_istore_n 4 dX7_bytesWaiting_3 rfl (Nat.le_of_ble_eq_true rfl) rfl ?_
  have key : ∀ (m k : Nat), k + m = ch → V G (AP G F) yX7_bytesWaiting cX7_bytesWaiting 3 (some .int) (d + 1) (T, N, R, P, S, cn, un) 4 [some (.ref x), some (vi (sumC (fun c => waiB (s.2.2.2.2 c).2.1 - (s.2.2.2.2 c).1 1) k)), some (vi k)] [] post := by
    intro m
    induction m with
    | zero =>
      intro k hk
      refine s_iload_n 5 dX7_bytesWaiting_4 rfl rfl ?_
      refine s_aload_n 6 dX7_bytesWaiting_5 rfl rfl ?_
      refine g_X7_portCount 9 dX7_bytesWaiting_6 rfl fl_X7_51 (fun hr6 => ?_)
      rw [q6]
      refine s_icmp_ge 12 46 dX7_bytesWaiting_9 rfl rfl (fun g => ?_) (fun g => ?_)
      rotate_left
      · omega
      refine s_iload_n 47 dX7_bytesWaiting_46 rfl rfl ?_
      refine s_ireturn rfl dX7_bytesWaiting_47 ?_
      rw [show k = ch by omega]
      exact hp
    | succ m ih =>
      intro k hk
      obtain ⟨a0, a1, a2, a3⟩ := t5 k (by omega)
      have b1 := a1.1
      have b2 := a1.2.1
      have ec : N (x + 7 + 1 + 17 * k) 5 = (s.2.2.2.2 k).1 1 := (q8 k (by omega)).1.2 1 (by decide)
      have er : R (x + 7 + 1 + 17 * k + 1 + 1) = (s.2.2.2.2 k).2.1.flatten := (q8 k (by omega)).2.1.1.trans (wai0_cat _)
      refine s_iload_n 5 dX7_bytesWaiting_4 rfl rfl ?_
      refine s_aload_n 6 dX7_bytesWaiting_5 rfl rfl ?_
      refine g_X7_portCount 9 dX7_bytesWaiting_6 rfl fl_X7_51 (fun hr6 => ?_)
      rw [q6]
      refine s_icmp_ge 12 46 dX7_bytesWaiting_9 rfl rfl (fun g => ?_) (fun g => ?_)
      · omega
      refine s_iload_n 13 dX7_bytesWaiting_12 rfl rfl ?_
      refine s_aload_n 14 dX7_bytesWaiting_13 rfl rfl ?_
      refine g_X7_ports 17 dX7_bytesWaiting_14 rfl fl_X7_32 ?_
      refine s_iload_n 18 dX7_bytesWaiting_17 rfl rfl ?_
      refine q_port 19 dX7_bytesWaiting_18 rfl ?_
      rw [show ((k : Int)).toNat = k from rfl]
      refine g_X4_waits 22 dX7_bytesWaiting_19 rfl fl_X7_68 ?_
      refine g_X2_bytes 25 dX7_bytesWaiting_22 rfl fl_X7_165 ?_
      refine g_X5_size 28 dX7_bytesWaiting_25 rfl fl_X7_97 ?_
      rw [er]
      refine s_aload_n 29 dX7_bytesWaiting_28 rfl rfl ?_
      refine g_X7_ports 32 dX7_bytesWaiting_29 rfl fl_X7_32 ?_
      refine s_iload_n 33 dX7_bytesWaiting_32 rfl rfl ?_
      refine q_port 34 dX7_bytesWaiting_33 rfl ?_
      rw [show ((k : Int)).toNat = k from rfl]
      refine g_X4_gone 37 dX7_bytesWaiting_34 rfl fl_X7_168 (fun hr34 => ?_)
      rw [ec, ← waiB_flat]
      refine s_isub 38 dX7_bytesWaiting_37 rfl ?_
      refine s_iadd 39 dX7_bytesWaiting_38 rfl ?_
      refine s_istore_n 40 dX7_bytesWaiting_39 rfl (Nat.le_of_ble_eq_true rfl) rfl ?_
      refine s_iinc 43 dX7_bytesWaiting_40 rfl rfl (Nat.le_of_ble_eq_true rfl) rfl ?_
      refine s_goto 4 dX7_bytesWaiting_43 rfl ?_
      exact ih (k + 1) (by omega)
  exact key ch 0 (by omega)
theorem q_mostLost (hS : StS T x) (hR : StR N R x ch tl s) (hw : WfSt b ch s) (hb : b ≤ 99000000) (hc4 : 1 ≤ ch ∧ ch ≤ 4) (hp : post (some (vi (mostL (fun c => (s.2.2.2.2 c).1 4) ch : Nat))) (T, N, R, P, S, cn, un)) : Cm G (AP G F) yX7_portWithMostLost cX7_portWithMostLost 3 (some .int) (d + 1) [.ref x] (T, N, R, P, S, cn, un) post := by
  obtain ⟨t0, t1, t2, t3, t4, t5⟩ := id hS
  obtain ⟨q1, q2, q3, ⟨q4, q5, q6, q7⟩, q8⟩ := id hR
  refine Cm_intro (L := [some (.ref x), none, none]) (by decide +kernel) (Nat.le_of_ble_eq_true rfl) rfl ?_
  refine s_iconst 1 dX7_portWithMostLost_0 rfl ?_
  refine s_istore_n 2 dX7_portWithMostLost_1 rfl (Nat.le_of_ble_eq_true rfl) rfl ?_
  refine s_iconst 3 dX7_portWithMostLost_2 rfl ?_
  refine s_istore_n 4 dX7_portWithMostLost_3 rfl (Nat.le_of_ble_eq_true rfl) rfl ?_
  have key : ∀ (m k : Nat), k + m = ch → 1 ≤ k → V G (AP G F) yX7_portWithMostLost cX7_portWithMostLost 3 (some .int) (d + 1) (T, N, R, P, S, cn, un) 4 [some (.ref x), some (vi (mostL (fun c => (s.2.2.2.2 c).1 4) k : Nat)), some (vi k)] [] post := by
    intro m
    induction m with
    | zero =>
      intro k hk hk1
      refine s_iload_n 5 dX7_portWithMostLost_4 rfl rfl ?_
      refine s_aload_n 6 dX7_portWithMostLost_5 rfl rfl ?_
      refine g_X7_portCount 9 dX7_portWithMostLost_6 rfl fl_X7_51 (fun hr6 => ?_)
      rw [q6]
      refine s_icmp_ge 12 41 dX7_portWithMostLost_9 rfl rfl (fun g => ?_) (fun g => ?_)
      rotate_left
      · omega
      refine s_iload_n 42 dX7_portWithMostLost_41 rfl rfl ?_
      refine s_ireturn rfl dX7_portWithMostLost_42 ?_
      rw [show k = ch by omega]
      exact hp
    | succ m ih =>
      intro k hk hk1
      have hml := mostL_lt (fun c => (s.2.2.2.2 c).1 4) (show 0 < k by omega)
      have ih := ih (k + 1) (by omega) (by omega)
      rw [show mostL (fun c => (s.2.2.2.2 c).1 4) (k + 1) = if (s.2.2.2.2 (mostL (fun c => (s.2.2.2.2 c).1 4) k)).1 4 < (s.2.2.2.2 k).1 4 then k else mostL (fun c => (s.2.2.2.2 c).1 4) k from rfl] at ih
      generalize mostL (fun c => (s.2.2.2.2 c).1 4) k = bt at *
      obtain ⟨a0, a1, a2, a3⟩ := t5 k (by omega)
      obtain ⟨c0, c1, c2, c3⟩ := t5 bt (by omega)
      have ec : N (x + 7 + 1 + 17 * k) 8 = (s.2.2.2.2 k).1 4 := (q8 k (by omega)).1.2 4 (by decide)
      have eb : N (x + 7 + 1 + 17 * bt) 8 = (s.2.2.2.2 bt).1 4 := (q8 bt (by omega)).1.2 4 (by decide)
      have wk := (hw.2.2.2.2.2.2.2.2.2.2 k (by omega)).2.2.2.2.1
      have wb := (hw.2.2.2.2.2.2.2.2.2.2 bt (by omega)).2.2.2.2.1
      refine s_iload_n 5 dX7_portWithMostLost_4 rfl rfl ?_
      refine s_aload_n 6 dX7_portWithMostLost_5 rfl rfl ?_
      refine g_X7_portCount 9 dX7_portWithMostLost_6 rfl fl_X7_51 (fun hr6 => ?_)
      rw [q6]
      refine s_icmp_ge 12 41 dX7_portWithMostLost_9 rfl rfl (fun g => ?_) (fun g => ?_)
      · omega
      refine s_aload_n 13 dX7_portWithMostLost_12 rfl rfl ?_
      refine g_X7_ports 16 dX7_portWithMostLost_13 rfl fl_X7_32 ?_
      refine s_iload_n 17 dX7_portWithMostLost_16 rfl rfl ?_
      refine q_port 18 dX7_portWithMostLost_17 rfl ?_
      rw [show ((k : Int)).toNat = k from rfl]
      refine g_X4_lost 21 dX7_portWithMostLost_18 rfl fl_X7_171 (fun hr18 => ?_)
      refine s_aload_n 22 dX7_portWithMostLost_21 rfl rfl ?_
      refine g_X7_ports 25 dX7_portWithMostLost_22 rfl fl_X7_32 ?_
      refine s_iload_n 26 dX7_portWithMostLost_25 rfl rfl ?_
      refine q_port 27 dX7_portWithMostLost_26 rfl ?_
      rw [show ((bt : Int)).toNat = bt from rfl]
      refine g_X4_lost 30 dX7_portWithMostLost_27 rfl fl_X7_171 (fun hr27 => ?_)
      rw [ec, eb]
      refine s_icmp_le 33 35 dX7_portWithMostLost_30 rfl rfl (fun g2 => ?_) (fun g2 => ?_)
      · refine s_iinc 38 dX7_portWithMostLost_35 rfl rfl (Nat.le_of_ble_eq_true rfl) rfl ?_
        refine s_goto 4 dX7_portWithMostLost_38 rfl ?_
        rw [if_neg (by omega)] at ih
        exact ih
      · refine s_iload_n 34 dX7_portWithMostLost_33 rfl rfl ?_
        refine s_istore_n 35 dX7_portWithMostLost_34 rfl (Nat.le_of_ble_eq_true rfl) rfl ?_
        refine s_iinc 38 dX7_portWithMostLost_35 rfl rfl (Nat.le_of_ble_eq_true rfl) rfl ?_
        refine s_goto 4 dX7_portWithMostLost_38 rfl ?_
        rw [if_pos (by omega)] at ih
        exact ih
  have h9 := key (ch - 1) 1 (by omega) (by omega)
  have e1 : mostL (fun c => (s.2.2.2.2 c).1 4) 1 = 0 := by
    show (if (s.2.2.2.2 0).1 4 < (s.2.2.2.2 0).1 4 then 0 else 0) = 0
    split <;> rfl
  rw [e1] at h9
  exact h9
theorem q_unreadable (hS : StS T x) (hR : StR N R x ch tl s) (hw : WfSt b ch s) (hp : post (some (vi (badF s.2.2.2.1))) (T, N, R, P, S, cn, un)) : Cm G (AP G F) yX7_eventsUnreadable cX7_eventsUnreadable 4 (some .int) (d + 2) [.ref x] (T, N, R, P, S, cn, un) post := by
  obtain ⟨t0, t1, t2, t3, t4, t5⟩ := id hS
  obtain ⟨q1, q2, q3, ⟨q4, q5, q6, q7⟩, q8⟩ := id hR
  have hev := hw.2.2.2.2.2.2.2.2.2.1
  have hel := hw.2.2.2.2.2.2.2.2.1
  have hx7 := hw.2.2.2.2.2.2.2.1
  have hlen := evR_len (fun e he => (hev e he).1)
  have hl40 : s.2.2.2.1.length ≤ 40 := by omega
  refine Cm_intro (L := [some (.ref x), none, none, none]) (by decide +kernel) (Nat.le_of_ble_eq_true rfl) rfl ?_
  refine s_iconst 1 dX7_eventsUnreadable_0 rfl ?_
  refine s_istore_n 2 dX7_eventsUnreadable_1 rfl (Nat.le_of_ble_eq_true rfl) rfl ?_
  refine s_iconst 3 dX7_eventsUnreadable_2 rfl ?_
  refine s_istore_n 4 dX7_eventsUnreadable_3 rfl (Nat.le_of_ble_eq_true rfl) rfl ?_
  have key : ∀ (m k : Nat), k + m = s.2.2.2.1.length → V G (AP G F) yX7_eventsUnreadable cX7_eventsUnreadable 4 (some .int) (d + 2) (T, N, R, P, S, cn, un) 4 [some (.ref x), some (vi (badF (s.2.2.2.1.reverse.take k))), some (vi (5 * (k : Int))), none] [] post := by
    intro m
    induction m with
    | zero =>
      intro k hk
      refine s_iload_n 5 dX7_eventsUnreadable_4 rfl rfl ?_
      refine s_aload_n 6 dX7_eventsUnreadable_5 rfl rfl ?_
      refine g_X7_events 9 dX7_eventsUnreadable_6 rfl fl_X7_23 ?_
      refine g_X5_size 12 dX7_eventsUnreadable_9 rfl fl_X7_97 ?_
      rw [q3, hlen]
      refine s_icmp_ge 15 48 dX7_eventsUnreadable_12 rfl rfl (fun g => ?_) (fun g => ?_)
      rotate_left
      · omega
      refine s_iload_n 49 dX7_eventsUnreadable_48 rfl rfl ?_
      refine s_ireturn rfl dX7_eventsUnreadable_49 ?_
      rw [List.take_of_length_le (by rw [List.length_reverse]; omega), badF_rev]
      exact hp
    | succ m ih =>
      intro k hk
      have hkr : k < s.2.2.2.1.reverse.length := by rw [List.length_reverse]; omega
      have he := getD_mem (x := []) hkr
      have hev2 := hev _ (List.mem_reverse.mp he)
      have ea : atF (evR s.2.2.2.1) (5 * (k : Int)) = (s.2.2.2.1.reverse.getD k []).getD 0 0 := by
        rw [show 5 * (k : Int) = ((5 * k : Nat) : Int) by omega, atF_in (by omega)]
        exact flat5_at (fun e he => (hev e (List.mem_reverse.mp he)).1) (i := 0) hkr (by decide)
      have hrg : -1 ≤ (s.2.2.2.1.reverse.getD k []).getD 0 0 ∧ (s.2.2.2.1.reverse.getD k []).getD 0 0 ≤ 600 := hev2.2 _ (getD_mem (by omega))
      have et : badF (s.2.2.2.1.reverse.take (k + 1)) = badF (s.2.2.2.1.reverse.take k) + badE (s.2.2.2.1.reverse.getD k []) := foldl_snoc (fun n e => n + badE e) 0 _ k [] hkr
      have ih := ih (k + 1) (by omega)
      rw [et, show 5 * ((k + 1 : Nat) : Int) = 5 * (k : Int) + 5 by omega] at ih
      refine s_iload_n 5 dX7_eventsUnreadable_4 rfl rfl ?_
      refine s_aload_n 6 dX7_eventsUnreadable_5 rfl rfl ?_
      refine g_X7_events 9 dX7_eventsUnreadable_6 rfl fl_X7_23 ?_
      refine g_X5_size 12 dX7_eventsUnreadable_9 rfl fl_X7_97 ?_
      rw [q3, hlen]
      refine s_icmp_ge 15 48 dX7_eventsUnreadable_12 rfl rfl (fun g => ?_) (fun g => ?_)
      · omega
      refine s_aload_n 16 dX7_eventsUnreadable_15 rfl rfl ?_
      refine g_X7_events 19 dX7_eventsUnreadable_16 rfl fl_X7_23 ?_
      refine s_iload_n 20 dX7_eventsUnreadable_19 rfl rfl ?_
      refine s_V1i 23 dX7_eventsUnreadable_20 rfl km_X5_at ml_X7_123 ds_X5_at (Nat.le_of_ble_eq_true rfl) (q_recR (by assumption)) rfl (r_atK t3 q3 (by constructor <;> omega) (fun hr => ?_))
      refine ⟨_, rfl, ?_⟩
      rw [ea]
      unfold badE at ih
      refine s_istore_n 24 dX7_eventsUnreadable_23 rfl (Nat.le_of_ble_eq_true rfl) rfl ?_
      refine s_iload_n 25 dX7_eventsUnreadable_24 rfl rfl ?_
      refine s_iload_n 26 dX7_eventsUnreadable_25 rfl rfl ?_
      refine s_iconst 27 dX7_eventsUnreadable_26 rfl ?_
      refine s_icmp_eq 30 35 dX7_eventsUnreadable_27 rfl rfl (fun g1 => ?_) (fun g1 => ?_)
      · refine s_iconst 36 dX7_eventsUnreadable_35 rfl ?_
        refine s_goto 40 dX7_eventsUnreadable_36 rfl ?_
        refine s_iadd 41 dX7_eventsUnreadable_40 rfl ?_
        refine s_istore_n 42 dX7_eventsUnreadable_41 rfl (Nat.le_of_ble_eq_true rfl) rfl ?_
        refine s_iinc 45 dX7_eventsUnreadable_42 rfl rfl (Nat.le_of_ble_eq_true rfl) rfl ?_
        refine s_goto 4 dX7_eventsUnreadable_45 rfl ?_
        rw [if_pos (Or.inl g1)] at ih
        exact V_kill 3 ih
      refine s_iload_n 31 dX7_eventsUnreadable_30 rfl rfl ?_
      refine s_iconst 32 dX7_eventsUnreadable_31 rfl ?_
      refine s_icmp_ne 35 39 dX7_eventsUnreadable_32 rfl rfl (fun g2 => ?_) (fun g2 => ?_)
      · refine s_iconst 40 dX7_eventsUnreadable_39 rfl ?_
        refine s_iadd 41 dX7_eventsUnreadable_40 rfl ?_
        refine s_istore_n 42 dX7_eventsUnreadable_41 rfl (Nat.le_of_ble_eq_true rfl) rfl ?_
        refine s_iinc 45 dX7_eventsUnreadable_42 rfl rfl (Nat.le_of_ble_eq_true rfl) rfl ?_
        refine s_goto 4 dX7_eventsUnreadable_45 rfl ?_
        rw [if_neg (fun h => h.elim g1 g2)] at ih
        exact V_kill 3 ih
      · refine s_iconst 36 dX7_eventsUnreadable_35 rfl ?_
        refine s_goto 40 dX7_eventsUnreadable_36 rfl ?_
        refine s_iadd 41 dX7_eventsUnreadable_40 rfl ?_
        refine s_istore_n 42 dX7_eventsUnreadable_41 rfl (Nat.le_of_ble_eq_true rfl) rfl ?_
        refine s_iinc 45 dX7_eventsUnreadable_42 rfl rfl (Nat.le_of_ble_eq_true rfl) rfl ?_
        refine s_goto 4 dX7_eventsUnreadable_45 rfl ?_
        rw [if_pos (Or.inr g2)] at ih
        exact V_kill 3 ih
  exact key s.2.2.2.1.length 0 (by omega)
theorem q_readMark (hS : StS T x) (hF : FrS T f) (hne : x + 76 ≤ f ∨ f + 10 ≤ x) (hru : RuP N (f + 1) ru) (hwr : WfRu ru) (hch : ch = (ru 5).toNat) (hR : StR N R x ch tl s) (hw : WfSt b ch s) (hb : b ≤ 89000000) (hp : ∀ N' R', fr2 x (x + 76) f (f + 1) N N' → fr2 x (x + 76) (f + 4) (f + 10) R R' → StR N' R' x ch tl (markF ru s) → post none (T, N', R', P, S, cn, un)) : Cm G (AP G F) yX7_readMark cX7_readMark 6 none (d + 5) [.ref x, .ref f] (T, N, R, P, S, cn, un) post := by
  obtain ⟨t0, t1, t2, t3, t4, t5⟩ := id hS
  obtain ⟨u0, u1, u2, u3, u4⟩ := id hF
  obtain ⟨q1, q2, q3, ⟨q4, q5, q6, q7⟩, q8⟩ := id hR
  have h5 := hwr.2.2.2.2.2
  have hev := hw.2.2.2.2.2.2.2.2.2.1
  have hel := hw.2.2.2.2.2.2.2.2.1
  have hx7 := hw.2.2.2.2.2.2.2.1
  have hrl := hw.2.2.1
  have hrb := hw.2.2.2.1
  have hov := hw.2.2.2.2.2.1
  have v4 := hwr.2.2.2.2.1
  have hl40 : s.2.2.2.1.length ≤ 40 := by omega
  refine Cm_intro (L := [some (.ref x), some (.ref f), none, none, none, none]) (by decide +kernel) (Nat.le_of_ble_eq_true rfl) rfl ?_
  refine s_aload_n 1 dX7_readMark_0 rfl rfl ?_
  refine g_X7_reader 4 dX7_readMark_1 rfl fl_X7_20 ?_
  refine g_X5_size 7 dX7_readMark_4 rfl fl_X7_97 ?_
  rw [q2]
  refine s_if_ne 10 11 dX7_readMark_7 rfl rfl (fun g0 => ?_) (fun g0 => ?_)
  rotate_left
  · refine s_return rfl dX7_readMark_10 ?_
    rw [show markF ru s = s from if_pos (by omega)] at hp
    exact hp N R fr2.rf fr2.rf hR
  -- the event is told
  have tell : ∀ (N2 : Nat → Nat → Int) (R2 : Nat → List Int) (kd hv pv cv t3v : Int) (ps : Nat → CH) (a5 : Option Value), fr2 x (x + 76) f (f + 1) N N2 → fr2 x (x + 76) (f + 4) (f + 10) R R2 → StR N2 R2 x ch tl (s.1, s.2.1, s.2.2.1, s.2.2.2.1, ps) → (-1 ≤ kd ∧ kd ≤ 600) → (-1 ≤ cv ∧ cv ≤ 600) → (-1 ≤ hv ∧ hv ≤ 600) → (-1 ≤ pv ∧ pv ≤ 600) → (t3v = 1 ∧ N2 f 3 = hv ∧ N2 f 4 = pv ∨ t3v = 0 ∧ hv = -1 ∧ pv = -1) → markF ru s = (s.1, [], up (up s.2.2.1 0 0) 2 (s.2.2.1 2 + 1), evF s [kd, hv, s.2.1.length, pv, cv], ps) → V G (AP G F) yX7_readMark cX7_readMark 6 none (d + 5) (T, N2, R2, P, S, cn, un) 107 [some (.ref x), some (.ref f), some (vi kd), some (vi t3v), some (vi cv), a5] [] post := by
    intro N2 R2 kd hv pv cv t3v ps a5 f1 f2 hR2 hkd hcv hhv hpv ht em
    obtain ⟨z1, z2, z3, ⟨z4, z5, z6, z7⟩, z8⟩ := id hR2
    have z2 : R2 (x + 3) = s.2.1 := z2
    have z3 : R2 (x + 5) = evR s.2.2.2.1 := z3
    have z4 : N2 x 3 = s.2.2.1 2 := z4
    have hlen := evR_len (fun e he => (hev e he).1)
    have hlt : (s.2.2.2.1.take 39).length ≤ 39 := by rw [List.length_take]; omega
    have hlen39 : (evR (s.2.2.2.1.take 39)).length = 5 * (s.2.2.2.1.take 39).length := evR_len (fun e he => (hev e (List.mem_of_mem_take he)).1)
    -- five numbers are added
    have adds : ∀ R3 : Nat → List Int, frO (x + 5) (x + 6) R2 R3 → R3 (x + 5) = evR (s.2.2.2.1.take 39) → V G (AP G F) yX7_readMark cX7_readMark 6 none (d + 5) (T, N2, R3, P, S, cn, un) 128 [some (.ref x), some (.ref f), some (vi kd), some (vi t3v), some (vi cv), a5] [] post := by
      intro R3 k1 k2
      have r3 : ∀ l, up R3 (x + 5) l (x + 3) = s.2.1 := fun l => by rw [up_n (by omega), k1 _ (by omega)]; exact z2
      -- behind the part
      have end5 : V G (AP G F) yX7_readMark cX7_readMark 6 none (d + 5) (T, N2, up R3 (x + 5) (evR (s.2.2.2.1.take 39) ++ [kd] ++ [hv] ++ [(s.2.1.length : Int)] ++ [pv]), P, S, cn, un) 188 [some (.ref x), some (.ref f), some (vi kd), some (vi t3v), some (vi cv), a5] [] post := by
        refine s_aload_n 189 dX7_readMark_188 rfl rfl ?_
        refine g_X7_events 192 dX7_readMark_189 rfl fl_X7_23 ?_
        refine s_iload 194 dX7_readMark_192 rfl rfl ?_
        refine s_V1v 197 dX7_readMark_194 rfl km_X5_add ml_X7_107 ds_X5_add (Nat.le_of_ble_eq_true rfl) (q_recR (by assumption)) rfl (r_addK t3 (up_s _ _ _) (by simp; omega) (by constructor <;> omega) ?_)
        refine ⟨rfl, ?_⟩
        rw [up_up]
        refine s_aload_n 198 dX7_readMark_197 rfl rfl ?_
        refine s_dup (q := 199) (hd := dX7_readMark_198) (hq := rfl) (k := ?_)
        refine g_X7_came 202 dX7_readMark_199 rfl fl_X7_40 (fun hr199 => ?_)
        rw [z4]
        refine s_iconst 203 dX7_readMark_202 rfl ?_
        refine s_iadd 204 dX7_readMark_203 rfl ?_
        refine p_X7_came 207 dX7_readMark_204 rfl fl_X7_40 ?_
        refine s_aload_n 208 dX7_readMark_207 rfl rfl ?_
        refine g_X7_reader 211 dX7_readMark_208 rfl fl_X7_20 ?_
        refine s_V0v 214 dX7_readMark_211 rfl km_X5_clear ml_X7_37 ds_X5_clear (Nat.le_of_ble_eq_true rfl) (q_recR (by assumption)) rfl (r_clear t2 ?_)
        refine ⟨rfl, ?_⟩
        refine s_aload_n 215 dX7_readMark_214 rfl rfl ?_
        refine s_iconst 216 dX7_readMark_215 rfl ?_
        refine p_X7_readerOver 219 dX7_readMark_216 rfl fl_X7_43 ?_
        rw [up_in]
        refine s_return rfl dX7_readMark_219 ?_
        refine hp _ _ ?_ ?_ ?_
        · exact fun y h1 h2 => by rw [up_n (by omega)]; exact f1 y h1 h2
        · exact fun y h1 h2 => by rw [up_n (by omega), up_n (by omega), k1 y (by omega)]; exact f2 y h1 h2
        · rw [em]
          have hA : StR N2 (up (up R3 (x + 5) (evR (s.2.2.2.1.take 39) ++ [kd] ++ [hv] ++ [(s.2.1.length : Int)] ++ [pv] ++ [cv])) (x + 3) []) x ch tl (s.1, [], s.2.2.1, evF s [kd, hv, s.2.1.length, pv, cv], ps) := by
            refine ⟨by rw [up_n (by omega), up_n (by omega), k1 _ (by omega)]; exact z1, up_s _ _ _, ?_, ⟨z4, z5, z6, z7⟩, fun c hc => (z8 c hc).off rfl (fun w h1 h2 => by rw [up_n (by omega), up_n (by omega), k1 _ (by omega)])⟩
            rw [up_n (by omega), up_s]
            show _ = evR ((_ :: s.2.2.2.1).take 40)
            rw [show (40 : Nat) = 39 + 1 from rfl, List.take_succ_cons, evR_cons]
            simp
          exact hA.num (i := up (up s.2.2.1 0 0) 2 (s.2.2.1 2 + 1)) (by rw [up_n (by decide), up_s, up_s]) (by rw [up_n (by decide), up_n (by decide), up_n (by decide), up_n (by decide)]; exact z5) (by rw [up_n (by decide), up_n (by decide)]; exact z6) (by rw [up_s, up_n (by decide), up_s])
      have pt4 : V G (AP G F) yX7_readMark cX7_readMark 6 none (d + 5) (T, N2, up R3 (x + 5) (evR (s.2.2.2.1.take 39) ++ [kd] ++ [hv]), P, S, cn, un) 155 [some (.ref x), some (.ref f), some (vi kd), some (vi t3v), some (vi cv), a5] [] post := by
        refine s_aload_n 156 dX7_readMark_155 rfl rfl ?_
        refine g_X7_events 159 dX7_readMark_156 rfl fl_X7_23 ?_
        refine s_aload_n 160 dX7_readMark_159 rfl rfl ?_
        refine g_X7_reader 163 dX7_readMark_160 rfl fl_X7_20 ?_
        refine g_X5_size 166 dX7_readMark_163 rfl fl_X7_97 ?_
        rw [r3]
        refine s_V1v 169 dX7_readMark_166 rfl km_X5_add ml_X7_107 ds_X5_add (Nat.le_of_ble_eq_true rfl) (q_recR (by assumption)) rfl (r_addK t3 (up_s _ _ _) (by simp; omega) (by constructor <;> omega) ?_)
        refine ⟨rfl, ?_⟩
        rw [up_up]
        refine s_aload_n 170 dX7_readMark_169 rfl rfl ?_
        refine g_X7_events 173 dX7_readMark_170 rfl fl_X7_23 ?_
        refine s_iload_n 174 dX7_readMark_173 rfl rfl ?_
        refine s_if_eq 177 184 dX7_readMark_174 rfl rfl (fun g9 => ?_) (fun g9 => ?_)
        · refine s_iconst 185 dX7_readMark_184 rfl ?_
          refine s_V1v 188 dX7_readMark_185 rfl km_X5_add ml_X7_107 ds_X5_add (Nat.le_of_ble_eq_true rfl) (q_recR (by assumption)) rfl (r_addK t3 (up_s _ _ _) (by simp; omega) (by decide) ?_)
          refine ⟨rfl, ?_⟩
          rw [up_up]
          rw [show pv = -1 by omega] at end5
          exact end5
        · obtain ⟨y1, y2, y3⟩ := ht.resolve_right (by omega)
          refine s_aload_n 178 dX7_readMark_177 rfl rfl ?_
          refine g_X1_part 181 dX7_readMark_178 rfl fl_X7_155 (fun hr178 => ?_)
          rw [y3]
          refine s_goto 185 dX7_readMark_181 rfl ?_
          refine s_V1v 188 dX7_readMark_185 rfl km_X5_add ml_X7_107 ds_X5_add (Nat.le_of_ble_eq_true rfl) (q_recR (by assumption)) rfl (r_addK t3 (up_s _ _ _) (by simp; omega) (by constructor <;> omega) ?_)
          refine ⟨rfl, ?_⟩
          rw [up_up]
          exact end5
      refine s_aload_n 129 dX7_readMark_128 rfl rfl ?_
      refine g_X7_events 132 dX7_readMark_129 rfl fl_X7_23 ?_
      refine s_iload_n 133 dX7_readMark_132 rfl rfl ?_
      refine s_V1v 136 dX7_readMark_133 rfl km_X5_add ml_X7_107 ds_X5_add (Nat.le_of_ble_eq_true rfl) (q_recR (by assumption)) rfl (r_addK t3 k2 (by omega) (by constructor <;> omega) ?_)
      refine ⟨rfl, ?_⟩
      refine s_aload_n 137 dX7_readMark_136 rfl rfl ?_
      refine g_X7_events 140 dX7_readMark_137 rfl fl_X7_23 ?_
      refine s_iload_n 141 dX7_readMark_140 rfl rfl ?_
      refine s_if_eq 144 151 dX7_readMark_141 rfl rfl (fun g9 => ?_) (fun g9 => ?_)
      · refine s_iconst 152 dX7_readMark_151 rfl ?_
        refine s_V1v 155 dX7_readMark_152 rfl km_X5_add ml_X7_107 ds_X5_add (Nat.le_of_ble_eq_true rfl) (q_recR (by assumption)) rfl (r_addK t3 (up_s _ _ _) (by simp; omega) (by decide) ?_)
        refine ⟨rfl, ?_⟩
        rw [up_up]
        rw [show hv = -1 by omega] at pt4
        exact pt4
      · obtain ⟨y1, y2, y3⟩ := ht.resolve_right (by omega)
        refine s_aload_n 145 dX7_readMark_144 rfl rfl ?_
        refine g_X1_head 148 dX7_readMark_145 rfl fl_X7_149 (fun hr145 => ?_)
        rw [y2]
        refine s_goto 152 dX7_readMark_148 rfl ?_
        refine s_V1v 155 dX7_readMark_152 rfl km_X5_add ml_X7_107 ds_X5_add (Nat.le_of_ble_eq_true rfl) (q_recR (by assumption)) rfl (r_addK t3 (up_s _ _ _) (by simp; omega) (by constructor <;> omega) ?_)
        refine ⟨rfl, ?_⟩
        rw [up_up]
        exact pt4
    refine s_aload_n 108 dX7_readMark_107 rfl rfl ?_
    refine g_X7_events 111 dX7_readMark_108 rfl fl_X7_23 ?_
    refine g_X5_size 114 dX7_readMark_111 rfl fl_X7_97 ?_
    rw [z3, hlen]
    refine s_sipush 117 dX7_readMark_114 rfl (k := ?_)
    refine s_icmp_lt 120 128 dX7_readMark_117 rfl rfl (fun g8 => ?_) (fun g8 => ?_)
    · refine adds R2 frO.rf ?_
      rw [z3, List.take_of_length_le (by omega)]
    · refine s_aload_n 121 dX7_readMark_120 rfl rfl ?_
      refine g_X7_events 124 dX7_readMark_121 rfl fl_X7_23 ?_
      refine s_iconst 125 dX7_readMark_124 rfl ?_
      refine s_V1v 128 dX7_readMark_125 rfl km_X5_dropFirst ml_X7_142 ds_X5_dropFirst (Nat.le_of_ble_eq_true rfl) (q_recR (by assumption)) rfl (r_dropK t3 z3 (by omega) (by decide) ?_)
      refine ⟨rfl, ?_⟩
      refine adds _ (frO.rf.up (by omega)) ?_
      rw [up_s]
      exact evR_drop (fun e he => (hev e he).1) (by omega)
  -- BROKEN or BAD
  have unread : ∀ (N2 : Nat → Nat → Int) (R2 : Nat → List Int) (kd : Int), fr2 x (x + 76) f (f + 1) N N2 → fr2 x (x + 76) (f + 4) (f + 10) R R2 → StR N2 R2 x ch tl s → (kd = 2 ∨ kd = 3) → markF ru s = (s.1, [], up (up s.2.2.1 0 0) 2 (s.2.2.1 2 + 1), evF s [kd, -1, s.2.1.length, -1, -1], s.2.2.2.2) → V G (AP G F) yX7_readMark cX7_readMark 6 none (d + 5) (T, N2, R2, P, S, cn, un) 39 [some (.ref x), some (.ref f), some (vi kd), none, none, none] [] post := by
    intro N2 R2 kd f1 f2 hR2 hkd em
    have lst : V G (AP G F) yX7_readMark cX7_readMark 6 none (d + 5) (T, N2, R2, P, S, cn, un) 53 [some (.ref x), some (.ref f), some (vi kd), none, none, none] [] post := by
      refine s_iconst 54 dX7_readMark_53 rfl ?_
      refine s_istore_n 55 dX7_readMark_54 rfl (Nat.le_of_ble_eq_true rfl) rfl ?_
      refine s_iload_n 56 dX7_readMark_55 rfl rfl ?_
      refine s_if_eq 59 69 dX7_readMark_56 rfl rfl (fun g2 => ?_) (fun g2 => ?_)
      rotate_left
      · omega
      refine s_iconst 70 dX7_readMark_69 rfl ?_
      refine s_istore 72 dX7_readMark_70 rfl (Nat.le_of_ble_eq_true rfl) rfl ?_
      refine s_iload_n 73 dX7_readMark_72 rfl rfl ?_
      refine s_if_ne 76 85 dX7_readMark_73 rfl rfl (fun g3 => ?_) (fun g3 => ?_)
      rotate_left
      · omega
      refine s_null 86 dX7_readMark_85 rfl ?_
      refine s_astoreN 88 dX7_readMark_86 rfl (Nat.le_of_ble_eq_true rfl) rfl ?_
      refine s_aloadN 90 dX7_readMark_88 rfl rfl ?_
      refine s_ifnullN 107 dX7_readMark_90 rfl ?_
      exact tell N2 R2 kd (-1) (-1) (-1) 0 s.2.2.2.2 _ f1 f2 hR2 (by omega) (by omega) (by omega) (by omega) (Or.inr ⟨rfl, rfl, rfl⟩) em
    refine s_iload_n 40 dX7_readMark_39 rfl rfl ?_
    refine s_iconst 41 dX7_readMark_40 rfl ?_
    refine s_icmp_eq 44 53 dX7_readMark_41 rfl rfl (fun g2 => ?_) (fun g2 => ?_)
    · exact lst
    refine s_iload_n 45 dX7_readMark_44 rfl rfl ?_
    refine s_iconst 46 dX7_readMark_45 rfl ?_
    refine s_icmp_eq 49 53 dX7_readMark_46 rfl rfl (fun g3 => ?_) (fun g3 => ?_)
    · exact lst
    · omega
  refine s_aload_n 12 dX7_readMark_11 rfl rfl ?_
  refine g_X7_readerOver 15 dX7_readMark_12 rfl fl_X7_43 (fun hr12 => ?_)
  rw [q7]
  refine s_if_eq 18 22 dX7_readMark_15 rfl rfl (fun g1 => ?_) (fun g1 => ?_)
  rotate_left
  · refine s_iconst 19 dX7_readMark_18 rfl ?_
    refine s_goto 38 dX7_readMark_19 rfl ?_
    refine s_istore_n 39 dX7_readMark_38 rfl (Nat.le_of_ble_eq_true rfl) rfl ?_
    exact unread N R 2 fr2.rf fr2.rf hR (Or.inl rfl) (by unfold markF; rw [if_neg (by omega), if_pos (Or.inl g1)])
  have hbs : s.2.1 = (s.2.1.drop 0).take s.2.1.length := by rw [List.drop_zero, List.take_length]
  refine s_aload_n 23 dX7_readMark_22 rfl rfl ?_
  refine s_aload_n 24 dX7_readMark_23 rfl rfl ?_
  refine g_X7_reader 27 dX7_readMark_24 rfl fl_X7_20 ?_
  refine s_iconst 28 dX7_readMark_27 rfl ?_
  refine s_aload_n 29 dX7_readMark_28 rfl rfl ?_
  refine g_X7_reader 32 dX7_readMark_29 rfl fl_X7_20 ?_
  refine g_X5_size 35 dX7_readMark_32 rfl fl_X7_97 ?_
  rw [q2]
  refine s_V3i 38 dX7_readMark_35 rfl km_X1_judge ml_X7_145 ds_X1_judge (Nat.le_of_ble_eq_true rfl) (q_rec (by assumption)) rfl (q_judge (fr := 0) hF hru hwr t2 (by omega) q2 hrb (by omega) hbs (by omega) (fun N2 R2 k1 k2 k3 => ?_))
  refine ⟨_, rfl, ?_⟩
  refine s_istore_n 39 dX7_readMark_38 rfl (Nat.le_of_ble_eq_true rfl) rfl ?_
  have eK : judK ru s.2.1 = (judge ru s.2.1).1 := if_neg (by omega)
  rw [eK] at k3 ⊢
  have hR2 : StR N2 R2 x ch tl s := hR.fr (by omega) k1 k2 (by omega) (by omega)
  have f1 : fr2 x (x + 76) f (f + 1) N N2 := fr2.r k1 (by omega)
  have f2 : fr2 x (x + 76) (f + 4) (f + 10) R R2 := fr2.r k2 (by omega)
  by_cases j2 : (judge ru s.2.1).1 = 2
  · rw [j2]
    exact unread N2 R2 2 f1 f2 hR2 (Or.inl rfl) (by unfold markF; rw [if_neg (by omega), if_pos (Or.inr j2)])
  by_cases j3 : (judge ru s.2.1).1 = 3
  · rw [j3]
    exact unread N2 R2 3 f1 f2 hR2 (Or.inr rfl) (by unfold markF; rw [if_neg (by omega), if_neg (fun h => h.elim (fun h => h g1) j2), if_pos j3])
  obtain ⟨d1, d2, d3, d4, d5⟩ := judge_told hrb j2 j3
  obtain ⟨e1, e2, e3⟩ := k3 d4
  have hh := byt_at d1 0
  have hpn := partF_len ru (judge ru s.2.1).2
  generalize hj : judge ru s.2.1 = jr at *
  have ok7 : RuP N2 (f + 1) ru := hru.f2 f1 (by omega) (by omega)
  refine s_iload_n 40 dX7_readMark_39 rfl rfl ?_
  refine s_iconst 41 dX7_readMark_40 rfl ?_
  refine s_icmp_eq 44 53 dX7_readMark_41 rfl rfl (fun g2 => ?_) (fun g2 => ?_)
  · omega
  refine s_iload_n 45 dX7_readMark_44 rfl rfl ?_
  refine s_iconst 46 dX7_readMark_45 rfl ?_
  refine s_icmp_eq 49 53 dX7_readMark_46 rfl rfl (fun g3 => ?_) (fun g3 => ?_)
  · omega
  refine s_iconst 50 dX7_readMark_49 rfl ?_
  refine s_goto 54 dX7_readMark_50 rfl ?_
  refine s_istore_n 55 dX7_readMark_54 rfl (Nat.le_of_ble_eq_true rfl) rfl ?_
  refine s_iload_n 56 dX7_readMark_55 rfl rfl ?_
  refine s_if_eq 59 69 dX7_readMark_56 rfl rfl (fun g4 => ?_) (fun g4 => ?_)
  · omega
  refine s_aload_n 60 dX7_readMark_59 rfl rfl ?_
  refine g_X1_head 63 dX7_readMark_60 rfl fl_X7_149 (fun hr60 => ?_)
  rw [e1]
  refine s_bipush 65 dX7_readMark_63 rfl (k := ?_)
  refine s_ishr 66 ((jr.2.getD 0 0 / 64)) dX7_readMark_65 rfl ((shr_k (by omega) 6 (by decide))) ?_
  refine s_goto 70 dX7_readMark_66 rfl ?_
  refine s_istore 72 dX7_readMark_70 rfl (Nat.le_of_ble_eq_true rfl) rfl ?_
  refine s_iload_n 73 dX7_readMark_72 rfl rfl ?_
  rcases d4 with j0 | j4
  rotate_left
  · rw [j4]
    refine s_if_ne 76 85 dX7_readMark_73 rfl rfl (fun g5 => ?_) (fun g5 => ?_)
    rotate_left
    · omega
    refine s_null 86 dX7_readMark_85 rfl ?_
    refine s_astoreN 88 dX7_readMark_86 rfl (Nat.le_of_ble_eq_true rfl) rfl ?_
    refine s_aloadN 90 dX7_readMark_88 rfl rfl ?_
    refine s_ifnullN 107 dX7_readMark_90 rfl ?_
    exact tell N2 R2 4 _ _ _ 1 s.2.2.2.2 _ f1 f2 hR2 (by omega) (by omega) (by omega) (by omega) (Or.inl ⟨rfl, e1, e2⟩) (by unfold markF; rw [hj, if_neg (by omega), if_neg (fun h => h.elim (fun h => h g1) j2), if_neg j3, if_pos j4])
  obtain ⟨d6, d7⟩ := d5 j0
  obtain ⟨k, hk⟩ := Int.eq_ofNat_of_zero_le (show 0 ≤ jr.2.getD 0 0 / 64 by omega)
  have hkc : k < ch := by omega
  rw [j0]
  refine s_if_ne 76 85 dX7_readMark_73 rfl rfl (fun g5 => ?_) (fun g5 => ?_)
  · omega
  have hPo := t5 k (by omega)
  have a0 := hPo.1
  rw [hk]
  refine s_aload_n 77 dX7_readMark_76 rfl rfl ?_
  refine s_iload 79 dX7_readMark_77 rfl rfl ?_
  refine s_V1n 82 dX7_readMark_79 rfl km_X7_portAt ml_X7_87 ds_X7_portAt (Nat.le_of_ble_eq_true rfl) (q_rec (by assumption)) rfl (q_portAt hS hR2.2.2.2.1.2.2.1 (by omega) (by constructor <;> omega) (fun g6 g7 => ?_) (fun g => absurd ⟨by omega, by omega⟩ g))
  refine ⟨_, rfl, ?_⟩
  rw [show ((k : Int)).toNat = k from rfl]
  refine s_goto 86 dX7_readMark_82 rfl ?_
  refine s_astore 88 dX7_readMark_86 rfl (Nat.le_of_ble_eq_true rfl) rfl ?_
  refine s_aload 90 dX7_readMark_88 rfl rfl ?_
  refine s_ifnull 93 dX7_readMark_90 rfl ?_
  have hx := hR2.2.2.2.2 k hkc
  have hwx := hw.2.2.2.2.2.2.2.2.2.2 k hkc
  refine s_aload 95 dX7_readMark_93 rfl rfl ?_
  refine s_aload_n 96 dX7_readMark_95 rfl rfl ?_
  refine g_X1_plain 99 dX7_readMark_96 rfl fl_X7_152 ?_
  refine s_aload_n 100 dX7_readMark_99 rfl rfl ?_
  refine g_X1_part 103 dX7_readMark_100 rfl fl_X7_155 (fun hr100 => ?_)
  rw [e2]
  have harg := accF_rg (c := s.2.2.2.2 k) (h := jr.2.getD 0 0) (pt := partF ru jr.2)
  refine s_V2i 106 dX7_readMark_103 rfl km_X4_accept ml_X7_158 ds_X4_accept (Nat.le_of_ble_eq_true rfl) (q_rec (by assumption)) rfl (q_accept hPo u2 (by omega) hx hwx (by omega) e3 d1 d3 (by omega) (by omega) rfl (fun N3 R3 k4 k5 k6 => ?_))
  refine ⟨_, rfl, ?_⟩
  refine s_istore_n 107 dX7_readMark_106 rfl (Nat.le_of_ble_eq_true rfl) rfl ?_
  have hR3 := hR2.port hkc k4 k5 k6
  have hN3 : N3 f = N2 f := k4 f (by omega)
  rw [← hk]
  refine tell N3 R3 _ _ _ _ 1 _ _ (f1.trans (fr2.l k4 (by omega))) (f2.trans (fr2.l k5 (by omega))) hR3 (by omega) (by omega) (show -1 ≤ jr.2.getD 0 0 ∧ jr.2.getD 0 0 ≤ 600 by omega) (show -1 ≤ (((partF ru jr.2).length : Nat) : Int) ∧ (((partF ru jr.2).length : Nat) : Int) ≤ 600 by omega) (Or.inl ⟨rfl, by rw [hN3]; exact e1, by rw [hN3]; exact e2⟩) ?_
  unfold markF
  rw [hj, if_neg (by omega), if_neg (fun h => h.elim (fun h => h g1) j2), if_neg j3, if_neg (by omega), hk]
  rfl
end STATE3
