/-! ===== State: bytes read, copied, a new line ===== -/
section STATE4
variable {G : GT} {F : HS} {d : Nat} {T : Nat → Nat} {N : Nat → Nat → Int} {R : Nat → List Int} {P : Nat → Nat → Option Nat} {S : Nat → Int64} {cn un : Nat} {post : Option Value → PT → Prop} {ru : RU} {x f ch : Nat} {tl : Nat → Int} {s : ST} {b : Int}
theorem q_readBytes {n0 : Nat} (hn0 : n0 ≤ 600) (hS : StS T x) (hF : FrS T f) (hne : x + 76 ≤ f ∨ f + 10 ≤ x) (hru : RuP N (f + 1) ru) (hwr : WfRu ru) (hch : ch = (ru 5).toNat) (hR : StR N R x ch tl s) (hw : WfSt b ch s) (hb : b ≤ 88000000) (hp : ∀ N' R', fr2 x (x + 76) f (f + 1) N N' → fr2 x (x + 76) (f + 4) (f + 10) R R' → StR N' R' x ch tl (readF ru s (min n0 s.1.length)) → post (some (vi ((readF ru s (min n0 s.1.length)).2.2.1 2 - s.2.2.1 2))) (T, N', R', P, S, cn, un)) : Cm G (AP G F) yX7_readBytes cX7_readBytes 7 (some .int) (d + 6) [.ref x, vi n0, .ref f] (T, N, R, P, S, cn, un) post := by
  obtain ⟨t0, t1, t2, t3, t4, t5⟩ := id hS
  obtain ⟨q1, q2, q3, ⟨q4, q5, q6, q7⟩, q8⟩ := id hR
  have hl := hw.1
  have hby := hw.2.1
  have h5 := hwr.2.2.2.2.2
  have hx7 := hw.2.2.2.2.2.2.2.1
  refine Cm_intro (L := [some (.ref x), some (vi n0), some (.ref f), none, none, none, none]) (by decide +kernel) (Nat.le_of_ble_eq_true rfl) rfl ?_
  refine s_aload_n 1 dX7_readBytes_0 rfl rfl ?_
  refine g_X7_came 4 dX7_readBytes_1 rfl fl_X7_40 (fun hr1 => ?_)
  rw [q4]
  refine s_istore_n 5 dX7_readBytes_4 rfl (Nat.le_of_ble_eq_true rfl) rfl ?_
  refine s_iload_n 6 dX7_readBytes_5 rfl rfl ?_
  refine s_aload_n 7 dX7_readBytes_6 rfl rfl ?_
  refine g_X7_wire 10 dX7_readBytes_7 rfl fl_X7_14 ?_
  refine g_X5_size 13 dX7_readBytes_10 rfl fl_X7_97 ?_
  rw [q1]
  refine s_min (q := 16) (hd := dX7_readBytes_13) (hq := rfl) (hw := ml_X7_132) (hrest := Nat.le_of_ble_eq_true rfl) (k := ?_)
  refine s_istore 18 dX7_readBytes_16 rfl (Nat.le_of_ble_eq_true rfl) rfl ?_
  refine s_iconst 19 dX7_readBytes_18 rfl ?_
  refine s_istore 21 dX7_readBytes_19 rfl (Nat.le_of_ble_eq_true rfl) rfl ?_
  obtain ⟨k0, hk0⟩ : ∃ k0, k0 = min n0 s.1.length := ⟨_, rfl⟩
  rw [show min (n0 : Int) (s.1.length : Int) = (k0 : Int) by omega]
  rw [← hk0] at hp
  have hk1 : k0 ≤ s.1.length := by omega
  have key : ∀ (m i : Nat) (N2 : Nat → Nat → Int) (R2 : Nat → List Int) (s2 : ST), i + m = k0 → (s.1.take i).foldl (byteF ru) s = s2 → fr2 x (x + 76) f (f + 1) N N2 → fr2 x (x + 76) (f + 4) (f + 10) R R2 → StR N2 R2 x ch tl s2 → WfSt (b + 20 * i) ch s2 → V G (AP G F) yX7_readBytes cX7_readBytes 7 (some .int) (d + 6) (T, N2, R2, P, S, cn, un) 21 [some (.ref x), some (vi n0), some (.ref f), some (vi (s.2.2.1 2)), some (vi k0), some (vi i), none] [] post := by
    intro m
    induction m with
    | zero =>
      intro i N2 R2 s2 hi hs2 f1 f2 f3 f4
      have hs1 : s2.1 = s.1 := by rw [← hs2]; exact fold_1 ru _ s
      have z1 : R2 (x + 1) = s.1 := f3.1.trans hs1
      have z4 : N2 x 3 = s2.2.2.1 2 := f3.2.2.2.1.1
      have y7 := f4.2.2.2.2.2.2.2.1
      refine s_iload 23 dX7_readBytes_21 rfl rfl ?_
      refine s_iload 25 dX7_readBytes_23 rfl rfl ?_
      refine s_icmp_ge 28 88 dX7_readBytes_25 rfl rfl (fun g => ?_) (fun g => ?_)
      rotate_left
      · omega
      refine s_aload_n 89 dX7_readBytes_88 rfl rfl ?_
      refine g_X7_wire 92 dX7_readBytes_89 rfl fl_X7_14 ?_
      refine s_iload 94 dX7_readBytes_92 rfl rfl ?_
      refine s_V1v 97 dX7_readBytes_94 rfl km_X5_dropFirst ml_X7_142 ds_X5_dropFirst (Nat.le_of_ble_eq_true rfl) (q_recR (by assumption)) rfl (r_dropK t1 z1 (by omega) (by constructor <;> omega) ?_)
      refine ⟨rfl, ?_⟩
      rw [show ((k0 : Int)).toNat = k0 from rfl]
      refine s_aload_n 98 dX7_readBytes_97 rfl rfl ?_
      refine g_X7_came 101 dX7_readBytes_98 rfl fl_X7_40 (fun hr98 => ?_)
      rw [z4]
      refine s_iload_n 102 dX7_readBytes_101 rfl rfl ?_
      refine s_isub 103 dX7_readBytes_102 rfl ?_
      refine s_ireturn rfl dX7_readBytes_103 ?_
      rw [show i = k0 by omega] at hs2
      have er : readF ru s k0 = (s.1.drop k0, s2.2) := by rw [← hs2]; rfl
      rw [er] at hp
      exact hp _ _ f1 (f2.trans (fr2.l (lo := x + 1) (hi := x + 2) (frO.rf.up (by omega)) (by omega))) f3.wire
    | succ m ih =>
      intro i N2 R2 s2 hi hs2 f1 f2 f3 f4
      have hs1 : s2.1 = s.1 := by rw [← hs2]; exact fold_1 ru _ s
      have z1 : R2 (x + 1) = s.1 := f3.1.trans hs1
      have hv := byt_at hby i
      have hst := foldl_snoc (byteF ru) s s.1 i 0 (by omega)
      rw [hs2] at hst
      have hwf := byteF_wf f4 hwr hch hv
      refine s_iload 23 dX7_readBytes_21 rfl rfl ?_
      refine s_iload 25 dX7_readBytes_23 rfl rfl ?_
      refine s_icmp_ge 28 88 dX7_readBytes_25 rfl rfl (fun g => ?_) (fun g => ?_)
      · omega
      refine s_aload_n 29 dX7_readBytes_28 rfl rfl ?_
      refine g_X7_wire 32 dX7_readBytes_29 rfl fl_X7_14 ?_
      refine s_iload 34 dX7_readBytes_32 rfl rfl ?_
      refine s_V1i 37 dX7_readBytes_34 rfl km_X5_at ml_X7_123 ds_X5_at (Nat.le_of_ble_eq_true rfl) (q_recR (by assumption)) rfl (r_atK t1 z1 (by constructor <;> omega) (fun hr => ?_))
      refine ⟨_, rfl, ?_⟩
      rw [atF_in (by omega)]
      refine s_istore 39 dX7_readBytes_37 rfl (Nat.le_of_ble_eq_true rfl) rfl ?_
      refine s_iload 41 dX7_readBytes_39 rfl rfl ?_
      generalize s.1.getD i 0 = v at *
      have nxt : ∀ (N3 : Nat → Nat → Int) (R3 : Nat → List Int), fr2 x (x + 76) f (f + 1) N N3 → fr2 x (x + 76) (f + 4) (f + 10) R R3 → StR N3 R3 x ch tl (byteF ru s2 v) → V G (AP G F) yX7_readBytes cX7_readBytes 7 (some .int) (d + 6) (T, N3, R3, P, S, cn, un) 82 [some (.ref x), some (vi n0), some (.ref f), some (vi (s.2.2.1 2)), some (vi k0), some (vi i), some (vi v)] [] post := by
        intro N3 R3 k1 k2 k3
        refine s_iinc 85 dX7_readBytes_82 rfl rfl (Nat.le_of_ble_eq_true rfl) rfl ?_
        refine s_goto 21 dX7_readBytes_85 rfl ?_
        exact V_kill 6 (ih (i + 1) N3 R3 (byteF ru s2 v) (by omega) hst k1 k2 k3 (hwf.mono (by omega)))
      have q6 := f3.2.2.2.1
      obtain ⟨n3, n4, n6, n7⟩ := q6
      have z2 := f3.2.1
      have hrl := f4.2.2.1
      refine s_if_ne 44 52 dX7_readBytes_41 rfl rfl (fun g1 => ?_) (fun g1 => ?_)
      rotate_left
      · refine s_aload_n 45 dX7_readBytes_44 rfl rfl ?_
        refine s_aload_n 46 dX7_readBytes_45 rfl rfl ?_
        refine s_V1v 49 dX7_readBytes_46 rfl km_X7_readMark ml_X7_138 ds_X7_readMark (Nat.le_of_ble_eq_true rfl) (q_rec (by assumption)) rfl (q_readMark hS hF hne (hru.f2 f1 (by omega) (by omega)) hwr hch f3 f4 (by omega) (fun N3 R3 k1 k2 k3 => ?_))
        refine ⟨rfl, ?_⟩
        refine s_goto 82 dX7_readBytes_49 rfl ?_
        refine nxt N3 R3 (f1.trans k1) (f2.trans k2) ?_
        unfold byteF
        rw [if_pos g1]
        exact k3
      refine s_aload_n 53 dX7_readBytes_52 rfl rfl ?_
      refine g_X7_reader 56 dX7_readBytes_53 rfl fl_X7_20 ?_
      refine g_X5_size 59 dX7_readBytes_56 rfl fl_X7_97 ?_
      rw [z2]
      refine s_sipush 62 dX7_readBytes_59 rfl (k := ?_)
      refine s_icmp_ge 65 77 dX7_readBytes_62 rfl rfl (fun g2 => ?_) (fun g2 => ?_)
      · refine s_aload_n 78 dX7_readBytes_77 rfl rfl ?_
        refine s_iconst 79 dX7_readBytes_78 rfl ?_
        refine p_X7_readerOver 82 dX7_readBytes_79 rfl fl_X7_43 ?_
        refine nxt _ R2 (f1.trans (fr2.l (lo := x) (hi := x + 1) (frO.rf.up (by omega)) (by omega))) f2 ?_
        unfold byteF
        rw [if_neg g1, if_pos (by omega)]
        exact f3.num (i := up s2.2.2.1 0 1) (by rw [up_n (by decide), up_n (by decide)]; exact n3) (by rw [up_n (by decide), up_n (by decide)]; exact n4) (by rw [up_n (by decide)]; exact n6) (by rw [up_s, up_s])
      · refine s_aload_n 66 dX7_readBytes_65 rfl rfl ?_
        refine g_X7_reader 69 dX7_readBytes_66 rfl fl_X7_20 ?_
        refine s_iload 71 dX7_readBytes_69 rfl rfl ?_
        refine s_V1v 74 dX7_readBytes_71 rfl km_X5_add ml_X7_107 ds_X5_add (Nat.le_of_ble_eq_true rfl) (q_recR (by assumption)) rfl (r_addK t2 z2 (by omega) (by constructor <;> omega) ?_)
        refine ⟨rfl, ?_⟩
        refine s_goto 82 dX7_readBytes_74 rfl ?_
        refine nxt N2 _ f1 (f2.trans (fr2.l (lo := x + 3) (hi := x + 4) (frO.rf.up (by omega)) (by omega))) ?_
        unfold byteF
        rw [if_neg g1, if_neg (by omega)]
        obtain ⟨y1, y2, y3, y4, y5⟩ := f3
        exact ⟨by rw [up_n (by omega)]; exact y1, up_s _ _ _, by rw [up_n (by omega)]; exact y3, y4, fun c hc => (y5 c hc).off rfl (fun w h1 h2 => up_n (by omega))⟩
  exact key k0 0 N R s (by omega) (by rw [List.take_zero]; rfl) fr2.rf fr2.rf hR (hw.mono (by omega))
/-- a state whose first k channels are told -/
def StK (N : Nat → Nat → Int) (R : Nat → List Int) (x ch k : Nat) (tl : Nat → Int) (s : ST) : Prop := R (x + 1) = s.1 ∧ R (x + 3) = s.2.1 ∧ R (x + 5) = evR s.2.2.2.1 ∧ (N x 3 = s.2.2.1 2 ∧ N x 4 = s.2.2.1 1 ∧ N x 6 = ch ∧ N x 7 = s.2.2.1 0) ∧ ∀ c, c < k → PoR N R (x + 7 + 1 + 17 * c) (tl c) (s.2.2.2.2 c)
theorem StK.port {N' : Nat → Nat → Int} {R' : Nat → List Int} {k : Nat} (h : StK N R x ch k tl s) (f1 : frO (x + 7 + 1 + 17 * k) (x + 7 + 1 + 17 * k + 1) N N') (f2 : frO (x + 7 + 1 + 17 * k) (x + 7 + 1 + 17 * k + 17) R R') (hc : PoR N' R' (x + 7 + 1 + 17 * k) (tl k) (s.2.2.2.2 k)) : StK N' R' x ch (k + 1) tl s := by
  obtain ⟨q1, q2, q3, q4, q5⟩ := h
  refine ⟨by rw [f2 _ (by omega)]; exact q1, by rw [f2 _ (by omega)]; exact q2, by rw [f2 _ (by omega)]; exact q3, by rw [f1 x (by omega)]; exact q4, fun c hc2 => ?_⟩
  by_cases e : c = k
  · subst e
    exact hc
  · exact (q5 c (by omega)).off (f1 _ (by omega)) (fun w h1 h2 => f2 w (by omega))
theorem q_scopy {z : Nat} (hS : StS T x) (hS2 : StS T z) (hne : z + 76 ≤ x ∨ x + 76 ≤ z) (hR : StR N R z ch tl s) (hw : WfSt b ch s) (hb : b ≤ 99000000) (hc4 : ch ≤ 4) (hp : ∀ N' R', frO x (x + 76) N N' → frO x (x + 76) R R' → StR N' R' x ch tl s → post none (T, N', R', P, S, cn, un)) : Cm G (AP G F) yX7_copyFrom cX7_copyFrom 3 none (d + 5) [.ref x, .ref z] (T, N, R, P, S, cn, un) post := by
  obtain ⟨t0, t1, t2, t3, t4, t5⟩ := id hS
  obtain ⟨z0, z1, z2, z3, z4, z5⟩ := id hS2
  obtain ⟨q1, q2, q3, ⟨q4, q5, q6, q7⟩, q8⟩ := id hR
  have hl := hw.1
  have hrl := hw.2.2.1
  have hov := hw.2.2.2.2.2.1
  have hpk := hw.2.2.2.2.2.2.1
  have hx7 := hw.2.2.2.2.2.2.2.1
  have hel := hw.2.2.2.2.2.2.2.2.1
  have hev := hw.2.2.2.2.2.2.2.2.2.1
  have hlen := evR_len (fun e he => (hev e he).1)
  refine Cm_intro (L := [some (.ref x), some (.ref z), none]) (by decide +kernel) (Nat.le_of_ble_eq_true rfl) rfl ?_
  refine s_aload_n 1 dX7_copyFrom_0 rfl rfl ?_
  refine g_X7_wire 4 dX7_copyFrom_1 rfl fl_X7_14 ?_
  refine s_aload_n 5 dX7_copyFrom_4 rfl rfl ?_
  refine g_X7_wire 8 dX7_copyFrom_5 rfl fl_X7_14 ?_
  refine s_V1v 11 dX7_copyFrom_8 rfl km_X5_copyFrom ml_X7_61 ds_X5_copyFrom (Nat.le_of_ble_eq_true rfl) (q_recR (by assumption)) rfl (r_copyFrom t1 (by omega) (by omega) ?_)
  refine ⟨rfl, ?_⟩
  rw [q1, List.take_of_length_le hl]
  refine s_aload_n 12 dX7_copyFrom_11 rfl rfl ?_
  refine g_X7_reader 15 dX7_copyFrom_12 rfl fl_X7_20 ?_
  refine s_aload_n 16 dX7_copyFrom_15 rfl rfl ?_
  refine g_X7_reader 19 dX7_copyFrom_16 rfl fl_X7_20 ?_
  refine s_V1v 22 dX7_copyFrom_19 rfl km_X5_copyFrom ml_X7_61 ds_X5_copyFrom (Nat.le_of_ble_eq_true rfl) (q_recR (by assumption)) rfl (r_copyFrom t2 (by omega) (by omega) ?_)
  refine ⟨rfl, ?_⟩
  rw [up_n (show z + 3 ≠ x + 1 by omega), q2, List.take_of_length_le hrl]
  refine s_aload_n 23 dX7_copyFrom_22 rfl rfl ?_
  refine g_X7_events 26 dX7_copyFrom_23 rfl fl_X7_23 ?_
  refine s_aload_n 27 dX7_copyFrom_26 rfl rfl ?_
  refine g_X7_events 30 dX7_copyFrom_27 rfl fl_X7_23 ?_
  refine s_V1v 33 dX7_copyFrom_30 rfl km_X5_copyFrom ml_X7_61 ds_X5_copyFrom (Nat.le_of_ble_eq_true rfl) (q_recR (by assumption)) rfl (r_copyFrom t3 (by omega) (by omega) ?_)
  refine ⟨rfl, ?_⟩
  rw [up_n (show z + 5 ≠ x + 3 by omega), up_n (show z + 5 ≠ x + 1 by omega), q3, List.take_of_length_le (by omega)]
  have hzx : ∀ g : Nat → Int, up N x g z = N z := fun g => up_n (by omega)
  refine s_aload_n 34 dX7_copyFrom_33 rfl rfl ?_
  refine s_aload_n 35 dX7_copyFrom_34 rfl rfl ?_
  refine g_X7_came 38 dX7_copyFrom_35 rfl fl_X7_40 (fun hr35 => ?_)
  rw [q4]
  refine p_X7_came 41 dX7_copyFrom_38 rfl fl_X7_40 ?_
  refine s_aload_n 42 dX7_copyFrom_41 rfl rfl ?_
  refine s_aload_n 43 dX7_copyFrom_42 rfl rfl ?_
  refine g_X7_picked 46 dX7_copyFrom_43 rfl fl_X7_26 (fun hr43 => ?_)
  rw [hzx, q5]
  refine p_X7_picked 49 dX7_copyFrom_46 rfl fl_X7_26 ?_
  refine s_aload_n 50 dX7_copyFrom_49 rfl rfl ?_
  refine s_aload_n 51 dX7_copyFrom_50 rfl rfl ?_
  refine g_X7_readerOver 54 dX7_copyFrom_51 rfl fl_X7_43 (fun hr51 => ?_)
  rw [up_in, hzx, q7]
  refine p_X7_readerOver 57 dX7_copyFrom_54 rfl fl_X7_43 ?_
  refine s_aload_n 58 dX7_copyFrom_57 rfl rfl ?_
  refine s_aload_n 59 dX7_copyFrom_58 rfl rfl ?_
  refine g_X7_portCount 62 dX7_copyFrom_59 rfl fl_X7_51 (fun hr59 => ?_)
  rw [up_in, hzx, q6]
  refine p_X7_portCount 65 dX7_copyFrom_62 rfl fl_X7_51 ?_
  refine s_iconst 66 dX7_copyFrom_65 rfl ?_
  refine s_istore_n 67 dX7_copyFrom_66 rfl (Nat.le_of_ble_eq_true rfl) rfl ?_
  rw [up_in]
  generalize hN1 : up N x (up (up (up (up (N x) 3 (s.2.2.1 2)) 4 (s.2.2.1 1)) 7 (s.2.2.1 0)) 6 (ch : Int)) = N1
  generalize hR1 : up (up (up R (x + 1) s.1) (x + 3) s.2.1) (x + 5) (evR s.2.2.2.1) = R1
  have fN1 : frO x (x + 76) N N1 := by rw [← hN1]; exact frO.rf.up (by omega)
  have fR1 : frO x (x + 76) R R1 := by rw [← hR1]; exact ((frO.rf.up (by omega)).up (by omega)).up (by omega)
  have hK0 : StK N1 R1 x ch 0 tl s := by
    refine ⟨by rw [← hR1, up_n (by omega), up_n (by omega), up_s], by rw [← hR1, up_n (by omega), up_s], by rw [← hR1, up_s], ?_, fun c hc => by omega⟩
    rw [← hN1, up_s]
    exact ⟨rfl, rfl, rfl, rfl⟩
  have key : ∀ (m k : Nat) (N2 : Nat → Nat → Int) (R2 : Nat → List Int), k + m = ch → frO x (x + 76) N N2 → frO x (x + 76) R R2 → StK N2 R2 x ch k tl s → V G (AP G F) yX7_copyFrom cX7_copyFrom 3 none (d + 5) (T, N2, R2, P, S, cn, un) 67 [some (.ref x), some (.ref z), some (vi k)] [] post := by
    intro m
    induction m with
    | zero =>
      intro k N2 R2 hk f1 f2 f3
      have n6 := f3.2.2.2.1.2.2.1
      refine s_iload_n 68 dX7_copyFrom_67 rfl rfl ?_
      refine s_aload_n 69 dX7_copyFrom_68 rfl rfl ?_
      refine g_X7_portCount 72 dX7_copyFrom_69 rfl fl_X7_51 (fun hr69 => ?_)
      rw [n6]
      refine s_icmp_ge 75 96 dX7_copyFrom_72 rfl rfl (fun g => ?_) (fun g => ?_)
      rotate_left
      · omega
      refine s_return rfl dX7_copyFrom_96 ?_
      have ek : k = ch := by omega
      subst ek
      exact hp N2 R2 f1 f2 f3
    | succ m ih =>
      intro k N2 R2 hk f1 f2 f3
      have n6 := f3.2.2.2.1.2.2.1
      have hz := (q8 k (by omega)).off (N' := N2) (R' := R2) (f1 _ (by omega)) (fun w h1 h2 => f2 w (by omega))
      have a0 := (t5 k (by omega)).1
      have c0 := (z5 k (by omega)).1
      refine s_iload_n 68 dX7_copyFrom_67 rfl rfl ?_
      refine s_aload_n 69 dX7_copyFrom_68 rfl rfl ?_
      refine g_X7_portCount 72 dX7_copyFrom_69 rfl fl_X7_51 (fun hr69 => ?_)
      rw [n6]
      refine s_icmp_ge 75 96 dX7_copyFrom_72 rfl rfl (fun g => ?_) (fun g => ?_)
      · omega
      refine s_aload_n 76 dX7_copyFrom_75 rfl rfl ?_
      refine g_X7_ports 79 dX7_copyFrom_76 rfl fl_X7_32 ?_
      refine s_iload_n 80 dX7_copyFrom_79 rfl rfl ?_
      refine q_port 81 dX7_copyFrom_80 rfl ?_
      rw [show ((k : Int)).toNat = k from rfl]
      refine s_aload_n 82 dX7_copyFrom_81 rfl rfl ?_
      refine g_X7_ports 85 dX7_copyFrom_82 rfl fl_X7_32 ?_
      refine s_iload_n 86 dX7_copyFrom_85 rfl rfl ?_
      refine q_port 87 dX7_copyFrom_86 rfl ?_
      rw [show ((k : Int)).toNat = k from rfl]
      refine s_V1v 90 dX7_copyFrom_87 rfl km_X4_copyFrom ml_X7_65 ds_X4_copyFrom (Nat.le_of_ble_eq_true rfl) (q_rec (by assumption)) rfl (q_pcopy (t5 k (by omega)) (z5 k (by omega)) (by omega) hz (hw.2.2.2.2.2.2.2.2.2.2 k (by omega)) (fun N3 R3 k1 k2 k3 => ?_))
      refine ⟨rfl, ?_⟩
      refine s_iinc 93 dX7_copyFrom_90 rfl rfl (Nat.le_of_ble_eq_true rfl) rfl ?_
      refine s_goto 67 dX7_copyFrom_93 rfl ?_
      exact ih (k + 1) N3 R3 (by omega) (f1.trans k1 (by omega)) (f2.trans k2 (by omega)) (f3.port k1 k2 k3)
  exact key ch 0 N1 R1 (by omega) fN1 fR1 hK0
theorem q_sreset {z : Nat} (hS : StS T x) (hS2 : RuS T z) (hne : z + 3 ≤ x ∨ x + 76 ≤ z) (hch : N z 5 = ch) (hc4 : ch ≤ 4) (htl : ∀ c, c < ch → N (z + 2) c = tl c) (hp : ∀ N' R', frO x (x + 76) N N' → frO x (x + 76) R R' → StR N' R' x ch tl (st0 tl) → post none (T, N', R', P, S, cn, un)) : Cm G (AP G F) yX7_reset cX7_reset 3 none (d + 3) [.ref x, .ref z] (T, N, R, P, S, cn, un) post := by
  obtain ⟨t0, t1, t2, t3, t4, t5⟩ := id hS
  obtain ⟨z0, z1, z2⟩ := id hS2
  refine Cm_intro (L := [some (.ref x), some (.ref z), none]) (by decide +kernel) (Nat.le_of_ble_eq_true rfl) rfl ?_
  refine s_aload_n 1 dX7_reset_0 rfl rfl ?_
  refine g_X7_wire 4 dX7_reset_1 rfl fl_X7_14 ?_
  refine s_V0v 7 dX7_reset_4 rfl km_X5_clear ml_X7_37 ds_X5_clear (Nat.le_of_ble_eq_true rfl) (q_recR (by assumption)) rfl (r_clear t1 ?_)
  refine ⟨rfl, ?_⟩
  refine s_aload_n 8 dX7_reset_7 rfl rfl ?_
  refine g_X7_reader 11 dX7_reset_8 rfl fl_X7_20 ?_
  refine s_V0v 14 dX7_reset_11 rfl km_X5_clear ml_X7_37 ds_X5_clear (Nat.le_of_ble_eq_true rfl) (q_recR (by assumption)) rfl (r_clear t2 ?_)
  refine ⟨rfl, ?_⟩
  refine s_aload_n 15 dX7_reset_14 rfl rfl ?_
  refine g_X7_events 18 dX7_reset_15 rfl fl_X7_23 ?_
  refine s_V0v 21 dX7_reset_18 rfl km_X5_clear ml_X7_37 ds_X5_clear (Nat.le_of_ble_eq_true rfl) (q_recR (by assumption)) rfl (r_clear t3 ?_)
  refine ⟨rfl, ?_⟩
  have hzx : ∀ g : Nat → Int, up N x g z = N z := fun g => up_n (by omega)
  refine s_aload_n 22 dX7_reset_21 rfl rfl ?_
  refine s_iconst 23 dX7_reset_22 rfl ?_
  refine p_X7_came 26 dX7_reset_23 rfl fl_X7_40 ?_
  refine s_aload_n 27 dX7_reset_26 rfl rfl ?_
  refine s_iconst 28 dX7_reset_27 rfl ?_
  refine p_X7_picked 31 dX7_reset_28 rfl fl_X7_26 ?_
  rw [up_in]
  refine s_aload_n 32 dX7_reset_31 rfl rfl ?_
  refine s_iconst 33 dX7_reset_32 rfl ?_
  refine p_X7_readerOver 36 dX7_reset_33 rfl fl_X7_43 ?_
  rw [up_in]
  refine s_aload_n 37 dX7_reset_36 rfl rfl ?_
  refine s_aload_n 38 dX7_reset_37 rfl rfl ?_
  refine g_X6_ports 41 dX7_reset_38 rfl fl_X7_47 (fun hr38 => ?_)
  rw [hzx, hch]
  refine p_X7_portCount 44 dX7_reset_41 rfl fl_X7_51 ?_
  refine s_iconst 45 dX7_reset_44 rfl ?_
  refine s_istore_n 46 dX7_reset_45 rfl (Nat.le_of_ble_eq_true rfl) rfl ?_
  rw [up_in]
  generalize hN1 : up N x (up (up (up (up (N x) 3 0) 4 (-1)) 7 0) 6 (ch : Int)) = N1
  generalize hR1 : up (up (up R (x + 1) []) (x + 3) []) (x + 5) [] = R1
  have fN1 : frO x (x + 76) N N1 := by rw [← hN1]; exact frO.rf.up (by omega)
  have fR1 : frO x (x + 76) R R1 := by rw [← hR1]; exact ((frO.rf.up (by omega)).up (by omega)).up (by omega)
  have hK0 : StK N1 R1 x ch 0 tl (st0 tl) := by
    refine ⟨by rw [← hR1, up_n (by omega), up_n (by omega), up_s]; rfl, by rw [← hR1, up_n (by omega), up_s]; rfl, by rw [← hR1, up_s]; rfl, ?_, fun c hc => by omega⟩
    rw [← hN1, up_s]
    exact ⟨rfl, rfl, rfl, rfl⟩
  have key : ∀ (m k : Nat) (N2 : Nat → Nat → Int) (R2 : Nat → List Int), k + m = ch → frO x (x + 76) N N2 → frO x (x + 76) R R2 → StK N2 R2 x ch k tl (st0 tl) → V G (AP G F) yX7_reset cX7_reset 3 none (d + 3) (T, N2, R2, P, S, cn, un) 46 [some (.ref x), some (.ref z), some (vi k)] [] post := by
    intro m
    induction m with
    | zero =>
      intro k N2 R2 hk f1 f2 f3
      have n6 := f3.2.2.2.1.2.2.1
      refine s_iload_n 47 dX7_reset_46 rfl rfl ?_
      refine s_aload_n 48 dX7_reset_47 rfl rfl ?_
      refine g_X7_portCount 51 dX7_reset_48 rfl fl_X7_51 (fun hr48 => ?_)
      rw [n6]
      refine s_icmp_ge 54 75 dX7_reset_51 rfl rfl (fun g => ?_) (fun g => ?_)
      rotate_left
      · omega
      refine s_return rfl dX7_reset_75 ?_
      have ek : k = ch := by omega
      subst ek
      exact hp N2 R2 f1 f2 f3
    | succ m ih =>
      intro k N2 R2 hk f1 f2 f3
      have n6 := f3.2.2.2.1.2.2.1
      have a0 := (t5 k (by omega)).1
      have ez : N2 (z + 2) k = tl k := by rw [f1 _ (by omega)]; exact htl k (by omega)
      refine s_iload_n 47 dX7_reset_46 rfl rfl ?_
      refine s_aload_n 48 dX7_reset_47 rfl rfl ?_
      refine g_X7_portCount 51 dX7_reset_48 rfl fl_X7_51 (fun hr48 => ?_)
      rw [n6]
      refine s_icmp_ge 54 75 dX7_reset_51 rfl rfl (fun g => ?_) (fun g => ?_)
      · omega
      refine s_aload_n 55 dX7_reset_54 rfl rfl ?_
      refine g_X7_ports 58 dX7_reset_55 rfl fl_X7_32 ?_
      refine s_iload_n 59 dX7_reset_58 rfl rfl ?_
      refine q_port 60 dX7_reset_59 rfl ?_
      rw [show ((k : Int)).toNat = k from rfl]
      refine s_aload_n 61 dX7_reset_60 rfl rfl ?_
      refine g_X6_credits 64 dX7_reset_61 rfl fl_X7_54 ?_
      refine s_iload_n 65 dX7_reset_64 rfl rfl ?_
      refine q_ald 66 dX7_reset_65 rfl (fun hr65 => ?_)
      rw [show ((k : Int)).toNat = k from rfl, ez] at *
      refine s_V1v 69 dX7_reset_66 rfl km_X4_reset ml_X7_58 ds_X4_reset (Nat.le_of_ble_eq_true rfl) (q_rec (by assumption)) rfl (q_preset (t5 k (by omega)) (by assumption) (fun N3 R3 k1 k2 k3 => ?_))
      refine ⟨rfl, ?_⟩
      refine s_iinc 72 dX7_reset_69 rfl rfl (Nat.le_of_ble_eq_true rfl) rfl ?_
      refine s_goto 46 dX7_reset_72 rfl ?_
      exact ih (k + 1) N3 R3 (by omega) (f1.trans k1 (by omega)) (f2.trans k2 (by omega)) (f3.port k1 k2 k3)
  exact key ch 0 N1 R1 (by omega) fN1 fR1 hK0
end STATE4
