section M34
variable {G : GT} {m0 n u : Nat} {F : HS} {d : Nat} {I : Nat → Int} {A : Nat → Int → Int} {D : Int64} {post : Option Value → MT → Prop} {S : SY} {b : Int}
theorem noiF_no {D : Int64} {w : List Int} (h : (noiF D w).1 = false) : (noiF D w).2.2 = w := by
  unfold noiF at h ⊢
  by_cases h1 : dv (dn D) 3 = 2
  · rw [if_pos h1] at h ⊢
    by_cases h2 : w.length = 600
    · exact congrArg (fun x : Bool × Int64 × List Int => x.2.2) (if_pos h2)
    · rw [if_neg h2] at h; exact absurd (show true = false from h) (by decide)
  · rw [if_neg h1] at h ⊢
    by_cases h2 : w.length = 0
    · exact congrArg (fun x : Bool × Int64 × List Int => x.2.2) (if_pos h2)
    · rw [if_neg h2] at h ⊢
      by_cases h3 : dv (dn D) 3 = 1
      · rw [if_pos h3] at h; exact absurd (show true = false from h) (by decide)
      · rw [if_neg h3] at h; exact absurd (show true = false from h) (by decide)
theorem noiN_s (k : Nat) (D : Int64) (w : List Int) : noiN (k + 1) D w = ((if (noiF D w).1 then 1 else 0) + (noiN k (noiF D w).2.1 (noiF D w).2.2).1, (noiN k (noiF D w).2.1 (noiF D w).2.2).2) := rfl
theorem noiN_ok : ∀ (k : Nat) (D : Int64) (w : List Int), byt w → w.length ≤ 600 → (0 ≤ (noiN k D w).1 ∧ (noiN k D w).1 ≤ k) ∧ ((noiN k D w).1 = 0 → (noiN k D w).2 = w) ∧ byt (noiN k D w).2 ∧ (noiN k D w).2.length ≤ 600 := by
  intro k
  induction k with
  | zero => intro D w hb hl; exact ⟨⟨Int.le_refl 0, Int.le_refl 0⟩, fun _ => rfl, hb, hl⟩
  | succ k ih =>
    intro D w hb hl
    obtain ⟨n1, n2⟩ := noiF_ok (D := D) hb hl
    obtain ⟨⟨i1, i2⟩, i3, i4, i5⟩ := ih (noiF D w).2.1 (noiF D w).2.2 n1 n2
    rw [noiN_s]
    refine ⟨⟨?_, ?_⟩, fun h => ?_, i4, i5⟩
    · show 0 ≤ (if (noiF D w).1 then (1 : Int) else 0) + _
      split <;> omega
    · show (if (noiF D w).1 then (1 : Int) else 0) + _ ≤ ((k + 1 : Nat) : Int)
      split <;> omega
    · have h : (if (noiF D w).1 then (1 : Int) else 0) + (noiN k (noiF D w).2.1 (noiF D w).2.2).1 = 0 := h
      show (noiN k (noiF D w).2.1 (noiF D w).2.2).2 = w
      cases e : (noiF D w).1
      · rw [e, if_neg (by decide)] at h
        rw [i3 (by omega)]
        exact noiF_no e
      · rw [e, if_pos rfl] at h
        omega
theorem o_noise {z : Int} {Dq : Int64} (hz : rg z) (hm : RepM I A S) (hw : WfSy b S) (hb : b ≤ 90000000) (hp : ∀ I' A' D', RepM I' A' (oNoise S z Dq).2 → post (some (vi (oNoise S z Dq).1)) (I', A', D')) : Cm G (AM G m0 F n u) yX12_noise cX12_noise 6 (some .int) (d + 2) [.ref m0, vi z, .long Dq] (I, A, D) post := by
  obtain ⟨tp, bx, hd, rf, il, ru, tl, s, ps, im⟩ := S
  have hm0 := hm
  have hw0 := hw
  obtain ⟨-, -, -, -, m1, -, -, m3, -, m2⟩ := hm0
  obtain ⟨-, -, -, -, w1, -, w3, w4, w2⟩ := hw0
  refine Cm_intro (L := [some (.ref m0), some (vi z), some (.long Dq), none, none, none]) (by decide +kernel) (Nat.le_of_ble_eq_true rfl) rfl ?_
  have e17 : up I 0 0 17 = il := by rw [up_n (by decide)]; exact m1
  have e33 : up I 0 0 33 = ps.length := by rw [up_n (by decide)]; exact m3
  refine s_aload_n 1 dX12_noise_0 rfl rfl ?_
  refine s_iconst 2 dX12_noise_1 rfl ?_
  refine m_putI 5 0 dX12_noise_2 rfl fl_X12_60 (by decide) rfl rfl rfl rfl ?_
  refine s_aload_n 6 dX12_noise_5 rfl rfl ?_
  refine m_getI 9 17 dX12_noise_6 rfl fl_X12_188 (by decide) rfl (fun hr6 => ?_)
  refine s_if_ne 12 18 dX12_noise_9 rfl rfl (fun g => ?_) (fun g => ?_)
  rotate_left
  · rw [show oNoise (tp, bx, hd, rf, il, ru, tl, s, ps, im) z Dq = (-1, tp, bx, hd, rfF rf 0, il, ru, tl, s, ps, im) from if_pos (by omega)] at hp
    refine s_aload_n 13 dX12_noise_12 rfl rfl ?_
    refine s_iconst 14 dX12_noise_13 rfl ?_
    refine s_V1i 17 dX12_noise_14 rfl km_X12_refuses ml_X12_280 ds_X12_refuses (Nat.le_of_ble_eq_true rfl) m_rec rfl (c_refuses (by omega) (rf_rg hm hw hb 0 (by decide)) ?_)
    refine ⟨_, rfl, ?_⟩
    refine s_ireturn rfl dX12_noise_17 ?_
    exact hp _ _ _ (hm.rf' 0 (by decide))
  have hil : il = 1 := by omega
  subst hil
  obtain ⟨hru, htl, hs, hps, him⟩ := m2 rfl
  obtain ⟨hwr, hwt, ⟨hws, hwc⟩, hwp, hwi⟩ := w2 rfl
  have hl := hws.1
  have h0 := hs.1
  have eo : oNoise (tp, bx, hd, rf, 1, ru, tl, s, ps, im) z Dq = if ¬ (1 ≤ z ∧ z ≤ 40) then (-1, tp, bx, hd, rfF rf 2, 1, ru, tl, s, ps, im) else if (noiN z.toNat Dq s.1).1 = 0 then (0, tp, bx, hd, rf, 1, ru, tl, s, ps, im) else ((noiN z.toNat Dq s.1).1, tp, bx, hd, rf, 1, ru, tl, ((noiN z.toNat Dq s.1).2, s.2), kpF ps s, im) := by rw [oNoise]; exact if_neg (by decide)
  rw [eo] at hp
  refine s_iload_n 19 dX12_noise_18 rfl rfl ?_
  refine s_i2lz 20 dX12_noise_19 rfl ?_
  refine s_lconstz 21 dX12_noise_20 rfl ?_
  refine s_ldc2z 24 (40) dX12_noise_21 rfl kc_X12_338 rfl ?_
  refine s_S3b 27 dX12_noise_24 rfl km_X12_in rfl ml_X12_70 ds_X12_in (Nat.le_of_ble_eq_true rfl) (c_in hz (by decide) (by decide) ?_)
  refine ⟨_, rfl, ?_⟩
  refine s_if_neb 30 36 dX12_noise_27 rfl rfl (fun g2 => ?_) (fun g2 => ?_)
  rotate_left
  · have g2 : ¬ (1 ≤ z ∧ z ≤ 40) := of_decide_eq_false g2
    rw [if_pos g2] at hp
    refine s_aload_n 31 dX12_noise_30 rfl rfl ?_
    refine s_iconst 32 dX12_noise_31 rfl ?_
    refine s_V1i 35 dX12_noise_32 rfl km_X12_refuses ml_X12_280 ds_X12_refuses (Nat.le_of_ble_eq_true rfl) m_rec rfl (c_refuses (by omega) (rf_rg hm hw hb 2 (by decide)) ?_)
    refine ⟨_, rfl, ?_⟩
    refine s_ireturn rfl dX12_noise_35 ?_
    exact hp _ _ _ (hm.rf' 2 (by decide))
  have g2 : 1 ≤ z ∧ z ≤ 40 := of_decide_eq_true g2
  rw [if_neg (fun h => h g2)] at hp
  have hok := noiN_ok z.toNat Dq s.1 hws.2.1 hl
  refine s_aload_n 37 dX12_noise_36 rfl rfl ?_
  refine s_V0v 40 dX12_noise_37 rfl km_X12_putAside ml_X12_340 ds_X12_putAside (Nat.le_of_ble_eq_true rfl) m_rec rfl (c_putAside (fun A1 y1 y2 => ?_))
  refine ⟨rfl, ?_⟩
  refine s_aload_n 41 dX12_noise_40 rfl rfl ?_
  refine s_lload_n 42 dX12_noise_41 rfl rfl ?_
  refine m_putV (k := 36) 45 dX12_noise_42 rfl fl_X12_327 (by decide) rfl rfl rfl rfl (fun h => h) ?_
  refine s_iconst 46 dX12_noise_45 rfl ?_
  refine s_istore 48 dX12_noise_46 rfl (Nat.le_of_ble_eq_true rfl) rfl ?_
  refine s_iconst 49 dX12_noise_48 rfl ?_
  refine s_istore 51 dX12_noise_49 rfl (Nat.le_of_ble_eq_true rfl) rfl ?_
  have key : ∀ (m k : Nat) (dk : Int) (Dk : Int64) (w : List Int) (A2 : Nat → Int → Int), k + m = z.toNat → (0 ≤ dk ∧ dk ≤ k) → frA [3] A1 A2 → RepSt (ru 5).toNat (A2 3) (w, s.2) → byt w → w.length ≤ 600 → noiN z.toNat Dq s.1 = (dk + (noiN m Dk w).1, (noiN m Dk w).2) → V G (AM G m0 F n u) yX12_noise cX12_noise 6 (some .int) (d + 2) (up I 0 0, A2, Dk) 51 [some (.ref m0), some (vi z), some (.long Dq), none, some (vi dk), some (vi k)] [] post := by
    intro m
    induction m with
    | zero =>
      intro k dk Dk w A2 hk hdk q1 q2 q3 q4 q5
      have q5 : noiN z.toNat Dq s.1 = (dk + 0, w) := q5
      rw [q5] at hp hok
      rw [show (((dk + 0, w) : Int × List Int)).1 = dk by show dk + 0 = dk; omega] at hp hok
      refine s_iload 53 dX12_noise_51 rfl rfl ?_
      refine s_iload_n 54 dX12_noise_53 rfl rfl ?_
      refine s_icmp_ge 57 80 dX12_noise_54 rfl rfl (fun g6 => ?_) (fun g6 => ?_)
      rotate_left
      · omega
      refine s_iload 82 dX12_noise_80 rfl rfl ?_
      refine s_if_le 85 93 dX12_noise_82 rfl rfl (fun g7 => ?_) (fun g7 => ?_)
      · rw [if_pos (by omega)] at hp
        refine s_iload 95 dX12_noise_93 rfl rfl ?_
        refine s_ireturn rfl dX12_noise_95 ?_
        have ew : w = s.1 := hok.2.1 (by omega)
        rw [show dk = 0 by omega]
        refine hp _ _ _ (hm.st (frI.rf.up (by decide)) ((y1.wk (by decide)).trans q1 (by decide)) ?_ ?_ ?_ ?_ ?_)
        · rw [up_n (by decide)]; exact m3
        · rw [up_n (by decide)]; exact hm.2.2.2.2.2.2.2.2.1
        · rw [ew] at q2; exact q2
        · intro k9 hk9; rw [q1 8 (by decide), y1 8 (by decide)]; exact hps k9 hk9
        · intro x hx; rw [q1 14 (by decide), y1 14 (by decide)]; exact him x hx
      · rw [if_neg (by omega)] at hp
        refine s_aload_n 86 dX12_noise_85 rfl rfl ?_
        refine s_aload_n 87 dX12_noise_86 rfl rfl ?_
        refine m_getV (k := 34) 90 dX12_noise_87 rfl fl_X12_42 (by decide) rfl ?_
        refine s_V1v 93 dX12_noise_90 rfl km_X12_keepsRow ml_X12_274 ds_X12_keepsRow (Nat.le_of_ble_eq_true rfl) m_rec rfl (c_keepsRow (j0 := 9) (Or.inr rfl) e33 w4 (fun A3 f1 f2 f3 => ?_))
        refine ⟨rfl, ?_⟩
        refine s_iload 95 dX12_noise_93 rfl rfl ?_
        refine s_ireturn rfl dX12_noise_95 ?_
        exact hp _ _ _ (hm.act hw ((frI.rf.up (by decide)).up (by decide)) (((y1.wk (by decide)).trans q1 (by decide)).trans f1 (by decide)) (by rw [up_s]) (fun i x y => by rw [f2 i x y, q1 8 (by decide), y1 8 (by decide)]) (fun i x y => by rw [f3 i x y, q1 9 (by decide), y2 i x y]) (by rw [f1 3 (by decide)]; exact q2) (by rw [up_n (by decide), up_n (by decide)]; exact hm.1.1) (Or.inl rfl) (by rw [up_n (by decide), up_n (by decide)]; exact hm.2.2.1.1) (by rw [f1 11 (by decide), q1 11 (by decide), y1 11 (by decide)]; exact hm.2.2.1.2))
    | succ m ih =>
      intro k dk Dk w A2 hk hdk q1 q2 q3 q4 q5
      obtain ⟨n1, n2⟩ := noiF_ok (D := Dk) q3 q4
      refine s_iload 53 dX12_noise_51 rfl rfl ?_
      refine s_iload_n 54 dX12_noise_53 rfl rfl ?_
      refine s_icmp_ge 57 80 dX12_noise_54 rfl rfl (fun g6 => ?_) (fun g6 => ?_)
      · omega
      refine s_iload 59 dX12_noise_57 rfl rfl ?_
      refine s_aload_n 60 dX12_noise_59 rfl rfl ?_
      refine s_V0b 63 dX12_noise_60 rfl km_X12_noisy ml_X12_343 ds_X12_noisy (Nat.le_of_ble_eq_true rfl) m_rec rfl (c_noisy q2 (hws.wire q3 q4) (fun A3 f1 f2 => ?_))
      refine ⟨_, rfl, ?_⟩
      refine s_if_eqb 66 70 dX12_noise_63 rfl rfl (fun g7 => ?_) (fun g7 => ?_)
      · have g7 : (noiF Dk w).1 = false := g7
        refine s_iconst 71 dX12_noise_70 rfl ?_
        refine s_iadd 72 dX12_noise_71 rfl ?_
        refine s_istore 74 dX12_noise_72 rfl (Nat.le_of_ble_eq_true rfl) rfl ?_
        refine s_iinc 77 dX12_noise_74 rfl rfl (Nat.le_of_ble_eq_true rfl) rfl ?_
        refine s_goto 51 dX12_noise_77 rfl ?_
        refine ih (k + 1) (dk + 0) (noiF Dk w).2.1 (noiF Dk w).2.2 A3 (by omega) (by omega) (q1.trans f1 (by decide)) f2 n1 n2 ?_
        rw [q5, noiN_s, g7, if_neg (by decide)]
        exact Prod.ext (by show dk + (0 + _) = dk + 0 + _; omega) rfl
      · have g7 : (noiF Dk w).1 = true := g7
        refine s_iconst 67 dX12_noise_66 rfl ?_
        refine s_goto 71 dX12_noise_67 rfl ?_
        refine s_iadd 72 dX12_noise_71 rfl ?_
        refine s_istore 74 dX12_noise_72 rfl (Nat.le_of_ble_eq_true rfl) rfl ?_
        refine s_iinc 77 dX12_noise_74 rfl rfl (Nat.le_of_ble_eq_true rfl) rfl ?_
        refine s_goto 51 dX12_noise_77 rfl ?_
        refine ih (k + 1) (dk + 1) (noiF Dk w).2.1 (noiF Dk w).2.2 A3 (by omega) (by omega) (q1.trans f1 (by decide)) f2 n1 n2 ?_
        rw [q5, noiN_s, g7, if_pos rfl]
        exact Prod.ext (by show dk + (1 + _) = dk + 1 + _; omega) rfl
  refine key z.toNat 0 0 Dq s.1 A1 (by omega) (by decide) frA.rf (by rw [y1 3 (by decide)]; exact hs) hws.2.1 hl ?_
  exact Prod.ext (by show _ = 0 + _; omega) rfl
end M34
