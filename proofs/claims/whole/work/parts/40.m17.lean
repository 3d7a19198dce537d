section M17
variable {G : GT} {m0 n u : Nat} {F : HS} {d : Nat} {I : Nat → Int} {A : Nat → Int → Int} {D : Int64} {post : Option Value → MT → Prop} {ru : RU}
theorem waiB_rg {l : List (List Int)} (h : ∀ w ∈ l, w.length ≤ 120 ∧ byt w) : 0 ≤ waiB l ∧ waiB l ≤ 120 * l.length := by
  have key : ∀ (l : List (List Int)) (z : Int), (∀ w ∈ l, w.length ≤ 120 ∧ byt w) → z ≤ l.foldl (fun n w => n + (w.length : Int)) z ∧ l.foldl (fun n w => n + (w.length : Int)) z ≤ z + 120 * l.length := by
    intro l
    induction l with
    | nil => intro z _; exact ⟨by show z ≤ z; omega, by show z ≤ z + 120 * 0; omega⟩
    | cons e l ih =>
      intro z hl
      have h := ih (z + e.length) (fun w hw => hl w (List.mem_cons_of_mem _ hw))
      have hb := (hl e List.mem_cons_self).1
      rw [List.foldl_cons, List.length_cons]
      omega
  have h := key l 0 h
  unfold waiB
  omega
theorem sumC_rg2 {f : Nat → Int} {ch : Nat} {a b : Int} (h : ∀ c, c < ch → -a ≤ f c ∧ f c ≤ b) : ∀ k, k ≤ ch → -(k * a) ≤ sumC f k ∧ sumC f k ≤ k * b := by
  intro k
  induction k with
  | zero => intro _; exact ⟨by show -((0 : Nat) * a) ≤ (0 : Int); simp, by show (0 : Int) ≤ _; simp⟩
  | succ k ih =>
    intro hk
    have h1 := ih (by omega)
    have h2 := h k (by omega)
    have h3 : ((k + 1 : Nat) : Int) * b = k * b + b := by rw [Int.natCast_add, Int.add_mul]; simp
    have h4 : ((k + 1 : Nat) : Int) * a = k * a + a := by rw [Int.natCast_add, Int.add_mul]; simp
    show -(((k + 1 : Nat) : Int) * a) ≤ sumC f k + f k ∧ sumC f k + f k ≤ ((k + 1 : Nat) : Int) * b
    omega
theorem c_waitingBytes {s : ST} {b : Int} {ch : Nat} (hch : ch = (ru 5).toNat) (hs : RepSt ch (A 3) s) (hw : WfSt b ch s) (hru : RuM I ru) (hwr : WfRu ru) (hp : post (some (vi (sumC (fun c => waiB (s.2.2.2.2 c).2.1 - (s.2.2.2.2 c).1 1) ch))) (I, A, D)) : Cm G (AM G m0 F n u) yX12_waitingBytes cX12_waitingBytes 4 (some .int) (d + 2) [.ref m0] (I, A, D) post := by
  refine Cm_intro (L := [some (.ref m0), none, none, none]) (by decide +kernel) (Nat.le_of_ble_eq_true rfl) rfl ?_
  have hc23 := hru.2.2.2.2.2
  have hr5 := hwr.2.2.2.2.2
  have hcs : ∀ c, c < ch → -120 ≤ (waiB (s.2.2.2.2 c).2.1 - (s.2.2.2.2 c).1 1) ∧ (waiB (s.2.2.2.2 c).2.1 - (s.2.2.2.2 c).1 1) ≤ 960 := by
    intro c hc
    obtain ⟨w0, w1, w2, w3, w4, w5, w6, w7, w8, w9, w10⟩ := hw.2.2.2.2.2.2.2.2.2.2 c hc
    have h1 := waiB_rg w9
    have h2 : ((s.2.2.2.2 c).2.1.headD []).length ≤ 120 := by
      rcases Nat.eq_zero_or_pos (s.2.2.2.2 c).2.1.length with e | e
      · rw [List.length_eq_zero_iff.mp e]; decide
      · exact (w9 _ (headD_mem e)).1
    omega
  refine s_iconst 1 dX12_waitingBytes_0 rfl ?_
  refine s_istore_n 2 dX12_waitingBytes_1 rfl (Nat.le_of_ble_eq_true rfl) rfl ?_
  refine s_iconst 3 dX12_waitingBytes_2 rfl ?_
  refine s_istore_n 4 dX12_waitingBytes_3 rfl (Nat.le_of_ble_eq_true rfl) rfl ?_
  have key : ∀ (m c : Nat) (x3 : Option Value), c + m = ch → V G (AM G m0 F n u) yX12_waitingBytes cX12_waitingBytes 4 (some .int) (d + 2) (I, A, D) 4 [some (.ref m0), some (vi (sumC (fun c => waiB (s.2.2.2.2 c).2.1 - (s.2.2.2.2 c).1 1) c)), some (vi c), x3] [] post := by
    intro m
    induction m with
    | zero =>
      intro c x3 hc
      refine s_iload_n 5 dX12_waitingBytes_4 rfl rfl ?_
      refine s_aload_n 6 dX12_waitingBytes_5 rfl rfl ?_
      refine m_getI 9 23 dX12_waitingBytes_6 rfl fl_X12_198 (by decide) rfl (fun hr6 => ?_)
      refine s_icmp_ge 12 57 dX12_waitingBytes_9 rfl rfl (fun g => ?_) (fun g => ?_)
      · refine s_iload_n 58 dX12_waitingBytes_57 rfl rfl ?_
        refine s_ireturn rfl dX12_waitingBytes_58 ?_
        rw [show c = ch by omega]
        exact hp
      · omega
    | succ m ih =>
      intro c x3 hc
      have hx := hs.2.2.2.2.2.2.2.2 c (by omega)
      obtain ⟨⟨a0, a1, a2, -⟩, hW, -, -⟩ := id hx
      obtain ⟨w0, w1, w2, w3, w4, w5, w6, w7, w8, w9, w10⟩ := hw.2.2.2.2.2.2.2.2.2.2 c (by omega)
      have hsm := sumC_rg2 hcs c (by omega)
      have hck := hcs c (by omega)
      have hsn : sumC (fun c => waiB (s.2.2.2.2 c).2.1 - (s.2.2.2.2 c).1 1) (c + 1) = sumC (fun c => waiB (s.2.2.2.2 c).2.1 - (s.2.2.2.2 c).1 1) c + (waiB (s.2.2.2.2 c).2.1 - (s.2.2.2.2 c).1 1) := rfl
      generalize sumC (fun c => waiB (s.2.2.2.2 c).2.1 - (s.2.2.2.2 c).1 1) c = S0 at *
      refine s_iload_n 5 dX12_waitingBytes_4 rfl rfl ?_
      refine s_aload_n 6 dX12_waitingBytes_5 rfl rfl ?_
      refine m_getI 9 23 dX12_waitingBytes_6 rfl fl_X12_198 (by decide) rfl (fun hr6 => ?_)
      refine s_icmp_ge 12 57 dX12_waitingBytes_9 rfl rfl (fun g => ?_) (fun g => ?_)
      · omega
      refine s_iload_n 13 dX12_waitingBytes_12 rfl rfl ?_
      refine s_aload_n 14 dX12_waitingBytes_13 rfl rfl ?_
      refine s_iload_n 15 dX12_waitingBytes_14 rfl rfl ?_
      refine s_iconst 16 dX12_waitingBytes_15 rfl ?_
      refine s_V2i 19 dX12_waitingBytes_16 rfl km_X12_its ml_X12_286 ds_X12_its (Nat.le_of_ble_eq_true rfl) m_rec rfl (c_itsP (by omega) (by omega) (fun hr => ?_))
      refine ⟨_, rfl, ?_⟩
      refine s_isub 20 dX12_waitingBytes_19 rfl ?_
      refine s_istore_n 21 dX12_waitingBytes_20 rfl (Nat.le_of_ble_eq_true rfl) rfl ?_
      refine s_iconst 22 dX12_waitingBytes_21 rfl ?_
      refine s_istore_n 23 dX12_waitingBytes_22 rfl (Nat.le_of_ble_eq_true rfl) rfl ?_
      rw [a2]
      have hin : ∀ (m k : Nat), k + m = (s.2.2.2.2 c).2.1.length → V G (AM G m0 F n u) yX12_waitingBytes cX12_waitingBytes 4 (some .int) (d + 2) (I, A, D) 23 [some (.ref m0), some (vi (S0 - (s.2.2.2.2 c).1 1 + waiB ((s.2.2.2.2 c).2.1.take k))), some (vi c), some (vi k)] [] post := by
        intro m
        induction m with
        | zero =>
          intro k hk
          refine s_iload_n 24 dX12_waitingBytes_23 rfl rfl ?_
          refine s_aload_n 25 dX12_waitingBytes_24 rfl rfl ?_
          refine s_iload_n 26 dX12_waitingBytes_25 rfl rfl ?_
          refine s_iconst 27 dX12_waitingBytes_26 rfl ?_
          refine s_V2i 30 dX12_waitingBytes_27 rfl km_X12_its ml_X12_286 ds_X12_its (Nat.le_of_ble_eq_true rfl) m_rec rfl (c_itsP (by omega) (by omega) (fun hr => ?_))
          refine ⟨_, rfl, ?_⟩
          refine s_icmp_ge 33 51 dX12_waitingBytes_30 rfl rfl (fun g2 => ?_) (fun g2 => ?_)
          · refine s_iinc 54 dX12_waitingBytes_51 rfl rfl (Nat.le_of_ble_eq_true rfl) rfl ?_
            refine s_goto 4 dX12_waitingBytes_54 rfl ?_
            rw [List.take_of_length_le (by omega), show S0 - (s.2.2.2.2 c).1 1 + waiB (s.2.2.2.2 c).2.1 = sumC (fun c => waiB (s.2.2.2.2 c).2.1 - (s.2.2.2.2 c).1 1) (c + 1) by omega]
            exact ih (c + 1) _ (by omega)
          · omega
        | succ m ih2 =>
          intro k hk
          have hwb := waiB_rg (l := (s.2.2.2.2 c).2.1.take k) (fun w hw => w9 w (List.mem_of_mem_take hw))
          have hlt : ((s.2.2.2.2 c).2.1.take k).length ≤ 8 := by rw [List.length_take]; omega
          obtain ⟨e1, -⟩ := hW k (by omega)
          have e2 := (w9 _ (getD_mem (x := []) (show k < (s.2.2.2.2 c).2.1.length by omega))).1
          have e3 : waiB ((s.2.2.2.2 c).2.1.take (k + 1)) = waiB ((s.2.2.2.2 c).2.1.take k) + (((s.2.2.2.2 c).2.1.getD k []).length : Int) := foldl_snoc _ _ _ _ _ (by omega)
          refine s_iload_n 24 dX12_waitingBytes_23 rfl rfl ?_
          refine s_aload_n 25 dX12_waitingBytes_24 rfl rfl ?_
          refine s_iload_n 26 dX12_waitingBytes_25 rfl rfl ?_
          refine s_iconst 27 dX12_waitingBytes_26 rfl ?_
          refine s_V2i 30 dX12_waitingBytes_27 rfl km_X12_its ml_X12_286 ds_X12_its (Nat.le_of_ble_eq_true rfl) m_rec rfl (c_itsP (by omega) (by omega) (fun hr => ?_))
          refine ⟨_, rfl, ?_⟩
          refine s_icmp_ge 33 51 dX12_waitingBytes_30 rfl rfl (fun g2 => ?_) (fun g2 => ?_)
          · omega
          refine s_iload_n 34 dX12_waitingBytes_33 rfl rfl ?_
          refine s_aload_n 35 dX12_waitingBytes_34 rfl rfl ?_
          refine s_iload_n 36 dX12_waitingBytes_35 rfl rfl ?_
          refine s_iload_n 37 dX12_waitingBytes_36 rfl rfl ?_
          refine s_S1i 40 dX12_waitingBytes_37 rfl km_X12_waitAt rfl ml_X12_292 ds_X12_waitAt (Nat.le_of_ble_eq_true rfl) (c_waitAt ?_)
          refine ⟨_, rfl, ?_⟩
          refine s_V2i 43 dX12_waitingBytes_40 rfl km_X12_its ml_X12_286 ds_X12_its (Nat.le_of_ble_eq_true rfl) m_rec rfl (c_itsP (by omega) (by omega) (fun hr => ?_))
          refine ⟨_, rfl, ?_⟩
          rw [e1]
          refine s_iadd 44 dX12_waitingBytes_43 rfl ?_
          refine s_istore_n 45 dX12_waitingBytes_44 rfl (Nat.le_of_ble_eq_true rfl) rfl ?_
          refine s_iinc 48 dX12_waitingBytes_45 rfl rfl (Nat.le_of_ble_eq_true rfl) rfl ?_
          refine s_goto 23 dX12_waitingBytes_48 rfl ?_
          rw [show S0 - (s.2.2.2.2 c).1 1 + waiB ((s.2.2.2.2 c).2.1.take k) + (((s.2.2.2.2 c).2.1.getD k []).length : Int) = S0 - (s.2.2.2.2 c).1 1 + waiB ((s.2.2.2.2 c).2.1.take (k + 1)) by omega]
          exact ih2 (k + 1) (by omega)
      have h0 := hin (s.2.2.2.2 c).2.1.length 0 (by omega)
      rw [List.take_zero, show S0 - (s.2.2.2.2 c).1 1 + waiB [] = S0 - (s.2.2.2.2 c).1 1 from Int.add_zero _] at h0
      exact h0
  exact key ch 0 none (by omega)
/-! ===== the text ===== -/
theorem c_here {tp : List Int} {p : Nat} (h2 : I 2 = tp.length) (h3 : I 3 = p) (ht : sg (A 1) 0 tp) (hl : tp.length ≤ 300) (hp : post (some (vi (if p < tp.length then tp.getD p 0 else -1))) (I, A, D)) : Cm G (AM G m0 F n u) yX12_here cX12_here 1 (some .int) d [.ref m0] (I, A, D) post := by
  refine Cm_intro (L := [some (.ref m0)]) (by decide +kernel) (Nat.le_of_ble_eq_true rfl) rfl ?_
  refine s_aload_n 1 dX12_here_0 rfl rfl ?_
  refine m_getI 4 3 dX12_here_1 rfl fl_X12_74 (by decide) rfl (fun hr1 => ?_)
  refine s_aload_n 5 dX12_here_4 rfl rfl ?_
  refine m_getI 8 2 dX12_here_5 rfl fl_X12_63 (by decide) rfl (fun hr5 => ?_)
  refine s_icmp_ge 11 23 dX12_here_8 rfl rfl (fun g => ?_) (fun g => ?_)
  · refine s_iconst 24 dX12_here_23 rfl ?_
    refine s_ireturn rfl dX12_here_24 ?_
    rw [if_neg (by omega)] at hp
    exact hp
  · refine s_aload_n 12 dX12_here_11 rfl rfl ?_
    refine m_getV (k := 1) 15 dX12_here_12 rfl fl_X12_9 (by decide) rfl ?_
    refine s_aload_n 16 dX12_here_15 rfl rfl ?_
    refine m_getI 19 3 dX12_here_16 rfl fl_X12_74 (by decide) rfl (fun hr16 => ?_)
    refine m_ald 20 1 300 dX12_here_19 rfl (by decide) rfl (fun hr19 => ?_)
    refine s_goto 24 dX12_here_20 rfl ?_
    refine s_ireturn rfl dX12_here_24 ?_
    rw [if_pos (by omega)] at hp
    have e : A 1 (I 3) = tp.getD p 0 := by
      rw [h3]
      have := ht p (by omega)
      rw [Int.zero_add] at this
      exact this
    rw [e]
    exact hp
theorem c_isSmall {z : Int} (hz : rg z) (hp : post (some (vb (sm_ z))) (I, A, D)) : Cm G (AM G m0 F n u) yX12_isSmall cX12_isSmall 1 (some .boolean) d [vi z] (I, A, D) post := by
  refine Cm_intro (L := [some (vi z)]) (by decide +kernel) (Nat.le_of_ble_eq_true rfl) rfl ?_
  unfold sm_ at hp
  refine s_iload_n 1 dX12_isSmall_0 rfl rfl ?_
  refine s_bipush 3 dX12_isSmall_1 rfl (k := ?_)
  refine s_icmp_lt 6 16 dX12_isSmall_3 rfl rfl (fun g => ?_) (fun g => ?_)
  · refine s_iconst 17 dX12_isSmall_16 rfl ?_
    first | refine s_zreturn rfl dX12_isSmall_17 ?_ | refine s_zreturn1 rfl dX12_isSmall_17 ?_ | refine s_zreturn0 rfl dX12_isSmall_17 ?_
    rw [decide_eq_false (by omega)] at hp
    exact hp
  refine s_iload_n 7 dX12_isSmall_6 rfl rfl ?_
  refine s_bipush 9 dX12_isSmall_7 rfl (k := ?_)
  refine s_icmp_gt 12 16 dX12_isSmall_9 rfl rfl (fun g2 => ?_) (fun g2 => ?_)
  · refine s_iconst 17 dX12_isSmall_16 rfl ?_
    first | refine s_zreturn rfl dX12_isSmall_17 ?_ | refine s_zreturn1 rfl dX12_isSmall_17 ?_ | refine s_zreturn0 rfl dX12_isSmall_17 ?_
    rw [decide_eq_false (by omega)] at hp
    exact hp
  · refine s_iconst 13 dX12_isSmall_12 rfl ?_
    refine s_goto 17 dX12_isSmall_13 rfl ?_
    first | refine s_zreturn rfl dX12_isSmall_17 ?_ | refine s_zreturn1 rfl dX12_isSmall_17 ?_ | refine s_zreturn0 rfl dX12_isSmall_17 ?_
    rw [decide_eq_true (by omega)] at hp
    exact hp
theorem c_isDigit {z : Int} (hz : rg z) (hp : post (some (vb (dg_ z))) (I, A, D)) : Cm G (AM G m0 F n u) yX12_isDigit cX12_isDigit 1 (some .boolean) d [vi z] (I, A, D) post := by
  refine Cm_intro (L := [some (vi z)]) (by decide +kernel) (Nat.le_of_ble_eq_true rfl) rfl ?_
  unfold dg_ at hp
  refine s_iload_n 1 dX12_isDigit_0 rfl rfl ?_
  refine s_bipush 3 dX12_isDigit_1 rfl (k := ?_)
  refine s_icmp_lt 6 16 dX12_isDigit_3 rfl rfl (fun g => ?_) (fun g => ?_)
  · refine s_iconst 17 dX12_isDigit_16 rfl ?_
    first | refine s_zreturn rfl dX12_isDigit_17 ?_ | refine s_zreturn1 rfl dX12_isDigit_17 ?_ | refine s_zreturn0 rfl dX12_isDigit_17 ?_
    rw [decide_eq_false (by omega)] at hp
    exact hp
  refine s_iload_n 7 dX12_isDigit_6 rfl rfl ?_
  refine s_bipush 9 dX12_isDigit_7 rfl (k := ?_)
  refine s_icmp_gt 12 16 dX12_isDigit_9 rfl rfl (fun g2 => ?_) (fun g2 => ?_)
  · refine s_iconst 17 dX12_isDigit_16 rfl ?_
    first | refine s_zreturn rfl dX12_isDigit_17 ?_ | refine s_zreturn1 rfl dX12_isDigit_17 ?_ | refine s_zreturn0 rfl dX12_isDigit_17 ?_
    rw [decide_eq_false (by omega)] at hp
    exact hp
  · refine s_iconst 13 dX12_isDigit_12 rfl ?_
    refine s_goto 17 dX12_isDigit_13 rfl ?_
    first | refine s_zreturn rfl dX12_isDigit_17 ?_ | refine s_zreturn1 rfl dX12_isDigit_17 ?_ | refine s_zreturn0 rfl dX12_isDigit_17 ?_
    rw [decide_eq_true (by omega)] at hp
    exact hp
theorem c_bad (hp : post none (up I 5 (if I 5 = -1 then I 4 else I 5), A, D)) : Cm G (AM G m0 F n u) yX12_bad cX12_bad 1 none d [.ref m0] (I, A, D) post := by
  refine Cm_intro (L := [some (.ref m0)]) (by decide +kernel) (Nat.le_of_ble_eq_true rfl) rfl ?_
  refine s_aload_n 1 dX12_bad_0 rfl rfl ?_
  refine s_aload_n 2 dX12_bad_1 rfl rfl ?_
  refine m_getI 5 5 dX12_bad_2 rfl fl_X12_103 (by decide) rfl (fun hr2 => ?_)
  refine s_iconst 6 dX12_bad_5 rfl ?_
  refine s_icmp_ne 9 16 dX12_bad_6 rfl rfl (fun g => ?_) (fun g => ?_)
  · refine s_aload_n 17 dX12_bad_16 rfl rfl ?_
    refine m_getI 20 5 dX12_bad_17 rfl fl_X12_103 (by decide) rfl (fun hr17 => ?_)
    refine m_putI 23 5 dX12_bad_20 rfl fl_X12_103 (by decide) rfl rfl rfl rfl ?_
    refine s_return rfl dX12_bad_23 ?_
    rw [if_neg (by omega)] at hp
    exact hp
  · refine s_aload_n 10 dX12_bad_9 rfl rfl ?_
    refine m_getI 13 4 dX12_bad_10 rfl fl_X12_81 (by decide) rfl (fun hr10 => ?_)
    refine s_goto 20 dX12_bad_13 rfl ?_
    refine m_putI 23 5 dX12_bad_20 rfl fl_X12_103 (by decide) rfl rfl rfl rfl ?_
    refine s_return rfl dX12_bad_23 ?_
    rw [if_pos (by omega)] at hp
    exact hp
theorem nmF_min {l : List Int} (h : ∀ x ∈ l, 48 ≤ x ∧ x ≤ 57) : (if 2 < l.length then 1000 else l.foldl (fun n x => min 1000 (10 * n + x - 48)) 0) = nmF l := by
  unfold nmF
  split
  · rfl
  · rename_i h2
    match l, h, h2 with
    | [], _, _ => rfl
    | [a], h, _ =>
      have := h a (by simp)
      show min 1000 (10 * 0 + a - 48) = 10 * 0 + a - 48
      omega
    | [a, b], h, _ =>
      have := h a (by simp)
      have := h b (by simp)
      show min 1000 (10 * (min 1000 (10 * 0 + a - 48)) + b - 48) = 10 * (10 * 0 + a - 48) + b - 48
      omega
    | a :: b :: c :: l, _, h2 => exact absurd (show 2 < (a :: b :: c :: l).length by simp) h2
theorem minf_rg (l : List Int) (hd : ∀ x ∈ l, 48 ≤ x ∧ x ≤ 57) : 0 ≤ l.foldl (fun n x => min 1000 (10 * n + x - 48)) 0 ∧ l.foldl (fun n x => min 1000 (10 * n + x - 48)) 0 ≤ 1000 := by
  have key : ∀ (l : List Int) (z : Int), (∀ x ∈ l, 48 ≤ x ∧ x ≤ 57) → 0 ≤ z ∧ z ≤ 1000 → 0 ≤ l.foldl (fun n x => min 1000 (10 * n + x - 48)) z ∧ l.foldl (fun n x => min 1000 (10 * n + x - 48)) z ≤ 1000 := by
    intro l
    induction l with
    | nil => intro z _ hz; exact hz
    | cons a l ih =>
      intro z hl hz
      have := hl a List.mem_cons_self
      exact ih _ (fun x hx => hl x (List.mem_cons_of_mem _ hx)) (by show 0 ≤ min 1000 (10 * z + a - 48) ∧ min 1000 (10 * z + a - 48) ≤ 1000; omega)
  exact key l 0 hd (by omega)
theorem mem_slice {l : List Int} {x : Int} {q k : Nat} (h : x ∈ (l.drop q).take k) : ∃ j, q ≤ j ∧ j < q + k ∧ x = l.getD j 0 := by
  obtain ⟨i, hi, e⟩ := List.getElem_of_mem h
  rw [List.length_take, List.length_drop] at hi
  refine ⟨q + i, by omega, by omega, ?_⟩
  rw [← e, List.getElem_take, List.getElem_drop, List.getD_eq_getElem?_getD, List.getElem?_eq_getElem (by omega)]
  rfl
theorem c_next {tp : List Int} {p : Nat} (h2 : I 2 = tp.length) (h3 : I 3 = p) (ht : sg (A 1) 0 tp) (hl : tp.length ≤ 300) (hb : byt tp) (hpl : p ≤ tp.length) (hp : ∀ I', frI [3, 4, 6, 7] I I' → I' 4 = pB tp p → I' 6 = pK tp (pB tp p) → I' 3 = pE tp (pB tp p) → (pK tp (pB tp p) = 2 → I' 7 = nmF (pT tp (pB tp p))) → post none (I', A, D)) : Cm G (AM G m0 F n u) yX12_next cX12_next 1 none (d + 1) [.ref m0] (I, A, D) post := by
  refine Cm_intro (L := [some (.ref m0)]) (by decide +kernel) (Nat.le_of_ble_eq_true rfl) rfl ?_
  have hq := pB_le hpl
  have hev : ∀ k, rg (if k < tp.length then tp.getD k 0 else -1) := fun k => by
    have := byt_at hb k
    split <;> (constructor <;> omega)
  have l0 : ∀ (m k : Nat) (I1 : Nat → Int), frI [3] I I1 → I1 3 = k → k ≤ tp.length → tp.length - k = m → k + rnF sp_ tp k = pB tp p → V G (AM G m0 F n u) yX12_next cX12_next 1 none (d + 1) (I1, A, D) 0 [some (.ref m0)] [] post := by
    have hJ : ∀ I1, frI [3] I I1 → I1 3 = pB tp p → (pB tp p < tp.length → tp.getD (pB tp p) 0 ≠ 32) → V G (AM G m0 F n u) yX12_next cX12_next 1 none (d + 1) (I1, A, D) 22 [some (.ref m0)] [] post := by
      intro I1 f1 f2 f3
      generalize pB tp p = q at *
      have e2 : I1 2 = tp.length := (f1 2 (by decide)).trans h2
      refine s_aload_n 23 dX12_next_22 rfl rfl ?_
      refine s_aload_n 24 dX12_next_23 rfl rfl ?_
      refine m_getI 27 3 dX12_next_24 rfl fl_X12_74 (by decide) rfl (fun hr24 => ?_)
      refine m_putI 30 4 dX12_next_27 rfl fl_X12_81 (by decide) rfl rfl rfl rfl ?_
      refine s_aload_n 31 dX12_next_30 rfl rfl ?_
      refine s_V0i 34 dX12_next_31 rfl km_X12_here ml_X12_77 ds_X12_here (Nat.le_of_ble_eq_true rfl) m_rec rfl (c_here (I := up I1 4 (I1 3)) (by rw [up_n (by decide)]; exact e2) (by rw [up_n (by decide)]; exact f2) ht hl ?_)
      refine ⟨_, rfl, ?_⟩
      refine s_iconst 35 dX12_next_34 rfl ?_
      have hv := hev q
      refine s_icmp_ne 38 46 dX12_next_35 rfl rfl (fun g => ?_) (fun g => ?_)
      rotate_left
      · have hk : tp.length ≤ q := by
          rcases Nat.lt_or_ge q tp.length with h | h
          · rw [if_pos h] at g; have := byt_at hb q; omega
          · exact h
        refine s_aload_n 39 dX12_next_38 rfl rfl ?_
        refine s_iconst 40 dX12_next_39 rfl ?_
        refine m_putI 43 6 dX12_next_40 rfl fl_X12_84 (by decide) rfl rfl rfl rfl ?_
        refine s_goto 197 dX12_next_43 rfl ?_
        refine s_return rfl dX12_next_197 ?_
        refine hp _ ?_ ?_ ?_ ?_ ?_
        · exact ((f1.wk (by decide)).up (by decide)).up (by decide)
        · rw [up_n (by decide), up_s, f2]
        · rw [up_s, pK_0 hk]
        · rw [up_n (by decide), up_n (by decide), f2, pE_0 (pK_0 hk)]
        · intro h; rw [pK_0 hk] at h; omega
      have hk : q < tp.length := by
        rcases Nat.lt_or_ge q tp.length with h | h
        · exact h
        · rw [if_neg (by omega)] at g; omega
      have hq9 := byt_at hb q
      refine s_aload_n 47 dX12_next_46 rfl rfl ?_
      refine s_V0i 50 dX12_next_47 rfl km_X12_here ml_X12_77 ds_X12_here (Nat.le_of_ble_eq_true rfl) m_rec rfl (c_here (I := up I1 4 (I1 3)) (by rw [up_n (by decide)]; exact e2) (by rw [up_n (by decide)]; exact f2) ht hl ?_)
      refine ⟨_, rfl, ?_⟩
      refine s_S1b 53 dX12_next_50 rfl km_X12_isSmall rfl ml_X12_87 ds_X12_isSmall (Nat.le_of_ble_eq_true rfl) (c_isSmall hv ?_)
      refine ⟨_, rfl, ?_⟩
      rw [if_pos hk]
      refine s_if_eqb 56 84 dX12_next_53 rfl rfl (fun g2 => ?_) (fun g2 => ?_)
      rotate_left
      · refine s_aload_n 57 dX12_next_56 rfl rfl ?_
        refine s_iconst 58 dX12_next_57 rfl ?_
        refine m_putI 61 6 dX12_next_58 rfl fl_X12_84 (by decide) rfl rfl rfl rfl ?_
        have l1 : ∀ (m k : Nat) (I2 : Nat → Int), frI [3, 4, 6, 7] I I2 → I2 4 = q → I2 6 = 1 → I2 3 = k → k ≤ tp.length → tp.length - k = m → k + rnF sm_ tp k = q + rnF sm_ tp q → V G (AM G m0 F n u) yX12_next cX12_next 1 none (d + 1) (I2, A, D) 61 [some (.ref m0)] [] post := by
          intro m
          induction m with
          | zero =>
            intro k I2 y1 y2 y3 y4 y5 y6 y7
            refine s_aload_n 62 dX12_next_61 rfl rfl ?_
            refine s_V0i 65 dX12_next_62 rfl km_X12_here ml_X12_77 ds_X12_here (Nat.le_of_ble_eq_true rfl) m_rec rfl (c_here ((y1 2 (by decide)).trans h2) y4 ht hl ?_)
            refine ⟨_, rfl, ?_⟩
            refine s_S1b 68 dX12_next_65 rfl km_X12_isSmall rfl ml_X12_87 ds_X12_isSmall (Nat.le_of_ble_eq_true rfl) (c_isSmall (hev k) ?_)
            refine ⟨_, rfl, ?_⟩
            rw [if_neg (show ¬ k < tp.length by omega)]
            refine s_if_eqb 71 197 dX12_next_68 rfl rfl (fun g3 => ?_) (fun g3 => ?_)
            · refine s_return rfl dX12_next_197 ?_
              have hk1 := pK_1 hk g2
              refine hp _ y1 y2 (y3.trans hk1.symm) ?_ (fun h => by rw [hk1] at h; omega)
              rw [y4, pE_1 hk1, ← y7, rnF_end (by omega)]
              rfl
            · exact absurd g3 (by decide)
          | succ m ih =>
            intro k I2 y1 y2 y3 y4 y5 y6 y7
            refine s_aload_n 62 dX12_next_61 rfl rfl ?_
            refine s_V0i 65 dX12_next_62 rfl km_X12_here ml_X12_77 ds_X12_here (Nat.le_of_ble_eq_true rfl) m_rec rfl (c_here ((y1 2 (by decide)).trans h2) y4 ht hl ?_)
            refine ⟨_, rfl, ?_⟩
            refine s_S1b 68 dX12_next_65 rfl km_X12_isSmall rfl ml_X12_87 ds_X12_isSmall (Nat.le_of_ble_eq_true rfl) (c_isSmall (hev k) ?_)
            refine ⟨_, rfl, ?_⟩
            rw [if_pos (show k < tp.length by omega)]
            refine s_if_eqb 71 197 dX12_next_68 rfl rfl (fun g3 => ?_) (fun g3 => ?_)
            · refine s_return rfl dX12_next_197 ?_
              have hk1 := pK_1 hk g2
              refine hp _ y1 y2 (y3.trans hk1.symm) ?_ (fun h => by rw [hk1] at h; omega)
              rw [y4, pE_1 hk1, ← y7, rnF_no (by omega) g3]
              rfl
            · refine s_aload_n 72 dX12_next_71 rfl rfl ?_
              refine s_dup (q := 73) (hd := dX12_next_72) (hq := rfl) (k := ?_)
              refine m_getI 76 3 dX12_next_73 rfl fl_X12_74 (by decide) rfl (fun hr73 => ?_)
              refine s_iconst 77 dX12_next_76 rfl ?_
              refine s_iadd 78 dX12_next_77 rfl ?_
              refine m_putI 81 3 dX12_next_78 rfl fl_X12_74 (by decide) rfl rfl rfl rfl ?_
              refine s_goto 61 dX12_next_81 rfl ?_
              rw [rnF_yes (by omega) g3] at y7
              refine ih (k + 1) _ (y1.up (by decide)) ?_ ?_ ?_ (by omega) (by omega) (by omega)
              · rw [up_n (by decide)]; exact y2
              · rw [up_n (by decide)]; exact y3
              · rw [up_s]; omega
        refine l1 _ q _ (((f1.wk (by decide)).up (by decide)).up (by decide)) ?_ ?_ ?_ (by omega) rfl rfl
        · rw [up_n (by decide), up_s]; exact f2
        · rw [up_s]
        · rw [up_n (by decide), up_n (by decide)]; exact f2
      refine s_aload_n 85 dX12_next_84 rfl rfl ?_
      refine s_V0i 88 dX12_next_85 rfl km_X12_here ml_X12_77 ds_X12_here (Nat.le_of_ble_eq_true rfl) m_rec rfl (c_here (I := up I1 4 (I1 3)) (by rw [up_n (by decide)]; exact e2) (by rw [up_n (by decide)]; exact f2) ht hl ?_)
      refine ⟨_, rfl, ?_⟩
      refine s_S1b 91 dX12_next_88 rfl km_X12_isDigit rfl ml_X12_91 ds_X12_isDigit (Nat.le_of_ble_eq_true rfl) (c_isDigit hv ?_)
      refine ⟨_, rfl, ?_⟩
      rw [if_pos hk]
      refine s_if_eqb 94 182 dX12_next_91 rfl rfl (fun g3 => ?_) (fun g3 => ?_)
      · have e9 : up (up I1 4 (I1 3)) 6 3 3 = q := by rw [up_n (by decide), up_n (by decide)]; exact f2
        refine s_aload_n 183 dX12_next_182 rfl rfl ?_
        refine s_iconst 184 dX12_next_183 rfl ?_
        refine m_putI 187 6 dX12_next_184 rfl fl_X12_84 (by decide) rfl rfl rfl rfl ?_
        refine s_aload_n 188 dX12_next_187 rfl rfl ?_
        refine s_dup (q := 189) (hd := dX12_next_188) (hq := rfl) (k := ?_)
        refine m_getI 192 3 dX12_next_189 rfl fl_X12_74 (by decide) rfl (fun hr189 => ?_)
        refine s_iconst 193 dX12_next_192 rfl ?_
        refine s_iadd 194 dX12_next_193 rfl ?_
        refine m_putI 197 3 dX12_next_194 rfl fl_X12_74 (by decide) rfl rfl rfl rfl ?_
        refine s_return rfl dX12_next_197 ?_
        have hk1 := pK_3 hk g2 g3
        refine hp _ ?_ ?_ ?_ ?_ (fun h => by rw [hk1] at h; omega)
        · exact (((f1.wk (by decide)).up (by decide)).up (by decide)).up (by decide)
        · rw [up_n (by decide), up_n (by decide), up_s]; exact f2
        · rw [up_n (by decide), up_s]; exact hk1.symm
        · rw [up_s, pE_3 hk1, up_n (by decide), up_n (by decide), f2]; omega
      refine s_aload_n 95 dX12_next_94 rfl rfl ?_
      refine s_iconst 96 dX12_next_95 rfl ?_
      refine m_putI 99 6 dX12_next_96 rfl fl_X12_84 (by decide) rfl rfl rfl rfl ?_
      refine s_aload_n 100 dX12_next_99 rfl rfl ?_
      refine s_iconst 101 dX12_next_100 rfl ?_
      refine m_putI 104 7 dX12_next_101 rfl fl_X12_94 (by decide) rfl rfl rfl rfl ?_
      have hk1 := pK_2 hk g2 g3
      have hd9 : ∀ k, q ≤ k → k ≤ q + rnF dg_ tp q → ∀ x ∈ (tp.drop q).take (k - q), 48 ≤ x ∧ x ≤ 57 := fun k hk2 hk3 x hx => by
        obtain ⟨j, j1, j2, rfl⟩ := mem_slice hx
        have := rnF_all (f := dg_) (tp := tp) _ q j rfl j1 (by omega)
        exact of_decide_eq_true this
      have hle := rnF_le (f := dg_) (tp := tp) _ q rfl (by omega)
      have fin : ∀ I2, frI [3, 4, 6, 7] I I2 → I2 4 = q → I2 6 = 2 → I2 3 = (q + rnF dg_ tp q : Nat) → I2 7 = ((tp.drop q).take (rnF dg_ tp q)).foldl (fun n x => min 1000 (10 * n + x - 48)) 0 → V G (AM G m0 F n u) yX12_next cX12_next 1 none (d + 1) (I2, A, D) 152 [some (.ref m0)] [] post := by
        intro I2 y1 y2 y3 y4 y5
        have ev : pT tp q = (tp.drop q).take (rnF dg_ tp q) := by unfold pT; rw [pE_2 hk1, Nat.add_sub_cancel_left]
        have el := pT_len (tp := tp) (q := q) (by omega)
        rw [pE_2 hk1, Nat.add_sub_cancel_left] at el
        have em := nmF_min (l := pT tp q) (by rw [ev]; have := hd9 (q + rnF dg_ tp q) (by omega) (by omega); rwa [Nat.add_sub_cancel_left] at this)
        rw [el, ev] at em
        refine s_aload_n 153 dX12_next_152 rfl rfl ?_
        refine s_aload_n 154 dX12_next_153 rfl rfl ?_
        refine m_getI 157 3 dX12_next_154 rfl fl_X12_74 (by decide) rfl (fun hr154 => ?_)
        refine s_aload_n 158 dX12_next_157 rfl rfl ?_
        refine m_getI 161 4 dX12_next_158 rfl fl_X12_81 (by decide) rfl (fun hr158 => ?_)
        refine s_isub 162 dX12_next_161 rfl ?_
        refine s_iconst 163 dX12_next_162 rfl ?_
        refine s_icmp_le 166 172 dX12_next_163 rfl rfl (fun g4 => ?_) (fun g4 => ?_)
        · refine s_aload_n 173 dX12_next_172 rfl rfl ?_
          refine m_getI 176 7 dX12_next_173 rfl fl_X12_94 (by decide) rfl (fun hr173 => ?_)
          refine m_putI 179 7 dX12_next_176 rfl fl_X12_94 (by decide) rfl rfl rfl rfl ?_
          refine s_goto 197 dX12_next_179 rfl ?_
          refine s_return rfl dX12_next_197 ?_
          rw [if_neg (by omega)] at em
          refine hp _ (y1.up (by decide)) ?_ ?_ ?_ ?_
          · rw [up_n (by decide)]; exact y2
          · rw [up_n (by decide), hk1]; exact y3
          · rw [up_n (by decide), pE_2 hk1]; exact y4
          · intro _; rw [up_s, ev, y5]; exact em
        · refine s_sipush 169 dX12_next_166 rfl (k := ?_)
          refine s_goto 176 dX12_next_169 rfl ?_
          refine m_putI 179 7 dX12_next_176 rfl fl_X12_94 (by decide) rfl rfl rfl rfl ?_
          refine s_goto 197 dX12_next_179 rfl ?_
          refine s_return rfl dX12_next_197 ?_
          rw [if_pos (by omega)] at em
          refine hp _ (y1.up (by decide)) ?_ ?_ ?_ ?_
          · rw [up_n (by decide)]; exact y2
          · rw [up_n (by decide), hk1]; exact y3
          · rw [up_n (by decide), pE_2 hk1]; exact y4
          · intro _; rw [up_s, ev]; exact em
      have l2 : ∀ (m k : Nat) (I2 : Nat → Int), frI [3, 4, 6, 7] I I2 → I2 4 = q → I2 6 = 2 → I2 3 = k → q ≤ k → k ≤ tp.length → I2 7 = ((tp.drop q).take (k - q)).foldl (fun n x => min 1000 (10 * n + x - 48)) 0 → tp.length - k = m → k + rnF dg_ tp k = q + rnF dg_ tp q → V G (AM G m0 F n u) yX12_next cX12_next 1 none (d + 1) (I2, A, D) 104 [some (.ref m0)] [] post := by
        intro m
        induction m with
        | zero =>
          intro k I2 y1 y2 y3 y4 y5 y6 y7 y8 y9
          refine s_aload_n 105 dX12_next_104 rfl rfl ?_
          refine s_V0i 108 dX12_next_105 rfl km_X12_here ml_X12_77 ds_X12_here (Nat.le_of_ble_eq_true rfl) m_rec rfl (c_here ((y1 2 (by decide)).trans h2) y4 ht hl ?_)
          refine ⟨_, rfl, ?_⟩
          refine s_S1b 111 dX12_next_108 rfl km_X12_isDigit rfl ml_X12_91 ds_X12_isDigit (Nat.le_of_ble_eq_true rfl) (c_isDigit (hev k) ?_)
          refine ⟨_, rfl, ?_⟩
          rw [if_neg (show ¬ k < tp.length by omega)]
          refine s_if_eqb 114 152 dX12_next_111 rfl rfl (fun g4 => ?_) (fun g4 => ?_)
          · rw [rnF_end (by omega)] at y9
            refine fin I2 y1 y2 y3 (by omega) ?_
            rw [y7, show k - q = rnF dg_ tp q by omega]
          · exact absurd g4 (by decide)
        | succ m ih =>
          intro k I2 y1 y2 y3 y4 y5 y6 y7 y8 y9
          refine s_aload_n 105 dX12_next_104 rfl rfl ?_
          refine s_V0i 108 dX12_next_105 rfl km_X12_here ml_X12_77 ds_X12_here (Nat.le_of_ble_eq_true rfl) m_rec rfl (c_here ((y1 2 (by decide)).trans h2) y4 ht hl ?_)
          refine ⟨_, rfl, ?_⟩
          refine s_S1b 111 dX12_next_108 rfl km_X12_isDigit rfl ml_X12_91 ds_X12_isDigit (Nat.le_of_ble_eq_true rfl) (c_isDigit (hev k) ?_)
          refine ⟨_, rfl, ?_⟩
          rw [if_pos (show k < tp.length by omega)]
          refine s_if_eqb 114 152 dX12_next_111 rfl rfl (fun g4 => ?_) (fun g4 => ?_)
          · rw [rnF_no (by omega) g4] at y9
            refine fin I2 y1 y2 y3 (by omega) ?_
            rw [y7, show k - q = rnF dg_ tp q by omega]
          · rw [rnF_yes (by omega) g4] at y9
            have hm := minf_rg _ (hd9 k y5 (by omega))
            rw [← y7] at hm
            have hby := byt_at hb k
            refine s_aload_n 115 dX12_next_114 rfl rfl ?_
            refine s_sipush 118 dX12_next_115 rfl (k := ?_)
            refine s_bipush 120 dX12_next_118 rfl (k := ?_)
            refine s_aload_n 121 dX12_next_120 rfl rfl ?_
            refine m_getI 124 7 dX12_next_121 rfl fl_X12_94 (by decide) rfl (fun hr121 => ?_)
            refine s_imul 125 dX12_next_124 rfl ?_
            refine s_aload_n 126 dX12_next_125 rfl rfl ?_
            refine s_V0i 129 dX12_next_126 rfl km_X12_here ml_X12_77 ds_X12_here (Nat.le_of_ble_eq_true rfl) m_rec rfl (c_here ((y1 2 (by decide)).trans h2) y4 ht hl ?_)
            refine ⟨_, rfl, ?_⟩
            rw [if_pos (show k < tp.length by omega)]
            have e9 : up I2 7 (min 1000 (10 * I2 7 + tp.getD k 0 - 48)) 3 = k := by rw [up_n (by decide)]; exact y4
            refine s_iadd 130 dX12_next_129 rfl ?_
            refine s_bipush 132 dX12_next_130 rfl (k := ?_)
            refine s_isub 133 dX12_next_132 rfl ?_
            refine s_min (q := 136) (hd := dX12_next_133) (hq := rfl) (hw := ml_X12_97) (hrest := Nat.le_of_ble_eq_true rfl) (k := ?_)
            refine m_putI 139 7 dX12_next_136 rfl fl_X12_94 (by decide) rfl rfl rfl rfl ?_
            refine s_aload_n 140 dX12_next_139 rfl rfl ?_
            refine s_dup (q := 141) (hd := dX12_next_140) (hq := rfl) (k := ?_)
            refine m_getI 144 3 dX12_next_141 rfl fl_X12_74 (by decide) rfl (fun hr141 => ?_)
            refine s_iconst 145 dX12_next_144 rfl ?_
            refine s_iadd 146 dX12_next_145 rfl ?_
            refine m_putI 149 3 dX12_next_146 rfl fl_X12_74 (by decide) rfl rfl rfl rfl ?_
            refine s_goto 104 dX12_next_149 rfl ?_
            refine ih (k + 1) _ ((y1.up (by decide)).up (by decide)) ?_ ?_ ?_ (by omega) (by omega) ?_ (by omega) (by omega)
            · rw [up_n (by decide), up_n (by decide)]; exact y2
            · rw [up_n (by decide), up_n (by decide)]; exact y3
            · rw [up_s, up_n (by decide)]; omega
            · rw [up_n (by decide), up_s, y7]
              have e1 : (tp.drop q).take (k + 1 - q) = (tp.drop q).take (k - q) ++ [tp.getD k 0] := by
                have := take_snoc (bs := tp) (p := q) (r := k - q) (by omega)
                rw [show k + 1 - q = k - q + 1 by omega, this, show q + (k - q) = k by omega]
              rw [e1, List.foldl_append]
              rfl
      refine l2 _ q _ ((((f1.wk (by decide)).up (by decide)).up (by decide)).up (by decide)) ?_ ?_ ?_ (by omega) (by omega) ?_ rfl rfl
      · rw [up_n (by decide), up_n (by decide), up_s]; exact f2
      · rw [up_n (by decide), up_s]
      · rw [up_n (by decide), up_n (by decide), up_n (by decide)]; exact f2
      · rw [up_s, Nat.sub_self]; rfl
    intro m
    induction m with
    | zero =>
      intro k I1 y1 y2 y3 y4 y5
      rw [rnF_end (by omega)] at y5
      refine s_aload_n 1 dX12_next_0 rfl rfl ?_
      refine s_V0i 4 dX12_next_1 rfl km_X12_here ml_X12_77 ds_X12_here (Nat.le_of_ble_eq_true rfl) m_rec rfl (c_here ((y1 2 (by decide)).trans h2) y2 ht hl ?_)
      refine ⟨_, rfl, ?_⟩
      refine s_bipush 6 dX12_next_4 rfl (k := ?_)
      rw [if_neg (show ¬ k < tp.length by omega)]
      refine s_icmp_ne 9 22 dX12_next_6 rfl rfl (fun g => ?_) (fun g => ?_)
      · exact hJ I1 y1 (by omega) (fun h => by omega)
      · omega
    | succ m ih =>
      intro k I1 y1 y2 y3 y4 y5
      have hby := byt_at hb k
      refine s_aload_n 1 dX12_next_0 rfl rfl ?_
      refine s_V0i 4 dX12_next_1 rfl km_X12_here ml_X12_77 ds_X12_here (Nat.le_of_ble_eq_true rfl) m_rec rfl (c_here ((y1 2 (by decide)).trans h2) y2 ht hl ?_)
      refine ⟨_, rfl, ?_⟩
      refine s_bipush 6 dX12_next_4 rfl (k := ?_)
      rw [if_pos (show k < tp.length by omega)]
      refine s_icmp_ne 9 22 dX12_next_6 rfl rfl (fun g => ?_) (fun g => ?_)
      · have hn : sp_ (tp.getD k 0) = false := decide_eq_false (by omega)
        rw [rnF_no (by omega) hn] at y5
        exact hJ I1 y1 (by omega) (fun h => by rw [← y5, Nat.add_zero]; omega)
      · have hn : sp_ (tp.getD k 0) = true := decide_eq_true (by omega)
        rw [rnF_yes (by omega) hn] at y5
        refine s_aload_n 10 dX12_next_9 rfl rfl ?_
        refine s_dup (q := 11) (hd := dX12_next_10) (hq := rfl) (k := ?_)
        refine m_getI 14 3 dX12_next_11 rfl fl_X12_74 (by decide) rfl (fun hr11 => ?_)
        refine s_iconst 15 dX12_next_14 rfl ?_
        refine s_iadd 16 dX12_next_15 rfl ?_
        refine m_putI 19 3 dX12_next_16 rfl fl_X12_74 (by decide) rfl rfl rfl rfl ?_
        refine s_goto 0 dX12_next_19 rfl ?_
        exact ih (k + 1) _ (y1.up (by decide)) (by rw [up_s]; omega) (by omega) (by omega) (by omega)
  exact l0 _ p I frI.rf h3 hpl rfl rfl
end M17
