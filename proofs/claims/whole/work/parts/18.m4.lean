section M4
variable {G : GT} {m0 n u : Nat} {F : HS} {d : Nat} {I : Nat → Int} {A : Nat → Int → Int} {D : Int64} {post : Option Value → MT → Prop}
theorem sg_slice {f : Int → Int} {bs : List Int} (h : sg f 0 bs) {k : Nat} (hk : k < bs.length) : f (k : Int) = bs.getD k 0 := by rw [← h k hk]; congr 1; omega
theorem take_snoc {bs : List Int} {p r : Nat} (h : p + r < bs.length) : (bs.drop p).take (r + 1) = (bs.drop p).take r ++ [bs.getD (p + r) 0] := by
  rw [List.take_add_one]
  congr 1
  rw [List.getElem?_drop, List.getD_eq_getElem?_getD, List.getElem?_eq_getElem h]
  rfl
theorem len_take_drop {bs : List Int} {p r : Nat} (h : p + r ≤ bs.length) : ((bs.drop p).take r).length = r := List.length_take_of_le (by rw [List.length_drop]; omega)
theorem c_copies {p k : Nat} {bs out : List Int} (hbs : sg (A 6) 0 bs) (hN : bs.length ≤ 1300) (hpk : p + k ≤ bs.length) (h26 : I 26 = out.length) (ho : sg (A 5) 0 out) (hc : out.length + k ≤ 1400) (hp : ∀ I' A', frI [26] I I' → frA [5] A A' → (0 ≤ I' 26 ∧ I' 26 ≤ out.length + k) → (fz bs p k = -1 → I' 26 = out.length + k ∧ sg (A' 5) 0 (out ++ (bs.drop p).take k)) → post (some (vi (fz bs p k))) (I', A', D)) : Cm G (AM G m0 F n u) yX12_copies cX12_copies 4 (some .int) (d + 1) [.ref m0, vi p, vi k] (I, A, D) post := by
  refine Cm_intro (L := [some (.ref m0), some (vi p), some (vi k), none]) (by decide +kernel) (Nat.le_of_ble_eq_true rfl) rfl ?_
  refine s_iconst 1 dX12_copies_0 rfl ?_
  refine s_istore_n 2 dX12_copies_1 rfl (Nat.le_of_ble_eq_true rfl) rfl ?_
  have key : ∀ (j r : Nat) (I' : Nat → Int) (A' : Nat → Int → Int), r + j = k → fz bs p k = fz bs (p + r) j → frI [26] I I' → I' 26 = out.length + r → frA [5] A A' → sg (A' 5) 0 (out ++ (bs.drop p).take r) → V G (AM G m0 F n u) yX12_copies cX12_copies 4 (some .int) (d + 1) (I', A', D) 2 [some (.ref m0), some (vi p), some (vi k), some (vi r)] [] post := by
    intro j
    induction j with
    | zero =>
      intro r I' A' hk he f1 f2 f3 f4
      refine s_iload_n 3 dX12_copies_2 rfl rfl ?_
      refine s_iload_n 4 dX12_copies_3 rfl rfl ?_
      refine s_icmp_ge 7 40 dX12_copies_4 rfl rfl (fun h => ?_) (fun h => ?_)
      · refine s_iconst 41 dX12_copies_40 rfl ?_
        refine s_ireturn rfl dX12_copies_41 ?_
        obtain rfl : r = k := by omega
        rw [fz_0] at he
        have h9 := hp I' A' f1 f3 (by omega) (fun _ => ⟨f2, f4⟩)
        rw [he] at h9
        exact h9
      · omega
    | succ j ih =>
      intro r I' A' hk he f1 f2 f3 f4
      have e6 : A' 6 = A 6 := f3 6 (by decide)
      have ev : A' 6 ((p : Int) + (r : Int)) = bs.getD (p + r) 0 := by rw [e6, ← sg_slice hbs (k := p + r) (by omega)]; congr 1
      refine s_iload_n 3 dX12_copies_2 rfl rfl ?_
      refine s_iload_n 4 dX12_copies_3 rfl rfl ?_
      refine s_icmp_ge 7 40 dX12_copies_4 rfl rfl (fun h => ?_) (fun h => ?_)
      · omega
      refine s_aload_n 8 dX12_copies_7 rfl rfl ?_
      refine m_getV (k := 27) 11 dX12_copies_8 rfl fl_X12_32 (by decide) rfl ?_
      refine s_iload_n 12 dX12_copies_11 rfl rfl ?_
      refine s_iload_n 13 dX12_copies_12 rfl rfl ?_
      refine s_iadd 14 dX12_copies_13 rfl ?_
      refine m_ald 15 6 1400 dX12_copies_14 rfl (by decide) rfl (fun hr14 => ?_)
      refine s_if_ne 18 22 dX12_copies_15 rfl rfl (fun h2 => ?_) (fun h2 => ?_)
      · have g : ¬ bs.getD (p + r) 0 = 0 := by omega
        refine s_aload_n 23 dX12_copies_22 rfl rfl ?_
        refine s_aload_n 24 dX12_copies_23 rfl rfl ?_
        refine m_getV (k := 27) 27 dX12_copies_24 rfl fl_X12_32 (by decide) rfl ?_
        refine s_iload_n 28 dX12_copies_27 rfl rfl ?_
        refine s_iload_n 29 dX12_copies_28 rfl rfl ?_
        refine s_iadd 30 dX12_copies_29 rfl ?_
        refine m_ald 31 6 1400 dX12_copies_30 rfl (by decide) rfl (fun hr30 => ?_)
        refine s_V1v 34 dX12_copies_31 rfl km_X12_plainly ml_X12_236 ds_X12_plainly (Nat.le_of_ble_eq_true rfl) m_rec rfl (c_plainly (by omega) hr30 ?_)
        refine ⟨rfl, ?_⟩
        refine s_iinc 37 dX12_copies_34 rfl rfl (Nat.le_of_ble_eq_true rfl) rfl ?_
        refine s_goto 2 dX12_copies_37 rfl ?_
        rw [fz_s g] at he
        refine ih (r + 1) _ _ (by omega) (by rw [he]; congr 1) (f1.up (by decide)) (by rw [up_s, f2]; omega) (f3.up (by decide)) ?_
        rw [up_s, take_snoc (by omega), ← List.append_assoc, ev]
        exact sg_snoc' f4 (by rw [List.length_append, len_take_drop (by omega), f2]; omega)
      · refine s_iload_n 19 dX12_copies_18 rfl rfl ?_
        refine s_iload_n 20 dX12_copies_19 rfl rfl ?_
        refine s_iadd 21 dX12_copies_20 rfl ?_
        refine s_ireturn rfl dX12_copies_21 ?_
        rw [fz_z (by omega)] at he
        have h9 := hp I' A' f1 f3 (by omega) (fun g => by omega)
        rw [he] at h9
        exact h9
  exact key k 0 I A (by omega) rfl frI.rf (by omega) frA.rf (by simpa using ho)
theorem c_isCode {c way : Int} {Ln Zn : Nat} (hc : rg c) (hw : rg way) (hL : I 19 = Ln) (hZ : I 20 = Zn) (hL1 : Ln ≤ 60) (hZ1 : Zn ≤ 60) (hp : post (some (vb (decide (isC Ln Zn way c)))) (I, A, D)) : Cm G (AM G m0 F n u) yX12_isCode cX12_isCode 3 (some .boolean) d [.ref m0, vi c, vi way] (I, A, D) post := by
  refine Cm_intro (L := [some (.ref m0), some (vi c), some (vi way)]) (by decide +kernel) (Nat.le_of_ble_eq_true rfl) rfl ?_
  have yes : isC Ln Zn way c → V G (AM G m0 F n u) yX12_isCode cX12_isCode 3 (some .boolean) d (I, A, D) 38 [some (.ref m0), some (vi c), some (vi way)] [] post := by
    intro h
    refine s_iconst 39 dX12_isCode_38 rfl ?_
    refine s_goto 43 dX12_isCode_39 rfl ?_
    first | refine s_zreturn rfl dX12_isCode_43 ?_ | refine s_zreturn1 rfl dX12_isCode_43 ?_ | refine s_zreturn0 rfl dX12_isCode_43 ?_
    rw [decide_eq_true h] at hp
    exact hp
  have no : ¬ isC Ln Zn way c → V G (AM G m0 F n u) yX12_isCode cX12_isCode 3 (some .boolean) d (I, A, D) 42 [some (.ref m0), some (vi c), some (vi way)] [] post := by
    intro h
    refine s_iconst 43 dX12_isCode_42 rfl ?_
    first | refine s_zreturn rfl dX12_isCode_43 ?_ | refine s_zreturn1 rfl dX12_isCode_43 ?_ | refine s_zreturn0 rfl dX12_isCode_43 ?_
    rw [decide_eq_false h] at hp
    exact hp
  have two : ¬ (0 < c ∧ c ≤ Ln + 1) → V G (AM G m0 F n u) yX12_isCode cX12_isCode 3 (some .boolean) d (I, A, D) 14 [some (.ref m0), some (vi c), some (vi way)] [] post := by
    intro h
    refine s_iload_n 15 dX12_isCode_14 rfl rfl ?_
    refine s_iconst 16 dX12_isCode_15 rfl ?_
    refine s_icmp_ne 19 42 dX12_isCode_16 rfl rfl (fun h2 => ?_) (fun h2 => ?_)
    · exact no (fun g => by omega)
    refine s_iload_n 20 dX12_isCode_19 rfl rfl ?_
    refine s_if_le 23 42 dX12_isCode_20 rfl rfl (fun h3 => ?_) (fun h3 => ?_)
    · exact no (fun g => by omega)
    refine s_iload_n 24 dX12_isCode_23 rfl rfl ?_
    refine s_aload_n 25 dX12_isCode_24 rfl rfl ?_
    refine m_getI 28 19 dX12_isCode_25 rfl fl_X12_19 (by decide) rfl (fun hr25 => ?_)
    refine s_iconst 29 dX12_isCode_28 rfl ?_
    refine s_iadd 30 dX12_isCode_29 rfl ?_
    refine s_aload_n 31 dX12_isCode_30 rfl rfl ?_
    refine m_getI 34 20 dX12_isCode_31 rfl fl_X12_23 (by decide) rfl (fun hr31 => ?_)
    refine s_iadd 35 dX12_isCode_34 rfl ?_
    refine s_icmp_gt 38 42 dX12_isCode_35 rfl rfl (fun h4 => ?_) (fun h4 => ?_)
    · exact no (fun g => by omega)
    · exact yes (by omega)
  refine s_iload_n 1 dX12_isCode_0 rfl rfl ?_
  refine s_if_le 4 14 dX12_isCode_1 rfl rfl (fun h => ?_) (fun h => ?_)
  · exact two (by omega)
  refine s_iload_n 5 dX12_isCode_4 rfl rfl ?_
  refine s_aload_n 6 dX12_isCode_5 rfl rfl ?_
  refine m_getI 9 19 dX12_isCode_6 rfl fl_X12_19 (by decide) rfl (fun hr6 => ?_)
  refine s_iconst 10 dX12_isCode_9 rfl ?_
  refine s_iadd 11 dX12_isCode_10 rfl ?_
  refine s_icmp_le 14 38 dX12_isCode_11 rfl rfl (fun h2 => ?_) (fun h2 => ?_)
  · exact yes (by omega)
  · exact two (by omega)
theorem c_unstuffs {way : Int} {Ln Zn : Nat} {bs : List Int} (hw : 0 ≤ way ∧ way ≤ 2) (hbs : sg (A 6) 0 bs) (hby : byt bs) (h28 : I 28 = bs.length) (hN : bs.length ≤ 600) (hL : I 19 = Ln) (hZ : I 20 = Zn) (hL1 : Ln ≤ 60) (hZ1 : Zn ≤ 60) (hp : ∀ I' A', frI [26] I I' → frA [5] A A' → ((unF Ln Zn way bs).1 = -1 → I' 26 = (unF Ln Zn way bs).2.length ∧ sg (A' 5) 0 (unF Ln Zn way bs).2) → post (some (vi (unF Ln Zn way bs).1)) (I', A', D)) : Cm G (AM G m0 F n u) yX12_unstuffs cX12_unstuffs 7 (some .int) (d + 2) [.ref m0, vi way] (I, A, D) post := by
  refine Cm_intro (L := [some (.ref m0), some (vi way), none, none, none, none, none]) (by decide +kernel) (Nat.le_of_ble_eq_true rfl) rfl ?_
  refine s_aload_n 1 dX12_unstuffs_0 rfl rfl ?_
  refine s_iconst 2 dX12_unstuffs_1 rfl ?_
  refine m_putI 5 26 dX12_unstuffs_2 rfl fl_X12_217 (by decide) rfl rfl rfl rfl ?_
  refine s_aload_n 6 dX12_unstuffs_5 rfl rfl ?_
  refine m_getI 9 28 dX12_unstuffs_6 rfl fl_X12_214 (by decide) rfl (fun hr6 => ?_)
  have e28 : up I 26 0 28 = bs.length := h28
  refine s_if_ne 12 14 dX12_unstuffs_9 rfl rfl (fun h => ?_) (fun h => ?_)
  rotate_left
  · refine s_iconst 13 dX12_unstuffs_12 rfl ?_
    refine s_ireturn rfl dX12_unstuffs_13 ?_
    have h0 : bs.length = 0 := by omega
    rw [show unF Ln Zn way bs = (0, []) from if_pos h0] at hp
    exact hp _ _ (frI.rf.up (by decide)) frA.rf (fun g => by omega)
  rw [show unF Ln Zn way bs = unl Ln Zn way bs (bs.length + 1) [] 0 from if_neg (by omega)] at hp
  generalize ho : unl Ln Zn way bs (bs.length + 1) [] 0 = o at hp
  refine s_iconst 15 dX12_unstuffs_14 rfl ?_
  refine s_istore_n 16 dX12_unstuffs_15 rfl (Nat.le_of_ble_eq_true rfl) rfl ?_
  have key : ∀ (f : Nat) (out : List Int) (p : Nat) (I' : Nat → Int) (A' : Nat → Int → Int), unl Ln Zn way bs f out p = o → bs.length < p + f → p ≤ bs.length → out.length ≤ 2 * p → frI [26] I I' → I' 26 = out.length → frA [5] A A' → sg (A' 5) 0 out → V G (AM G m0 F n u) yX12_unstuffs cX12_unstuffs 7 (some .int) (d + 2) (I', A', D) 16 [some (.ref m0), some (vi way), some (vi p), none, none, none, none] [] post := by
    intro f
    induction f with
    | zero => intro out p I' A' hs h1 h2; omega
    | succ f ih =>
      intro out p I' A' hs h1 h2 h3 f1 f2 f3 f4
      have e28 : I' 28 = bs.length := (f1 28 (by decide)).trans h28
      have e19 : I' 19 = Ln := (f1 19 (by decide)).trans hL
      have e20 : I' 20 = Zn := (f1 20 (by decide)).trans hZ
      have e6 : sg (A' 6) 0 bs := by rw [f3 6 (by decide)]; exact hbs
      refine s_iload_n 17 dX12_unstuffs_16 rfl rfl ?_
      refine s_aload_n 18 dX12_unstuffs_17 rfl rfl ?_
      refine m_getI 21 28 dX12_unstuffs_18 rfl fl_X12_214 (by decide) rfl (fun hr18 => ?_)
      refine s_icmp_ge 24 195 dX12_unstuffs_21 rfl rfl (fun g1 => ?_) (fun g1 => ?_)
      · rw [unl_end (by omega)] at hs
        subst hs
        refine s_iconst 196 dX12_unstuffs_195 rfl ?_
        refine s_ireturn rfl dX12_unstuffs_196 ?_
        exact hp I' A' f1 f3 (fun _ => ⟨f2, f4⟩)
      have hlt : p < bs.length := by omega
      have hb9 := byt_at hby p
      refine s_aload_n 25 dX12_unstuffs_24 rfl rfl ?_
      refine m_getV (k := 27) 28 dX12_unstuffs_25 rfl fl_X12_32 (by decide) rfl ?_
      refine s_iload_n 29 dX12_unstuffs_28 rfl rfl ?_
      refine m_ald 30 6 1400 dX12_unstuffs_29 rfl (by decide) rfl (fun hr29 => ?_)
      rw [sg_slice e6 hlt]
      generalize hc : bs.getD p 0 = c at hb9 ⊢
      refine s_istore_n 31 dX12_unstuffs_30 rfl (Nat.le_of_ble_eq_true rfl) rfl ?_
      refine s_aload_n 32 dX12_unstuffs_31 rfl rfl ?_
      refine m_getI 35 28 dX12_unstuffs_32 rfl fl_X12_214 (by decide) rfl (fun hr32 => ?_)
      refine s_iload_n 36 dX12_unstuffs_35 rfl rfl ?_
      refine s_isub 37 dX12_unstuffs_36 rfl ?_
      refine s_iconst 38 dX12_unstuffs_37 rfl ?_
      refine s_isub 39 dX12_unstuffs_38 rfl ?_
      refine s_istore 41 dX12_unstuffs_39 rfl (Nat.le_of_ble_eq_true rfl) rfl ?_
      rw [show I' 28 - (p : Int) - 1 = ((bs.length - p - 1 : Nat) : Int) by omega]
      refine s_iload_n 42 dX12_unstuffs_41 rfl rfl ?_
      refine s_iconst 43 dX12_unstuffs_42 rfl ?_
      have body : ¬ (way = 2 ∧ 0 < bs.getD p 0 ∧ ((bs.length - p - 1 : Nat) : Int) < bs.getD p 0 - 1) → V G (AM G m0 F n u) yX12_unstuffs cX12_unstuffs 7 (some .int) (d + 2) (I', A', D) 77 [some (.ref m0), some (vi way), some (vi p), some (vi c), some (vi ((bs.length - p - 1 : Nat) : Int)), none, none] [] post := by
        intro nt
        have rest : ∀ k : Int, ndC Ln c = k → V G (AM G m0 F n u) yX12_unstuffs cX12_unstuffs 7 (some .int) (d + 2) (I', A', D) 101 [some (.ref m0), some (vi way), some (vi p), some (vi c), some (vi ((bs.length - p - 1 : Nat) : Int)), none, none] [vi k] post := by
          intro k hk
          have hk9 : -100 ≤ k ∧ k ≤ 255 := by unfold ndC at hk; split at hk <;> omega
          refine s_istore 103 dX12_unstuffs_101 rfl (Nat.le_of_ble_eq_true rfl) rfl ?_
          refine s_aload_n 104 dX12_unstuffs_103 rfl rfl ?_
          refine s_iload_n 105 dX12_unstuffs_104 rfl rfl ?_
          refine s_iload_n 106 dX12_unstuffs_105 rfl rfl ?_
          refine s_V2b 109 dX12_unstuffs_106 rfl km_X12_isCode ml_X12_242 ds_X12_isCode (Nat.le_of_ble_eq_true rfl) m_rec rfl (c_isCode (by omega) (by omega) e19 e20 hL1 hZ1 ?_)
          refine ⟨_, rfl, ?_⟩
          have bad : ¬ isC Ln Zn way c ∨ ((bs.length - p - 1 : Nat) : Int) < k → V G (AM G m0 F n u) yX12_unstuffs cX12_unstuffs 7 (some .int) (d + 2) (I', A', D) 119 [some (.ref m0), some (vi way), some (vi p), some (vi c), some (vi ((bs.length - p - 1 : Nat) : Int)), some (vi k), none] [] post := by
            intro hb
            rw [unl_bad hlt nt (by rw [hc, hk]; exact hb)] at hs
            subst hs
            refine s_iload_n 120 dX12_unstuffs_119 rfl rfl ?_
            refine s_ireturn rfl dX12_unstuffs_120 ?_
            exact hp I' A' f1 f3 (fun g => by have g : ((p : Nat) : Int) = -1 := g; omega)
          refine s_if_eqb 112 119 dX12_unstuffs_109 rfl rfl (fun g4 => ?_) (fun g4 => ?_)
          · exact bad (Or.inl (of_decide_eq_false g4))
          have g4 := of_decide_eq_true g4
          refine s_iload 114 dX12_unstuffs_112 rfl rfl ?_
          refine s_iload 116 dX12_unstuffs_114 rfl rfl ?_
          refine s_icmp_ge 119 121 dX12_unstuffs_116 rfl rfl (fun g5 => ?_) (fun g5 => ?_)
          rotate_left
          · exact bad (Or.inr (by omega))
          have hk0 : 0 ≤ k := by unfold ndC at hk; split at hk <;> omega
          obtain ⟨j, rfl⟩ := Int.eq_ofNat_of_zero_le hk0
          have hz9 := fz_rg (bs := bs) (n := j) (p := p + 1)
          refine s_aload_n 122 dX12_unstuffs_121 rfl rfl ?_
          refine s_iload_n 123 dX12_unstuffs_122 rfl rfl ?_
          refine s_iconst 124 dX12_unstuffs_123 rfl ?_
          refine s_iadd 125 dX12_unstuffs_124 rfl ?_
          refine s_iload 127 dX12_unstuffs_125 rfl rfl ?_
          refine s_V2i 130 dX12_unstuffs_127 rfl km_X12_copies ml_X12_239 ds_X12_copies (Nat.le_of_ble_eq_true rfl) m_rec rfl (c_copies (p := p + 1) e6 (by omega) (by omega) f2 f4 (by omega) (fun I2 A2 k1 k2 k3 k4 => ?_))
          refine ⟨_, rfl, ?_⟩
          refine s_istore 132 dX12_unstuffs_130 rfl (Nat.le_of_ble_eq_true rfl) rfl ?_
          refine s_iload 134 dX12_unstuffs_132 rfl rfl ?_
          refine s_iconst 135 dX12_unstuffs_134 rfl ?_
          have w1 := f1.trans k1 (fun _ h => h)
          have w3 := f3.trans k2 (fun _ h => h)
          have w28 : I2 28 = bs.length := (w1 28 (by decide)).trans h28
          have w19 : I2 19 = Ln := (w1 19 (by decide)).trans hL
          refine s_icmp_eq 138 141 dX12_unstuffs_135 rfl rfl (fun g6 => ?_) (fun g6 => ?_)
          rotate_left
          · rw [unl_zero hlt nt (by rw [hc]; exact g4) (by rw [hc]; exact hk) (by omega) g6] at hs
            subst hs
            refine s_iload 140 dX12_unstuffs_138 rfl rfl ?_
            refine s_ireturn rfl dX12_unstuffs_140 ?_
            exact hp I2 A2 w1 w3 (fun g => absurd g g6)
          obtain ⟨k4, k5⟩ := k4 g6
          rw [unl_step hlt nt (by rw [hc]; exact g4) (by rw [hc]; exact hk) (by omega) g6, hc] at hs
          have hlen : (out ++ (bs.drop (p + 1)).take j).length = out.length + j := by rw [List.length_append, len_take_drop (by omega)]
          refine s_iload_n 142 dX12_unstuffs_141 rfl rfl ?_
          refine s_iconst 143 dX12_unstuffs_142 rfl ?_
          refine s_iload 145 dX12_unstuffs_143 rfl rfl ?_
          refine s_iadd 146 dX12_unstuffs_145 rfl ?_
          refine s_iadd 147 dX12_unstuffs_146 rfl ?_
          refine s_istore_n 148 dX12_unstuffs_147 rfl (Nat.le_of_ble_eq_true rfl) rfl ?_
          rw [show (p : Int) + (1 + (j : Int)) = ((p + 1 + j : Nat) : Int) by omega]
          refine s_iload_n 149 dX12_unstuffs_148 rfl rfl ?_
          refine s_aload_n 150 dX12_unstuffs_149 rfl rfl ?_
          refine m_getI 153 19 dX12_unstuffs_150 rfl fl_X12_19 (by decide) rfl (fun hr150 => ?_)
          have two : ¬ (c ≤ Ln ∧ p + 1 + j < bs.length) → V G (AM G m0 F n u) yX12_unstuffs cX12_unstuffs 7 (some .int) (d + 2) (I2, A2, D) 172 [some (.ref m0), some (vi way), some (vi (p + 1 + j : Nat)), some (vi c), none, none, none] [] post := by
            intro h9
            refine s_iload_n 173 dX12_unstuffs_172 rfl rfl ?_
            refine s_aload_n 174 dX12_unstuffs_173 rfl rfl ?_
            refine m_getI 177 19 dX12_unstuffs_174 rfl fl_X12_19 (by decide) rfl (fun hr174 => ?_)
            refine s_iconst 178 dX12_unstuffs_177 rfl ?_
            refine s_iadd 179 dX12_unstuffs_178 rfl ?_
            refine s_icmp_le 182 192 dX12_unstuffs_179 rfl rfl (fun g8 => ?_) (fun g8 => ?_)
            · rw [zrC_0 h9 (by omega), List.append_nil] at hs
              refine s_goto 16 dX12_unstuffs_192 rfl ?_
              refine V_kill 3 ?_
              exact ih _ _ _ _ hs (by omega) (by omega) (by omega) w1 (by rw [hlen]; omega) w3 k5
            · rw [zrC_2 (by omega)] at hs
              refine s_aload_n 183 dX12_unstuffs_182 rfl rfl ?_
              refine s_iconst 184 dX12_unstuffs_183 rfl ?_
              refine s_V1v 187 dX12_unstuffs_184 rfl km_X12_plainly ml_X12_236 ds_X12_plainly (Nat.le_of_ble_eq_true rfl) m_rec rfl (c_plainly (by omega) (by omega) ?_)
              refine ⟨rfl, ?_⟩
              refine s_aload_n 188 dX12_unstuffs_187 rfl rfl ?_
              refine s_iconst 189 dX12_unstuffs_188 rfl ?_
              refine s_V1v 192 dX12_unstuffs_189 rfl km_X12_plainly ml_X12_236 ds_X12_plainly (Nat.le_of_ble_eq_true rfl) m_rec rfl (c_plainly (by rw [up_s]; omega) (by omega) ?_)
              refine ⟨rfl, ?_⟩
              refine s_goto 16 dX12_unstuffs_192 rfl ?_
              refine V_kill 3 ?_
              refine ih _ _ _ _ hs (by omega) (by omega) (by rw [List.length_append, hlen]; simp; omega) ((w1.up (by decide)).up (by decide)) (by rw [up_s, up_s, List.length_append, hlen]; simp; omega) ((w3.up (by decide)).up (by decide)) ?_
              rw [up_s, up_s, up_s, show ([0, 0] : List Int) = [0] ++ [0] from rfl, ← List.append_assoc]
              exact sg_snoc' (sg_snoc' k5 (by rw [hlen]; omega)) (by rw [List.length_append, hlen]; simp; omega)
          refine s_icmp_gt 156 172 dX12_unstuffs_153 rfl rfl (fun g7 => ?_) (fun g7 => ?_)
          · refine V_kill 4 (V_kill 5 (V_kill 6 ?_))
            exact two (fun h => by omega)
          refine s_iload_n 157 dX12_unstuffs_156 rfl rfl ?_
          refine s_aload_n 158 dX12_unstuffs_157 rfl rfl ?_
          refine m_getI 161 28 dX12_unstuffs_158 rfl fl_X12_214 (by decide) rfl (fun hr158 => ?_)
          refine s_icmp_ge 164 172 dX12_unstuffs_161 rfl rfl (fun g8 => ?_) (fun g8 => ?_)
          · refine V_kill 4 (V_kill 5 (V_kill 6 ?_))
            exact two (fun h => by omega)
          rw [zrC_1 (by omega)] at hs
          refine s_aload_n 165 dX12_unstuffs_164 rfl rfl ?_
          refine s_iconst 166 dX12_unstuffs_165 rfl ?_
          refine s_V1v 169 dX12_unstuffs_166 rfl km_X12_plainly ml_X12_236 ds_X12_plainly (Nat.le_of_ble_eq_true rfl) m_rec rfl (c_plainly (by omega) (by omega) ?_)
          refine ⟨rfl, ?_⟩
          refine s_goto 192 dX12_unstuffs_169 rfl ?_
          refine s_goto 16 dX12_unstuffs_192 rfl ?_
          refine V_kill 3 (V_kill 4 (V_kill 5 (V_kill 6 ?_)))
          refine ih _ _ _ _ hs (by omega) (by omega) (by rw [List.length_append, hlen]; simp; omega) (w1.up (by decide)) (by rw [up_s, List.length_append, hlen]; simp; omega) (w3.up (by decide)) ?_
          rw [up_s]
          exact sg_snoc' k5 (by rw [hlen]; omega)
        refine s_iload_n 78 dX12_unstuffs_77 rfl rfl ?_
        refine s_aload_n 79 dX12_unstuffs_78 rfl rfl ?_
        refine m_getI 82 19 dX12_unstuffs_79 rfl fl_X12_19 (by decide) rfl (fun hr79 => ?_)
        refine s_iconst 83 dX12_unstuffs_82 rfl ?_
        refine s_iadd 84 dX12_unstuffs_83 rfl ?_
        refine s_icmp_gt 87 93 dX12_unstuffs_84 rfl rfl (fun g3 => ?_) (fun g3 => ?_)
        · refine s_iload_n 94 dX12_unstuffs_93 rfl rfl ?_
          refine s_aload_n 95 dX12_unstuffs_94 rfl rfl ?_
          refine m_getI 98 19 dX12_unstuffs_95 rfl fl_X12_19 (by decide) rfl (fun hr95 => ?_)
          refine s_isub 99 dX12_unstuffs_98 rfl ?_
          refine s_iconst 100 dX12_unstuffs_99 rfl ?_
          refine s_isub 101 dX12_unstuffs_100 rfl ?_
          exact rest _ (by unfold ndC; rw [if_neg (by omega)]; omega)
        · refine s_iload_n 88 dX12_unstuffs_87 rfl rfl ?_
          refine s_iconst 89 dX12_unstuffs_88 rfl ?_
          refine s_isub 90 dX12_unstuffs_89 rfl ?_
          refine s_goto 101 dX12_unstuffs_90 rfl ?_
          exact rest _ (by unfold ndC; rw [if_pos (by omega)])
      refine s_icmp_ne 46 77 dX12_unstuffs_43 rfl rfl (fun g2 => ?_) (fun g2 => ?_)
      · exact body (fun h => by omega)
      refine s_iload_n 47 dX12_unstuffs_46 rfl rfl ?_
      refine s_if_le 50 77 dX12_unstuffs_47 rfl rfl (fun g3 => ?_) (fun g3 => ?_)
      · exact body (fun h => by omega)
      refine s_iload 52 dX12_unstuffs_50 rfl rfl ?_
      refine s_iload_n 53 dX12_unstuffs_52 rfl rfl ?_
      refine s_iconst 54 dX12_unstuffs_53 rfl ?_
      refine s_isub 55 dX12_unstuffs_54 rfl ?_
      refine s_icmp_ge 58 77 dX12_unstuffs_55 rfl rfl (fun g4 => ?_) (fun g4 => ?_)
      · exact body (fun h => by omega)
      rw [unl_tail hlt (by omega), hc] at hs
      have hz9 := fz_rg (bs := bs) (n := bs.length - p - 1) (p := p + 1)
      refine s_aload_n 59 dX12_unstuffs_58 rfl rfl ?_
      refine s_iload_n 60 dX12_unstuffs_59 rfl rfl ?_
      refine s_iconst 61 dX12_unstuffs_60 rfl ?_
      refine s_iadd 62 dX12_unstuffs_61 rfl ?_
      refine s_iload 64 dX12_unstuffs_62 rfl rfl ?_
      refine s_V2i 67 dX12_unstuffs_64 rfl km_X12_copies ml_X12_239 ds_X12_copies (Nat.le_of_ble_eq_true rfl) m_rec rfl (c_copies (p := p + 1) e6 (by omega) (by omega) f2 f4 (by omega) (fun I2 A2 k1 k2 k3 k4 => ?_))
      refine ⟨_, rfl, ?_⟩
      refine s_istore 69 dX12_unstuffs_67 rfl (Nat.le_of_ble_eq_true rfl) rfl ?_
      refine s_aload_n 70 dX12_unstuffs_69 rfl rfl ?_
      refine s_iload_n 71 dX12_unstuffs_70 rfl rfl ?_
      have w1 := f1.trans k1 (fun _ h => h)
      have w3 := f3.trans k2 (fun _ h => h)
      refine s_V1v 74 dX12_unstuffs_71 rfl km_X12_plainly ml_X12_236 ds_X12_plainly (Nat.le_of_ble_eq_true rfl) m_rec rfl (c_plainly (by omega) (by omega) ?_)
      refine ⟨rfl, ?_⟩
      refine s_iload 76 dX12_unstuffs_74 rfl rfl ?_
      refine s_ireturn rfl dX12_unstuffs_76 ?_
      subst hs
      refine hp _ _ (w1.up (by decide)) (w3.up (by decide)) (fun g => ?_)
      obtain ⟨k4, k5⟩ := k4 g
      have e9 : (bs.drop (p + 1)).take (bs.length - p - 1) = bs.drop (p + 1) := List.take_of_length_le (by rw [List.length_drop]; omega)
      rw [e9] at k5
      refine ⟨by rw [up_s, k4, List.length_append, List.length_append, List.length_drop]; simp; omega, ?_⟩
      rw [up_s]
      exact sg_snoc' k5 (by rw [List.length_append, List.length_drop]; omega)
  exact key (bs.length + 1) [] 0 _ _ ho (by omega) (by omega) (by simp) (frI.rf.up (by decide)) (by rw [up_s]; rfl) frA.rf (sg_nil _ _)
end M4
