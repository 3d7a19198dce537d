theorem pcs_rg {tp : List Int} : ∀ (f q : Nat) (x : PS), q ≤ tp.length → -1 ≤ (pcs tp f q x).1 ∧ (pcs tp f q x).1 ≤ tp.length := by
  intro f
  induction f with
  | zero => intro q x h; exact ⟨by show (-1 : Int) ≤ (q : Int); omega, by show (q : Int) ≤ tp.length; omega⟩
  | succ f ih =>
    intro q x h
    have hE := pE_le h
    have hq2 := pB_le hE.2.1
    have hE2 := pE_le hq2.2
    have hq3 := pB_le hE2.2.1
    have hE3 := pE_le hq3.2
    have hq4 := pB_le hE3.2.1
    rw [pcs]
    split
    · exact ⟨by show (-1 : Int) ≤ (q : Int); omega, by show (q : Int) ≤ tp.length; omega⟩
    · split
      · exact ⟨by show (-1 : Int) ≤ ((pB tp (pE tp q) : Nat) : Int); omega, by show ((pB tp (pE tp q) : Nat) : Int) ≤ tp.length; omega⟩
      · split
        · exact ih _ _ hq4.2
        · split
          · exact ⟨Int.le_refl _, by show (-1 : Int) ≤ tp.length; omega⟩
          · exact ⟨by show (-1 : Int) ≤ ((pB tp (pE tp (pB tp (pE tp q))) : Nat) : Int); omega, by show ((pB tp (pE tp (pB tp (pE tp q))) : Nat) : Int) ≤ tp.length; omega⟩
theorem parF_rg (tp : List Int) (h : tp.length ≤ 300) : -1 ≤ (parF tp).1 ∧ (parF tp).1 ≤ 300 := by
  have h1 := pcs_rg (tp := tp) 400 (pB tp 0) (ru0, 0, []) (pB_le (Nat.zero_le _)).2
  unfold parF
  omega
section M40
variable {G : GT} {m0 n u : Nat} {F : HS} {d : Nat} {I : Nat → Int} {A : Nat → Int → Int} {D : Int64} {post : Option Value → MT → Prop} {S : SY} {b : Int}
theorem o_line (hm : RepM I A S) (hw : WfSy b S) (hp : ∀ I' A', RepM I' A' (oLine S).2 → post (some (vi (oLine S).1)) (I', A', D)) : Cm G (AM G m0 F n u) yX12_line cX12_line 2 (some .int) (d + 8) [.ref m0] (I, A, D) post := by
  obtain ⟨tp, bx, hd, rf, il, ru, tl, s, ps, im⟩ := S
  obtain ⟨⟨m1, m2⟩, ⟨m3, m4⟩, -, m5, -⟩ := id hm
  obtain ⟨⟨w1, w2⟩, -⟩ := id hw
  refine Cm_intro (L := [some (.ref m0), none]) (by decide +kernel) (Nat.le_of_ble_eq_true rfl) rfl ?_
  have e2 : up I 0 0 2 = tp.length := by rw [up_n (by decide)]; exact m1
  refine s_aload_n 1 dX12_line_0 rfl rfl ?_
  refine s_iconst 2 dX12_line_1 rfl ?_
  refine m_putI 5 0 dX12_line_2 rfl fl_X12_60 (by decide) rfl rfl rfl rfl ?_
  refine s_aload_n 6 dX12_line_5 rfl rfl ?_
  refine s_V0i 9 dX12_line_6 rfl km_X12_reads ml_X12_182 ds_X12_reads (Nat.le_of_ble_eq_true rfl) m_rec rfl (c_reads e2 m2 w1 w2 (fun I1 A1 f1 f2 f3 => ?_))
  refine ⟨_, rfl, ?_⟩
  have hI1 : frI [0, 3, 4, 5, 6, 7, 8, 9, 10, 11, 12, 13, 14] I I1 := (frI.rf.up (by decide)).trans f1 (by decide)
  have hfr := parF_rg tp w1
  refine s_iconst 10 dX12_line_9 rfl ?_
  refine s_icmp_eq 13 15 dX12_line_10 rfl rfl (fun g => ?_) (fun g => ?_)
  rotate_left
  · rw [show oLine (tp, bx, hd, rf, il, ru, tl, s, ps, im) = (-1, tp, bx, hd, rf, il, ru, tl, s, ps, im) from if_neg g] at hp
    refine s_iconst 14 dX12_line_13 rfl ?_
    refine s_ireturn rfl dX12_line_14 ?_
    exact hp _ _ (hm.scr (hI1.wk (by decide)) (f2.wk (by decide)))
  rw [show oLine (tp, bx, hd, rf, il, ru, tl, s, ps, im) = (((parF tp).2.2.2.length : Int), [], bx, [], rf, 1, ruP (parF tp).2, (fun c => (parF tp).2.2.2.getD c 0), st0 (fun c => (parF tp).2.2.2.getD c 0), [], none) from if_pos g] at hp
  obtain ⟨p1, p2, p3⟩ := f3 g
  generalize (parF tp).2 = x at *
  obtain ⟨q0, q1, q2, q3, q4, q5, q6, q7⟩ := p1
  obtain ⟨v0, v1, v2, v3, v4, v5, v6, v7⟩ := p2
  have key : ∀ I2 : Nat → Int, frI [0, 2, 3, 4, 5, 6, 7, 8, 9, 10, 11, 12, 13, 14, 17, 18, 19, 20, 21, 22, 23] I I2 → I2 2 = 0 → I2 17 = 1 → I2 18 = x.1 0 → I2 19 = x.1 1 → I2 20 = x.1 2 → I2 21 = x.1 3 → I2 22 = x.1 4 → I2 23 = x.2.2.length → V G (AM G m0 F n u) yX12_line cX12_line 2 (some .int) (d + 8) (I2, A1, D) 73 [some (.ref m0), none] [] post := by
    intro I2 jf j2 j17 j18 j19 j20 j21 j22 j23
    refine s_iconst 74 dX12_line_73 rfl ?_
    refine s_istore_n 75 dX12_line_74 rfl (Nat.le_of_ble_eq_true rfl) rfl ?_
    -- the rest, from 104 on
    have rest : ∀ A2 : Nat → Int → Int, frA [3] A1 A2 → (∀ i, 0 ≤ i → i < 9309 → A2 3 i = if i = 803 then -1 else 0) → V G (AM G m0 F n u) yX12_line cX12_line 2 (some .int) (d + 8) (I2, A2, D) 104 [some (.ref m0), none] [] post := by
      intro A2 a1 a2
      refine s_iconst 105 dX12_line_104 rfl ?_
      refine s_istore_n 106 dX12_line_105 rfl (Nat.le_of_ble_eq_true rfl) rfl ?_
      have key2 : ∀ (m k : Nat) (A3 : Nat → Int → Int), k + m = x.2.2.length → frA [3, 4] A1 A3 → (∀ c : Nat, c < k → A3 4 (c : Int) = x.2.2.getD c 0) → (∀ i, 0 ≤ i → i < 1005 → A3 3 i = A2 3 i) → (∀ c : Nat, c < 4 → ∀ i, 0 ≤ i → i < 2076 → atc (A3 3) c i = if i = 0 ∧ c < k then x.2.2.getD c 0 else 0) → V G (AM G m0 F n u) yX12_line cX12_line 2 (some .int) (d + 8) (I2, A3, D) 106 [some (.ref m0), some (vi k)] [] post := by
        intro m
        induction m with
        | zero =>
          intro k A3 hk b1 b2 b3 b4
          refine s_iload_n 107 dX12_line_106 rfl rfl ?_
          refine s_aload_n 108 dX12_line_107 rfl rfl ?_
          refine m_getI 111 23 dX12_line_108 rfl fl_X12_198 (by decide) rfl (fun hr108 => ?_)
          refine s_icmp_ge 114 144 dX12_line_111 rfl rfl (fun g6 => ?_) (fun g6 => ?_)
          rotate_left
          · omega
          refine s_aload_n 145 dX12_line_144 rfl rfl ?_
          refine s_iconst 146 dX12_line_145 rfl ?_
          refine m_putI 149 33 dX12_line_146 rfl fl_X12_205 (by decide) rfl rfl rfl rfl ?_
          refine s_aload_n 150 dX12_line_149 rfl rfl ?_
          refine s_iconst 151 dX12_line_150 rfl ?_
          refine m_putI 154 43 dX12_line_151 rfl fl_X12_208 (by decide) rfl rfl rfl rfl ?_
          refine s_aload_n 155 dX12_line_154 rfl rfl ?_
          refine s_iconst 156 dX12_line_155 rfl ?_
          refine m_putI 159 38 dX12_line_156 rfl fl_X12_211 (by decide) rfl rfl rfl rfl ?_
          refine s_aload_n 160 dX12_line_159 rfl rfl ?_
          refine m_getI 163 23 dX12_line_160 rfl fl_X12_198 (by decide) rfl (fun hr160 => ?_)
          refine s_ireturn rfl dX12_line_163 ?_
          have e23 : up (up (up I2 33 0) 43 0) 38 0 23 = x.2.2.length := j23
          rw [e23]
          have hf : frI [0, 2, 3, 4, 5, 6, 7, 8, 9, 10, 11, 12, 13, 14, 17, 18, 19, 20, 21, 22, 23, 33, 43, 38] I (up (up (up I2 33 0) 43 0) 38 0) := (((jf.wk (by decide)).up (by decide)).up (by decide)).up (by decide)
          have hA : frA [2, 3, 4] A A3 := (f2.wk (by decide)).trans b1 (by decide)
          refine hp _ _ ⟨⟨j2, sg_nil _ _⟩, ⟨(hf 31 (by decide)).trans m3, by rw [hA 7 (by decide)]; exact m4⟩, ⟨rfl, sg_nil _ _⟩, fun k hk => by rw [hA 10 (by decide)]; exact m5 k hk, j17, ⟨j19, j20⟩, ?_, rfl, rfl, fun _ => ⟨⟨j18, j19, j20, j21, j22, j23⟩, fun c hc => ?_, ?_, fun k hk => absurd hk (by simp), fun y hy => by cases hy⟩⟩
          · rw [e23]; omega
          · have hc : c < x.2.2.length := by have hc : c < (((x.2.2.length : Nat) : Int)).toNat := hc; omega
            exact b2 c (by omega)
          · have z3 : ∀ i, 0 ≤ i → i < 1005 → i ≠ 803 → A3 3 i = 0 := fun i h1 h2 h3 => by rw [b3 i h1 h2, a2 i h1 (by omega), if_neg h3]
            refine ⟨z3 0 (by decide) (by decide) (by decide), sg_nil _ _, z3 601 (by decide) (by decide) (by decide), z3 602 (by decide) (by decide) (by decide), sg_nil _ _, by rw [b3 803 (by decide) (by decide), a2 803 (by decide) (by decide)]; rfl, z3 804 (by decide) (by decide) (by decide), fun i hi => absurd hi (by show ¬ i < 0; omega), fun c hc => ?_⟩
            have hc : c < x.2.2.length := by have hc : c < (((x.2.2.length : Nat) : Int)).toNat := hc; omega
            have b4 := b4 c (by omega)
            have z4 : ∀ i, 0 ≤ i → i < 2076 → i ≠ 0 → atc (A3 3) c i = 0 := fun i h1 h2 h3 => by rw [b4 i h1 h2, if_neg (fun h => h3 h.1)]
            refine ⟨⟨?_, z4 1 (by decide) (by decide) (by decide), z4 2 (by decide) (by decide) (by decide), z4 3 (by decide) (by decide) (by decide), z4 4 (by decide) (by decide) (by decide), z4 5 (by decide) (by decide) (by decide), z4 6 (by decide) (by decide) (by decide), z4 7 (by decide) (by decide) (by decide), z4 8 (by decide) (by decide) (by decide), z4 9 (by decide) (by decide) (by decide), z4 10 (by decide) (by decide) (by decide), z4 11 (by decide) (by decide) (by decide)⟩, fun k9 hk9 => absurd hk9 (by show ¬ k9 < 0; omega), sg_nil _ _, fun k9 hk9 => absurd hk9 (by show ¬ k9 < 0; omega)⟩
            rw [b4 0 (by decide) (by decide), if_pos ⟨rfl, by omega⟩]
            rfl
        | succ m ih =>
          intro k A3 hk b1 b2 b3 b4
          have ev : A3 2 (k : Int) = x.2.2.getD k 0 := by rw [b1 2 (by decide)]; exact sg_slice q7 (by omega)
          have hcr := v6 _ (getD_mem (x := 0) (show k < x.2.2.length by omega))
          refine s_iload_n 107 dX12_line_106 rfl rfl ?_
          refine s_aload_n 108 dX12_line_107 rfl rfl ?_
          refine m_getI 111 23 dX12_line_108 rfl fl_X12_198 (by decide) rfl (fun hr108 => ?_)
          refine s_icmp_ge 114 144 dX12_line_111 rfl rfl (fun g6 => ?_) (fun g6 => ?_)
          · omega
          refine s_aload_n 115 dX12_line_114 rfl rfl ?_
          refine m_getV (k := 24) 118 dX12_line_115 rfl fl_X12_26 (by decide) rfl ?_
          refine s_iload_n 119 dX12_line_118 rfl rfl ?_
          refine s_aload_n 120 dX12_line_119 rfl rfl ?_
          refine m_getV (k := 15) 123 dX12_line_120 rfl fl_X12_13 (by decide) rfl ?_
          refine s_iload_n 124 dX12_line_123 rfl rfl ?_
          refine m_ald 125 2 4 dX12_line_124 rfl (by decide) rfl (fun hr124 => ?_)
          rw [ev]
          refine m_ast 126 4 4 dX12_line_125 rfl (by decide) rfl ?_
          refine s_aload_n 127 dX12_line_126 rfl rfl ?_
          refine s_iload_n 128 dX12_line_127 rfl rfl ?_
          refine s_iconst 129 dX12_line_128 rfl ?_
          refine s_aload_n 130 dX12_line_129 rfl rfl ?_
          refine m_getV (k := 24) 133 dX12_line_130 rfl fl_X12_26 (by decide) rfl ?_
          refine s_iload_n 134 dX12_line_133 rfl rfl ?_
          refine m_ald 135 4 4 dX12_line_134 rfl (by decide) rfl (fun hr134 => ?_)
          rw [up_s, up_s]
          refine s_V3v 138 dX12_line_135 rfl km_X12_lay ml_X12_201 ds_X12_lay (Nat.le_of_ble_eq_true rfl) m_rec rfl (c_layP (c := k) (by omega) (by omega) (by constructor <;> omega) (fun A4 y1 y2 y3 => ?_))
          refine ⟨rfl, ?_⟩
          rw [up_n (by decide)] at y2 y3
          refine s_iinc 141 dX12_line_138 rfl rfl (Nat.le_of_ble_eq_true rfl) rfl ?_
          refine s_goto 106 dX12_line_141 rfl ?_
          refine ih (k + 1) A4 (by omega) ((b1.up (by decide)).trans y1 (by decide)) (fun c hc => ?_) (fun i h1 h2 => ?_) (fun c hc i h1 h2 => ?_)
          · rw [y1 4 (by decide), up_s]
            by_cases e : c = k
            · subst e; rw [up_s]
            · rw [up_n (by omega)]; exact b2 c (by omega)
          · rw [y2 i (by omega)]; exact b3 i h1 h2
          · by_cases e : c = k
            · subst e
              rw [y3]
              by_cases e2 : i = 0
              · subst e2; rw [up_s, if_pos ⟨rfl, by omega⟩]
              · rw [up_n e2, b4 c hc i h1 h2, if_neg (fun h => e2 h.1), if_neg (fun h => e2 h.1)]
            · have e3 : atc (A4 3) c i = atc (A3 3) c i := y2 _ (by omega)
              rw [e3, b4 c hc i h1 h2]
              by_cases e4 : i = 0 ∧ c < k
              · rw [if_pos e4, if_pos ⟨e4.1, by omega⟩]
              · rw [if_neg e4, if_neg (fun h => e4 ⟨h.1, by omega⟩)]
      refine key2 x.2.2.length 0 A2 (by omega) (a1.wk (by decide)) (fun c hc => absurd hc (by omega)) (fun i _ _ => rfl) (fun c hc i h1 h2 => ?_)
      rw [if_neg (fun h => by omega)]
      show A2 3 (1005 + 2076 * (c : Int) + i) = 0
      rw [a2 _ (by omega) (by omega), if_neg (by omega)]
    have key1 : ∀ (m k : Nat) (A2 : Nat → Int → Int), k + m = 9309 → frA [3] A1 A2 → (∀ i, 0 ≤ i → i < (k : Int) → A2 3 i = 0) → V G (AM G m0 F n u) yX12_line cX12_line 2 (some .int) (d + 8) (I2, A2, D) 75 [some (.ref m0), some (vi k)] [] post := by
      intro m
      induction m with
      | zero =>
        intro k A2 hk a1 a2
        refine s_iload_n 76 dX12_line_75 rfl rfl ?_
        refine s_sipush 79 dX12_line_76 rfl (k := ?_)
        refine s_icmp_ge 82 95 dX12_line_79 rfl rfl (fun g6 => ?_) (fun g6 => ?_)
        rotate_left
        · omega
        refine s_aload_n 96 dX12_line_95 rfl rfl ?_
        refine m_getV (k := 16) 99 dX12_line_96 rfl fl_X12_16 (by decide) rfl ?_
        refine s_sipush 102 dX12_line_99 rfl (k := ?_)
        refine s_iconst 103 dX12_line_102 rfl ?_
        refine m_ast 104 3 9309 dX12_line_103 rfl (by decide) rfl ?_
        refine V_kill 1 (rest _ (a1.up (by decide)) (fun i h1 h2 => ?_))
        rw [up_s]
        by_cases e : i = 803
        · subst e; rw [up_s, if_pos rfl]
        · rw [up_n e, if_neg e]; exact a2 i h1 (by omega)
      | succ m ih =>
        intro k A2 hk a1 a2
        refine s_iload_n 76 dX12_line_75 rfl rfl ?_
        refine s_sipush 79 dX12_line_76 rfl (k := ?_)
        refine s_icmp_ge 82 95 dX12_line_79 rfl rfl (fun g6 => ?_) (fun g6 => ?_)
        · omega
        refine s_aload_n 83 dX12_line_82 rfl rfl ?_
        refine m_getV (k := 16) 86 dX12_line_83 rfl fl_X12_16 (by decide) rfl ?_
        refine s_iload_n 87 dX12_line_86 rfl rfl ?_
        refine s_iconst 88 dX12_line_87 rfl ?_
        refine m_ast 89 3 9309 dX12_line_88 rfl (by decide) rfl ?_
        refine s_iinc 92 dX12_line_89 rfl rfl (Nat.le_of_ble_eq_true rfl) rfl ?_
        refine s_goto 75 dX12_line_92 rfl ?_
        refine ih (k + 1) _ (by omega) (a1.up (by decide)) (fun i h1 h2 => ?_)
        rw [up_s]
        by_cases e : i = (k : Int)
        · subst e; rw [up_s]
        · rw [up_n e]; exact a2 i h1 (by omega)
    exact key1 9309 0 A1 (by omega) frA.rf (fun i h1 h2 => by omega)
  refine s_aload_n 16 dX12_line_15 rfl rfl ?_
  refine s_iconst 17 dX12_line_16 rfl ?_
  refine m_putI 20 2 dX12_line_17 rfl fl_X12_63 (by decide) rfl rfl rfl rfl ?_
  refine s_aload_n 21 dX12_line_20 rfl rfl ?_
  refine s_iconst 22 dX12_line_21 rfl ?_
  refine m_putI 25 17 dX12_line_22 rfl fl_X12_188 (by decide) rfl rfl rfl rfl ?_
  refine s_aload_n 26 dX12_line_25 rfl rfl ?_
  refine s_aload_n 27 dX12_line_26 rfl rfl ?_
  refine m_getI 30 8 dX12_line_27 rfl fl_X12_141 (by decide) rfl (fun hr27 => ?_)
  refine m_putI 33 18 dX12_line_30 rfl fl_X12_192 (by decide) rfl rfl rfl rfl ?_
  refine s_aload_n 34 dX12_line_33 rfl rfl ?_
  refine s_aload_n 35 dX12_line_34 rfl rfl ?_
  refine m_getI 38 9 dX12_line_35 rfl fl_X12_148 (by decide) rfl (fun hr35 => ?_)
  refine m_putI 41 19 dX12_line_38 rfl fl_X12_19 (by decide) rfl rfl rfl rfl ?_
  refine s_aload_n 42 dX12_line_41 rfl rfl ?_
  refine s_aload_n 43 dX12_line_42 rfl rfl ?_
  refine m_getI 46 10 dX12_line_43 rfl fl_X12_151 (by decide) rfl (fun hr43 => ?_)
  refine m_putI 49 20 dX12_line_46 rfl fl_X12_23 (by decide) rfl rfl rfl rfl ?_
  refine s_aload_n 50 dX12_line_49 rfl rfl ?_
  refine s_aload_n 51 dX12_line_50 rfl rfl ?_
  refine m_getI 54 11 dX12_line_51 rfl fl_X12_162 (by decide) rfl (fun hr51 => ?_)
  refine m_putI 57 21 dX12_line_54 rfl fl_X12_194 (by decide) rfl rfl rfl rfl ?_
  refine s_aload_n 58 dX12_line_57 rfl rfl ?_
  refine s_aload_n 59 dX12_line_58 rfl rfl ?_
  refine m_getI 62 12 dX12_line_59 rfl fl_X12_167 (by decide) rfl (fun hr59 => ?_)
  refine m_putI 65 22 dX12_line_62 rfl fl_X12_196 (by decide) rfl rfl rfl rfl ?_
  refine s_aload_n 66 dX12_line_65 rfl rfl ?_
  refine s_aload_n 67 dX12_line_66 rfl rfl ?_
  refine m_getI 70 13 dX12_line_67 rfl fl_X12_172 (by decide) rfl (fun hr67 => ?_)
  refine m_putI 73 23 dX12_line_70 rfl fl_X12_198 (by decide) rfl rfl rfl rfl ?_
  refine key _ ?_ rfl rfl q0 q1 q2 q3 q4 q5
  exact ((((((((hI1.wk (by decide)).up (by decide)).up (by decide)).up (by decide)).up (by decide)).up (by decide)).up (by decide)).up (by decide)).up (by decide)
end M40
