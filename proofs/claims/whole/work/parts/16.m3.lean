section M3
variable {G : GT} {m0 n u : Nat} {F : HS} {d : Nat} {I : Nat → Int} {A : Nat → Int → Int} {D : Int64} {post : Option Value → MT → Prop}
theorem dropLast_sg {f : Int → Int} {p : Int} {l : List Int} (h : sg f p l) : sg f p l.dropLast := by
  rw [List.dropLast_eq_take]
  exact sg_take h
theorem c_stuffs {way : Int} {Ln Zn : Nat} {bs : List Int} (hw : 0 ≤ way ∧ way ≤ 2) (hbs : sg (A 5) 0 bs) (h26 : I 26 = bs.length) (hN : bs.length ≤ 600) (hL : I 19 = Ln) (hZ : I 20 = Zn) (hL1 : 1 ≤ Ln ∧ Ln ≤ 60) (hZ1 : Zn ≤ 60) (hp : ∀ I' A', frI [28, 29] I I' → I' 28 = (stuffF Ln Zn way bs).length → frA [6] A A' → sg (A' 6) 0 (stuffF Ln Zn way bs) → (stuffF Ln Zn way bs).length ≤ 2 * bs.length + 1 → post none (I', A', D)) : Cm G (AM G m0 F n u) yX12_stuffs cX12_stuffs 5 none (d + 2) [.ref m0, vi way] (I, A, D) post := by
  refine Cm_intro (L := [some (.ref m0), some (vi way), none, none, none]) (by decide +kernel) (Nat.le_of_ble_eq_true rfl) rfl ?_
  generalize ho : stl Ln Zn (decide (way = 1)) bs (bs.length + 1) [] 0 0 = o
  have hF : stuffF Ln Zn way bs = if way = 2 then rdc o else o.1 := by unfold stuffF; rw [ho]
  rw [hF] at hp
  have fin : ∀ (I' : Nat → Int) (A' : Nat → Int → Int), frI [28, 29] I I' → I' 28 = o.1.length → I' 29 = o.2 → frA [6] A A' → sg (A' 6) 0 o.1 → o.2 < o.1.length → o.1.length ≤ 2 * bs.length + 1 → V G (AM G m0 F n u) yX12_stuffs cX12_stuffs 5 none (d + 2) (I', A', D) 165 [some (.ref m0), some (vi way), none, none, none] [] post := by
    intro I' A' f1 f2 f3 f4 f5 f6 f7
    refine s_iload_n 166 dX12_stuffs_165 rfl rfl ?_
    refine s_iconst 167 dX12_stuffs_166 rfl ?_
    refine s_icmp_ne 170 236 dX12_stuffs_167 rfl rfl (fun h => ?_) (fun h => ?_)
    · refine s_return rfl dX12_stuffs_236 ?_
      rw [if_neg (by omega)] at hp
      exact hp I' A' f1 f2 f4 f5 f7
    rw [if_pos (by omega)] at hp
    refine s_aload_n 171 dX12_stuffs_170 rfl rfl ?_
    refine m_getI 174 28 dX12_stuffs_171 rfl fl_X12_214 (by decide) rfl (fun hr171 => ?_)
    refine s_iconst 175 dX12_stuffs_174 rfl ?_
    refine s_isub 176 dX12_stuffs_175 rfl ?_
    refine s_aload_n 177 dX12_stuffs_176 rfl rfl ?_
    refine m_getI 180 29 dX12_stuffs_177 rfl fl_X12_220 (by decide) rfl (fun hr177 => ?_)
    refine s_icmp_le 183 236 dX12_stuffs_180 rfl rfl (fun h2 => ?_) (fun h2 => ?_)
    · refine s_return rfl dX12_stuffs_236 ?_
      rw [show rdc o = o.1 from if_neg (by omega)] at hp
      exact hp I' A' f1 f2 f4 f5 f7
    have e1 : A' 6 (I' 28 - 1) = o.1.getD (o.1.length - 1) 0 := by rw [← f5 (o.1.length - 1) (by omega)]; congr 1; omega
    have e2 : A' 6 (I' 29) = o.1.getD o.2 0 := by rw [← f5 o.2 (by omega)]; congr 1; omega
    refine s_aload_n 184 dX12_stuffs_183 rfl rfl ?_
    refine m_getV (k := 27) 187 dX12_stuffs_184 rfl fl_X12_32 (by decide) rfl ?_
    refine s_aload_n 188 dX12_stuffs_187 rfl rfl ?_
    refine m_getI 191 28 dX12_stuffs_188 rfl fl_X12_214 (by decide) rfl (fun hr188 => ?_)
    refine s_iconst 192 dX12_stuffs_191 rfl ?_
    refine s_isub 193 dX12_stuffs_192 rfl ?_
    refine m_ald 194 6 1400 dX12_stuffs_193 rfl (by decide) rfl (fun hr193 => ?_)
    refine s_aload_n 195 dX12_stuffs_194 rfl rfl ?_
    refine m_getV (k := 27) 198 dX12_stuffs_195 rfl fl_X12_32 (by decide) rfl ?_
    refine s_aload_n 199 dX12_stuffs_198 rfl rfl ?_
    refine m_getI 202 29 dX12_stuffs_199 rfl fl_X12_220 (by decide) rfl (fun hr199 => ?_)
    refine m_ald 203 6 1400 dX12_stuffs_202 rfl (by decide) rfl (fun hr202 => ?_)
    refine s_icmp_lt 206 236 dX12_stuffs_203 rfl rfl (fun h3 => ?_) (fun h3 => ?_)
    · refine s_return rfl dX12_stuffs_236 ?_
      rw [show rdc o = o.1 from if_neg (by omega)] at hp
      exact hp I' A' f1 f2 f4 f5 f7
    refine s_aload_n 207 dX12_stuffs_206 rfl rfl ?_
    refine m_getV (k := 27) 210 dX12_stuffs_207 rfl fl_X12_32 (by decide) rfl ?_
    refine s_aload_n 211 dX12_stuffs_210 rfl rfl ?_
    refine m_getI 214 29 dX12_stuffs_211 rfl fl_X12_220 (by decide) rfl (fun hr211 => ?_)
    refine s_aload_n 215 dX12_stuffs_214 rfl rfl ?_
    refine m_getV (k := 27) 218 dX12_stuffs_215 rfl fl_X12_32 (by decide) rfl ?_
    refine s_aload_n 219 dX12_stuffs_218 rfl rfl ?_
    refine m_getI 222 28 dX12_stuffs_219 rfl fl_X12_214 (by decide) rfl (fun hr219 => ?_)
    refine s_iconst 223 dX12_stuffs_222 rfl ?_
    refine s_isub 224 dX12_stuffs_223 rfl ?_
    refine m_ald 225 6 1400 dX12_stuffs_224 rfl (by decide) rfl (fun hr224 => ?_)
    refine m_ast 226 6 1400 dX12_stuffs_225 rfl (by decide) rfl ?_
    refine s_aload_n 227 dX12_stuffs_226 rfl rfl ?_
    refine s_dup (q := 228) (hd := dX12_stuffs_227) (hq := rfl) (k := ?_)
    refine m_getI 231 28 dX12_stuffs_228 rfl fl_X12_214 (by decide) rfl (fun hr228 => ?_)
    refine s_iconst 232 dX12_stuffs_231 rfl ?_
    refine s_isub 233 dX12_stuffs_232 rfl ?_
    refine m_putI 236 28 dX12_stuffs_233 rfl fl_X12_214 (by decide) rfl rfl rfl rfl ?_
    refine s_return rfl dX12_stuffs_236 ?_
    rw [show rdc o = (o.1.set o.2 (o.1.getD (o.1.length - 1) 0)).dropLast from if_pos (by omega)] at hp
    refine hp _ _ (f1.up (by decide)) ?_ (f4.up (by decide)) ?_ ?_
    · rw [up_s, List.length_dropLast, List.length_set, f2]
      omega
    · rw [up_s, e1]
      exact dropLast_sg (sg_set f5 f6 (by omega))
    · rw [List.length_dropLast, List.length_set]
      omega
  refine s_aload_n 1 dX12_stuffs_0 rfl rfl ?_
  refine s_iconst 2 dX12_stuffs_1 rfl ?_
  refine m_putI 5 28 dX12_stuffs_2 rfl fl_X12_214 (by decide) rfl rfl rfl rfl ?_
  refine s_iconst 6 dX12_stuffs_5 rfl ?_
  refine s_istore_n 7 dX12_stuffs_6 rfl (Nat.le_of_ble_eq_true rfl) rfl ?_
  refine s_iconst 8 dX12_stuffs_7 rfl ?_
  refine s_istore_n 9 dX12_stuffs_8 rfl (Nat.le_of_ble_eq_true rfl) rfl ?_
  have key : ∀ (f : Nat) (out : List Int) (lc p : Nat) (I' : Nat → Int) (A' : Nat → Int → Int), stl Ln Zn (decide (way = 1)) bs f out lc p = o → bs.length < p + f → p ≤ bs.length → out.length ≤ 2 * p → frI [28, 29] I I' → I' 28 = out.length → frA [6] A A' → sg (A' 6) 0 out → V G (AM G m0 F n u) yX12_stuffs cX12_stuffs 5 none (d + 2) (I', A', D) 9 [some (.ref m0), some (vi way), some (vi p), some (vi 1), none] [] post := by
    intro f
    induction f with
    | zero => intro out lc p I' A' hs h1 h2; omega
    | succ f ih =>
      intro out lc p I' A' hs h1 h2 h3 f1 f2 f3 f4
      have e26 : I' 26 = bs.length := (f1 26 (by decide)).trans h26
      have e19 : I' 19 = Ln := (f1 19 (by decide)).trans hL
      have e20 : I' 20 = Zn := (f1 20 (by decide)).trans hZ
      have e5 : sg (A' 5) 0 bs := by rw [f3 5 (by decide)]; exact hbs
      refine s_iload_n 10 dX12_stuffs_9 rfl rfl ?_
      refine s_if_eq 13 165 dX12_stuffs_10 rfl rfl (fun h => ?_) (fun h => ?_)
      · omega
      refine s_aload_n 14 dX12_stuffs_13 rfl rfl ?_
      refine s_iload_n 15 dX12_stuffs_14 rfl rfl ?_
      refine s_V1i 18 dX12_stuffs_15 rfl km_X12_runFrom ml_X12_226 ds_X12_runFrom (Nat.le_of_ble_eq_true rfl) m_rec rfl (c_runFrom e26 (by omega) e5 e19 h2 ?_)
      refine ⟨_, rfl, ?_⟩
      refine s_istore 20 dX12_stuffs_18 rfl (Nat.le_of_ble_eq_true rfl) rfl ?_
      refine s_iload 22 dX12_stuffs_20 rfl rfl ?_
      refine s_aload_n 23 dX12_stuffs_22 rfl rfl ?_
      refine m_getI 26 19 dX12_stuffs_23 rfl fl_X12_19 (by decide) rfl (fun hr23 => ?_)
      generalize hr : rln Ln (bs.drop p) = r at hs ⊢
      have hr1 : r ≤ Ln := by rw [← hr]; exact rln_le _ _
      have hr2 : p + r ≤ bs.length := by have := rln_len Ln (bs.drop p); rw [hr, List.length_drop] at this; omega
      have htk : ((bs.drop p).take r).length = r := List.length_take_of_le (by rw [List.length_drop]; omega)
      refine s_icmp_ne 29 64 dX12_stuffs_26 rfl rfl (fun g1 => ?_) (fun g1 => ?_)
      · -- another block than a full one
        have g1 : ¬ r = Ln := by omega
        have third : ¬ (decide (way = 1) = true ∧ r < Zn ∧ p + r + 1 < bs.length ∧ bs.getD (p + r) 0 = 0 ∧ bs.getD (p + r + 1) 0 = 0) → V G (AM G m0 F n u) yX12_stuffs cX12_stuffs 5 none (d + 2) (I', A', D) 129 [some (.ref m0), some (vi way), some (vi p), some (vi 1), some (vi r)] [] post := by
          intro h2n
          rw [stl_0 hr g1 h2n] at hs
          refine s_aload_n 130 dX12_stuffs_129 rfl rfl ?_
          refine s_iload 132 dX12_stuffs_130 rfl rfl ?_
          refine s_iconst 133 dX12_stuffs_132 rfl ?_
          refine s_iadd 134 dX12_stuffs_133 rfl ?_
          refine s_iload_n 135 dX12_stuffs_134 rfl rfl ?_
          refine s_iload 137 dX12_stuffs_135 rfl rfl ?_
          refine s_V3v 140 dX12_stuffs_137 rfl km_X12_block ml_X12_230 ds_X12_block (Nat.le_of_ble_eq_true rfl) m_rec rfl (c_block e5 (by omega) hr2 f2 f4 (by omega) (by omega) (fun I2 A2 k1 k2 k3 k4 k5 => ?_))
          refine ⟨rfl, ?_⟩
          refine s_iload_n 141 dX12_stuffs_140 rfl rfl ?_
          refine s_iload 143 dX12_stuffs_141 rfl rfl ?_
          refine s_iadd 144 dX12_stuffs_143 rfl ?_
          refine s_istore_n 145 dX12_stuffs_144 rfl (Nat.le_of_ble_eq_true rfl) rfl ?_
          refine s_iload_n 146 dX12_stuffs_145 rfl rfl ?_
          refine s_aload_n 147 dX12_stuffs_146 rfl rfl ?_
          refine m_getI 150 26 dX12_stuffs_147 rfl fl_X12_217 (by decide) rfl (fun hr147 => ?_)
          have w1 := f1.trans k1 (fun _ h => h)
          have w3 := f3.trans k4 (fun _ h => h)
          have w26 : I2 26 = bs.length := (w1 26 (by decide)).trans h26
          refine s_icmp_ge 153 157 dX12_stuffs_150 rfl rfl (fun g2 => ?_) (fun g2 => ?_)
          · refine s_iconst 158 dX12_stuffs_157 rfl ?_
            refine s_istore_n 159 dX12_stuffs_158 rfl (Nat.le_of_ble_eq_true rfl) rfl ?_
            refine s_iinc 162 dX12_stuffs_159 rfl rfl (Nat.le_of_ble_eq_true rfl) rfl ?_
            refine s_goto 9 dX12_stuffs_162 rfl ?_
            refine s_iload_n 10 dX12_stuffs_9 rfl rfl ?_
            rw [if_neg (by omega)] at hs
            refine s_if_eq 13 165 dX12_stuffs_10 rfl rfl (fun g3 => ?_) (fun g3 => ?_)
            · refine V_kill 2 (V_kill 3 (V_kill 4 ?_))
              subst hs
              refine fin _ _ w1 (by rw [k2, List.length_append, List.length_cons, htk]; omega) k3 w3 k5 (by rw [List.length_append, List.length_cons]; omega) (by rw [List.length_append, List.length_cons, htk]; omega)
            · omega
          · rw [if_pos (by omega)] at hs
            refine s_iconst 154 dX12_stuffs_153 rfl ?_
            refine s_goto 158 dX12_stuffs_154 rfl ?_
            refine s_istore_n 159 dX12_stuffs_158 rfl (Nat.le_of_ble_eq_true rfl) rfl ?_
            refine s_iinc 162 dX12_stuffs_159 rfl rfl (Nat.le_of_ble_eq_true rfl) rfl ?_
            refine s_goto 9 dX12_stuffs_162 rfl ?_
            refine V_kill 4 ?_
            exact ih _ _ (p + r + 1) _ _ hs (by omega) (by omega) (by rw [List.length_append, List.length_cons, htk]; omega) w1 (by rw [k2, List.length_append, List.length_cons, htk]; omega) w3 k5
        refine s_iload_n 65 dX12_stuffs_64 rfl rfl ?_
        refine s_iconst 66 dX12_stuffs_65 rfl ?_
        refine s_icmp_ne 69 129 dX12_stuffs_66 rfl rfl (fun g2 => ?_) (fun g2 => ?_)
        · exact third (fun h => g2 (of_decide_eq_true h.1))
        refine s_iload 71 dX12_stuffs_69 rfl rfl ?_
        refine s_aload_n 72 dX12_stuffs_71 rfl rfl ?_
        refine m_getI 75 20 dX12_stuffs_72 rfl fl_X12_23 (by decide) rfl (fun hr72 => ?_)
        refine s_icmp_ge 78 129 dX12_stuffs_75 rfl rfl (fun g3 => ?_) (fun g3 => ?_)
        · exact third (fun h => by omega)
        refine s_aload_n 79 dX12_stuffs_78 rfl rfl ?_
        refine s_iload_n 80 dX12_stuffs_79 rfl rfl ?_
        refine s_iload 82 dX12_stuffs_80 rfl rfl ?_
        refine s_iadd 83 dX12_stuffs_82 rfl ?_
        refine s_V1b 86 dX12_stuffs_83 rfl km_X12_isPair ml_X12_233 ds_X12_isPair (Nat.le_of_ble_eq_true rfl) m_rec rfl (c_isPair (p := p + r) e26 (by omega) e5 hr2 ?_)
        refine ⟨_, rfl, ?_⟩
        refine s_if_eqb 89 129 dX12_stuffs_86 rfl rfl (fun g4 => ?_) (fun g4 => ?_)
        · exact third (fun h => (of_decide_eq_false g4) h.2.2)
        have g4 := of_decide_eq_true g4
        rw [stl_P hr g1 ⟨decide_eq_true (by omega), by omega, g4⟩] at hs
        refine s_aload_n 90 dX12_stuffs_89 rfl rfl ?_
        refine s_aload_n 91 dX12_stuffs_90 rfl rfl ?_
        refine m_getI 94 19 dX12_stuffs_91 rfl fl_X12_19 (by decide) rfl (fun hr91 => ?_)
        refine s_iconst 95 dX12_stuffs_94 rfl ?_
        refine s_iadd 96 dX12_stuffs_95 rfl ?_
        refine s_iload 98 dX12_stuffs_96 rfl rfl ?_
        refine s_iadd 99 dX12_stuffs_98 rfl ?_
        refine s_iload_n 100 dX12_stuffs_99 rfl rfl ?_
        refine s_iload 102 dX12_stuffs_100 rfl rfl ?_
        refine s_V3v 105 dX12_stuffs_102 rfl km_X12_block ml_X12_230 ds_X12_block (Nat.le_of_ble_eq_true rfl) m_rec rfl (c_block e5 (by omega) hr2 f2 f4 (by omega) (by omega) (fun I2 A2 k1 k2 k3 k4 k5 => ?_))
        refine ⟨rfl, ?_⟩
        refine s_iload_n 106 dX12_stuffs_105 rfl rfl ?_
        refine s_iload 108 dX12_stuffs_106 rfl rfl ?_
        refine s_iconst 109 dX12_stuffs_108 rfl ?_
        refine s_iadd 110 dX12_stuffs_109 rfl ?_
        refine s_iadd 111 dX12_stuffs_110 rfl ?_
        refine s_istore_n 112 dX12_stuffs_111 rfl (Nat.le_of_ble_eq_true rfl) rfl ?_
        refine s_iload_n 113 dX12_stuffs_112 rfl rfl ?_
        refine s_aload_n 114 dX12_stuffs_113 rfl rfl ?_
        refine m_getI 117 26 dX12_stuffs_114 rfl fl_X12_217 (by decide) rfl (fun hr114 => ?_)
        rw [e19] at k5
        have w1 := f1.trans k1 (fun _ h => h)
        have w3 := f3.trans k4 (fun _ h => h)
        have w26 : I2 26 = bs.length := (w1 26 (by decide)).trans h26
        refine s_icmp_ge 120 124 dX12_stuffs_117 rfl rfl (fun g5 => ?_) (fun g5 => ?_)
        · refine s_iconst 125 dX12_stuffs_124 rfl ?_
          refine s_istore_n 126 dX12_stuffs_125 rfl (Nat.le_of_ble_eq_true rfl) rfl ?_
          refine s_goto 162 dX12_stuffs_126 rfl ?_
          refine s_goto 9 dX12_stuffs_162 rfl ?_
          refine s_iload_n 10 dX12_stuffs_9 rfl rfl ?_
          rw [if_neg (by omega)] at hs
          refine s_if_eq 13 165 dX12_stuffs_10 rfl rfl (fun g6 => ?_) (fun g6 => ?_)
          · refine V_kill 2 (V_kill 3 (V_kill 4 ?_))
            subst hs
            refine fin _ _ w1 (by rw [k2, List.length_append, List.length_cons, htk]; omega) k3 w3 k5 (by rw [List.length_append, List.length_cons]; omega) (by rw [List.length_append, List.length_cons, htk]; omega)
          · omega
        · rw [if_pos (by omega)] at hs
          refine s_iconst 121 dX12_stuffs_120 rfl ?_
          refine s_goto 125 dX12_stuffs_121 rfl ?_
          refine s_istore_n 126 dX12_stuffs_125 rfl (Nat.le_of_ble_eq_true rfl) rfl ?_
          refine s_goto 162 dX12_stuffs_126 rfl ?_
          refine s_goto 9 dX12_stuffs_162 rfl ?_
          refine V_kill 4 ?_
          exact ih _ _ (p + r + 2) _ _ hs (by omega) (by omega) (by rw [List.length_append, List.length_cons, htk]; omega) w1 (by rw [k2, List.length_append, List.length_cons, htk]; omega) w3 k5
      · -- a full one
        have g1 : r = Ln := by omega
        subst g1
        rw [stl_L hr] at hs
        refine s_aload_n 30 dX12_stuffs_29 rfl rfl ?_
        refine s_aload_n 31 dX12_stuffs_30 rfl rfl ?_
        refine m_getI 34 19 dX12_stuffs_31 rfl fl_X12_19 (by decide) rfl (fun hr31 => ?_)
        refine s_iconst 35 dX12_stuffs_34 rfl ?_
        refine s_iadd 36 dX12_stuffs_35 rfl ?_
        refine s_iload_n 37 dX12_stuffs_36 rfl rfl ?_
        refine s_iload 39 dX12_stuffs_37 rfl rfl ?_
        refine s_V3v 42 dX12_stuffs_39 rfl km_X12_block ml_X12_230 ds_X12_block (Nat.le_of_ble_eq_true rfl) m_rec rfl (c_block e5 (by omega) hr2 f2 f4 (by omega) (by omega) (fun I2 A2 k1 k2 k3 k4 k5 => ?_))
        refine ⟨rfl, ?_⟩
        refine s_iload_n 43 dX12_stuffs_42 rfl rfl ?_
        refine s_iload 45 dX12_stuffs_43 rfl rfl ?_
        refine s_iadd 46 dX12_stuffs_45 rfl ?_
        refine s_istore_n 47 dX12_stuffs_46 rfl (Nat.le_of_ble_eq_true rfl) rfl ?_
        refine s_iload_n 48 dX12_stuffs_47 rfl rfl ?_
        refine s_aload_n 49 dX12_stuffs_48 rfl rfl ?_
        refine m_getI 52 26 dX12_stuffs_49 rfl fl_X12_217 (by decide) rfl (fun hr49 => ?_)
        rw [e19] at k5
        have w1 := f1.trans k1 (fun _ h => h)
        have w3 := f3.trans k4 (fun _ h => h)
        have w26 : I2 26 = bs.length := (w1 26 (by decide)).trans h26
        refine s_icmp_ge 55 59 dX12_stuffs_52 rfl rfl (fun g2 => ?_) (fun g2 => ?_)
        · refine s_iconst 60 dX12_stuffs_59 rfl ?_
          refine s_istore_n 61 dX12_stuffs_60 rfl (Nat.le_of_ble_eq_true rfl) rfl ?_
          refine s_goto 162 dX12_stuffs_61 rfl ?_
          refine s_goto 9 dX12_stuffs_162 rfl ?_
          refine s_iload_n 10 dX12_stuffs_9 rfl rfl ?_
          rw [if_neg (by omega)] at hs
          refine s_if_eq 13 165 dX12_stuffs_10 rfl rfl (fun g3 => ?_) (fun g3 => ?_)
          · refine V_kill 2 (V_kill 3 (V_kill 4 ?_))
            subst hs
            refine fin _ _ w1 (by rw [k2, List.length_append, List.length_cons, htk]; omega) k3 w3 k5 (by rw [List.length_append, List.length_cons]; omega) (by rw [List.length_append, List.length_cons, htk]; omega)
          · omega
        · rw [if_pos (by omega)] at hs
          refine s_iconst 56 dX12_stuffs_55 rfl ?_
          refine s_goto 60 dX12_stuffs_56 rfl ?_
          refine s_istore_n 61 dX12_stuffs_60 rfl (Nat.le_of_ble_eq_true rfl) rfl ?_
          refine s_goto 162 dX12_stuffs_61 rfl ?_
          refine s_goto 9 dX12_stuffs_162 rfl ?_
          refine V_kill 4 ?_
          exact ih _ _ (p + r) _ _ hs (by omega) (by omega) (by rw [List.length_append, List.length_cons, htk]; omega) w1 (by rw [k2, List.length_append, List.length_cons, htk]; omega) w3 k5
  exact key (bs.length + 1) [] 0 0 _ _ ho (by omega) (by omega) (by simp) (frI.rf.up (by decide)) (by rw [up_s]; rfl) frA.rf (sg_nil _ _)
end M3
