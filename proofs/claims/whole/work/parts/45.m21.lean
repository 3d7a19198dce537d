section M21
variable {G : GT} {m0 n u : Nat} {F : HS} {d : Nat} {I : Nat → Int} {A : Nat → Int → Int} {D : Int64} {post : Option Value → MT → Prop} {ru : RU}
theorem pcs_flt {tp : List Int} {f q : Nat} {x : PS} (h : fltF tp q x ≠ -1) : pcs tp (f + 1) q x = (fltF tp q x, x) := by
  unfold fltF at h ⊢
  rw [pcs]
  by_cases h1 : srt tp q = -1 ∨ ¬ mayF x (srt tp q)
  · rw [if_pos h1, if_pos h1]
  · rw [if_neg h1, if_neg h1]
    rw [if_neg h1] at h
    by_cases h2 : valF tp (pB tp (pE tp q)) (srt tp q) = -1
    · rw [if_pos h2, if_pos h2]
    · rw [if_neg h2] at h; exact absurd rfl h
theorem flt_ok {tp : List Int} {q : Nat} {x : PS} (h : fltF tp q x = -1) : (0 ≤ srt tp q ∧ srt tp q ≤ 5) ∧ mayF x (srt tp q) ∧ valF tp (pB tp (pE tp q)) (srt tp q) ≠ -1 := by
  unfold fltF at h
  by_cases h1 : srt tp q = -1 ∨ ¬ mayF x (srt tp q)
  · rw [if_pos h1] at h; omega
  · rw [if_neg h1] at h
    by_cases h2 : valF tp (pB tp (pE tp q)) (srt tp q) = -1
    · rw [if_pos h2] at h; omega
    · have h3 : srt tp q ≠ -1 := fun e => h1 (Or.inl e)
      exact ⟨(srt_rg tp q).resolve_left h3, Decidable.of_not_not (fun e => h1 (Or.inr e)), h2⟩
theorem flt_rg {tp : List Int} {q : Nat} {x : PS} (h : fltF tp q x ≠ -1) : 0 ≤ fltF tp q x := by
  unfold fltF at h ⊢
  split
  · omega
  · split
    · omega
    · rename_i h1 h2; rw [if_neg h1, if_neg h2] at h; exact absurd rfl h
theorem pcs_ok {tp : List Int} {f q : Nat} {x : PS} (h : fltF tp q x = -1) {q3 : Nat} {x' : PS} (hq : pB tp (pE tp (pB tp (pE tp q))) = q3) (hx : tellF x (srt tp q) (valF tp (pB tp (pE tp q)) (srt tp q)) = x') : pcs tp (f + 1) q x = if pK tp q3 = 3 ∧ tp.getD q3 0 = 59 then pcs tp f (pB tp (pE tp q3)) x' else if pK tp q3 = 0 ∧ 0 < x'.2.2.length then (-1, x') else ((q3 : Int), x') := by
  subst hq hx
  obtain ⟨h0, h1, h2⟩ := flt_ok h
  rw [pcs, if_neg (fun e => e.elim (fun e => by omega) (fun e => e h1)), if_neg h2]
theorem c_semiBad (h5 : I 5 ≠ -1) (hp : post (some (vb false)) (I, A, D)) : Cm G (AM G m0 F n u) yX12_takesSemicolon cX12_takesSemicolon 2 (some .boolean) d [.ref m0] (I, A, D) post := by
  refine Cm_intro (L := [some (.ref m0), none]) (by decide +kernel) (Nat.le_of_ble_eq_true rfl) rfl ?_
  refine s_aload_n 1 dX12_takesSemicolon_0 rfl rfl ?_
  refine m_getI 4 5 dX12_takesSemicolon_1 rfl fl_X12_103 (by decide) rfl (fun hr1 => ?_)
  refine s_iconst 5 dX12_takesSemicolon_4 rfl ?_
  refine s_icmp_ne 8 34 dX12_takesSemicolon_5 rfl rfl (fun g5 => ?_) (fun g5 => ?_)
  · refine s_iconst 35 dX12_takesSemicolon_34 rfl ?_
    refine s_istore_n 36 dX12_takesSemicolon_35 rfl (Nat.le_of_ble_eq_true rfl) rfl ?_
    refine s_iload_n 37 dX12_takesSemicolon_36 rfl rfl ?_
    refine s_if_eq 40 44 dX12_takesSemicolon_37 rfl rfl (fun g => ?_) (fun g => ?_)
    · refine s_iload_n 45 dX12_takesSemicolon_44 rfl rfl ?_
      first | refine s_zreturn rfl dX12_takesSemicolon_45 ?_ | refine s_zreturn1 rfl dX12_takesSemicolon_45 ?_ | refine s_zreturn0 rfl dX12_takesSemicolon_45 ?_
      exact hp
    · omega
  · exact absurd g5 h5
theorem c_reads {tp : List Int} (h2 : I 2 = tp.length) (ht : sg (A 1) 0 tp) (hl : tp.length ≤ 300) (hb : byt tp) (hp : ∀ I' A', frI [3, 4, 5, 6, 7, 8, 9, 10, 11, 12, 13, 14] I I' → frA [2] A A' → ((parF tp).1 = -1 → PsM I' A' (parF tp).2 ∧ WfPs (parF tp).2 ∧ 0 < (parF tp).2.2.2.length) → post (some (vi (parF tp).1)) (I', A', D)) : Cm G (AM G m0 F n u) yX12_reads cX12_reads 1 (some .int) (d + 7) [.ref m0] (I, A, D) post := by
  refine Cm_intro (L := [some (.ref m0)]) (by decide +kernel) (Nat.le_of_ble_eq_true rfl) rfl ?_
  refine s_aload_n 1 dX12_reads_0 rfl rfl ?_
  refine s_iconst 2 dX12_reads_1 rfl ?_
  refine m_putI 5 3 dX12_reads_2 rfl fl_X12_74 (by decide) rfl rfl rfl rfl ?_
  refine s_aload_n 6 dX12_reads_5 rfl rfl ?_
  refine s_iconst 7 dX12_reads_6 rfl ?_
  refine m_putI 10 5 dX12_reads_7 rfl fl_X12_103 (by decide) rfl rfl rfl rfl ?_
  refine s_aload_n 11 dX12_reads_10 rfl rfl ?_
  refine s_iconst 12 dX12_reads_11 rfl ?_
  refine m_putI 15 8 dX12_reads_12 rfl fl_X12_141 (by decide) rfl rfl rfl rfl ?_
  refine s_aload_n 16 dX12_reads_15 rfl rfl ?_
  refine s_bipush 18 dX12_reads_16 rfl (k := ?_)
  refine m_putI 21 9 dX12_reads_18 rfl fl_X12_148 (by decide) rfl rfl rfl rfl ?_
  refine s_aload_n 22 dX12_reads_21 rfl rfl ?_
  refine s_bipush 24 dX12_reads_22 rfl (k := ?_)
  refine m_putI 27 10 dX12_reads_24 rfl fl_X12_151 (by decide) rfl rfl rfl rfl ?_
  refine s_aload_n 28 dX12_reads_27 rfl rfl ?_
  refine s_iconst 29 dX12_reads_28 rfl ?_
  refine m_putI 32 11 dX12_reads_29 rfl fl_X12_162 (by decide) rfl rfl rfl rfl ?_
  refine s_aload_n 33 dX12_reads_32 rfl rfl ?_
  refine s_bipush 35 dX12_reads_33 rfl (k := ?_)
  refine m_putI 38 12 dX12_reads_35 rfl fl_X12_167 (by decide) rfl rfl rfl rfl ?_
  refine s_aload_n 39 dX12_reads_38 rfl rfl ?_
  refine s_iconst 40 dX12_reads_39 rfl ?_
  refine m_putI 43 13 dX12_reads_40 rfl fl_X12_172 (by decide) rfl rfl rfl rfl ?_
  refine s_aload_n 44 dX12_reads_43 rfl rfl ?_
  refine s_iconst 45 dX12_reads_44 rfl ?_
  refine m_putI 48 14 dX12_reads_45 rfl fl_X12_121 (by decide) rfl rfl rfl rfl ?_
  generalize hI0 : up (up (up (up (up (up (up (up (up I 3 0) 5 (-1)) 8 0) 9 20) 10 10) 11 1) 12 16) 13 0) 14 0 = I0
  have f0 : frI [3, 5, 8, 9, 10, 11, 12, 13, 14] I I0 := by
    rw [← hI0]
    exact ((((((((frI.rf.up (by decide)).up (by decide)).up (by decide)).up (by decide)).up (by decide)).up (by decide)).up (by decide)).up (by decide)).up (by decide)
  have z3 : I0 3 = 0 := by rw [← hI0]; rfl
  have z5 : I0 5 = -1 := by rw [← hI0]; rfl
  have zx : PsM I0 A (ru0, 0, []) := by rw [← hI0]; exact ⟨rfl, rfl, rfl, rfl, rfl, rfl, rfl, sg_nil _ _⟩
  clear hI0
  have hq := pB_le (tp := tp) (p := 0) (by omega)
  refine s_aload_n 49 dX12_reads_48 rfl rfl ?_
  refine s_V0v 52 dX12_reads_49 rfl km_X12_next ml_X12_115 ds_X12_next (Nat.le_of_ble_eq_true rfl) m_rec rfl (c_next (p := 0) ((f0 2 (by decide)).trans h2) z3 ht hl hb (by omega) (fun I1 k1 k2 k3 k4 k5 => ?_))
  refine ⟨rfl, ?_⟩
  have hP : PP I1 tp (pB tp 0) := ⟨(k1 2 (by decide)).trans ((f0 2 (by decide)).trans h2), k2, k4, k3, k5, hq.2⟩
  have hx1 : PsM I1 A (ru0, 0, []) := by
    obtain ⟨a0, a1, a2, a3, a4, a5, a6, a7⟩ := zx
    exact ⟨(k1 _ (by decide)).trans a0, (k1 _ (by decide)).trans a1, (k1 _ (by decide)).trans a2, (k1 _ (by decide)).trans a3, (k1 _ (by decide)).trans a4, (k1 _ (by decide)).trans a5, (k1 _ (by decide)).trans a6, a7⟩
  -- a piece, from 52 or from 63 on
  have fin : ∀ (I2 : Nat → Int) (A2 : Nat → Int → Int), frI [3, 4, 5, 6, 7, 8, 9, 10, 11, 12, 13, 14] I I2 → frA [2] A A2 → I2 5 = (parF tp).1 → ((parF tp).1 = -1 → (I2 6 = 0 ∧ I2 13 ≠ 0) ∧ PsM I2 A2 (parF tp).2 ∧ WfPs (parF tp).2 ∧ 0 < (parF tp).2.2.2.length) → V G (AM G m0 F n u) yX12_reads cX12_reads 1 (some .int) (d + 7) (I2, A2, D) 70 [some (.ref m0)] [] post := by
    intro I2 A2 f1 f2 e5 e6
    refine s_aload_n 71 dX12_reads_70 rfl rfl ?_
    refine m_getI 74 5 dX12_reads_71 rfl fl_X12_103 (by decide) rfl (fun hr71 => ?_)
    refine s_iconst 75 dX12_reads_74 rfl ?_
    refine s_icmp_ne 78 96 dX12_reads_75 rfl rfl (fun g => ?_) (fun g => ?_)
    · refine s_aload_n 97 dX12_reads_96 rfl rfl ?_
      refine m_getI 100 5 dX12_reads_97 rfl fl_X12_103 (by decide) rfl (fun hr97 => ?_)
      refine s_ireturn rfl dX12_reads_100 ?_
      rw [e5]
      exact hp I2 A2 f1 f2 (fun e => (e6 e).2)
    · obtain ⟨⟨e7, e8⟩, e9⟩ := e6 (by omega)
      refine s_aload_n 79 dX12_reads_78 rfl rfl ?_
      refine m_getI 82 6 dX12_reads_79 rfl fl_X12_84 (by decide) rfl (fun hr79 => ?_)
      refine s_if_ne 85 92 dX12_reads_82 rfl rfl (fun g2 => ?_) (fun g2 => ?_)
      · omega
      refine s_aload_n 86 dX12_reads_85 rfl rfl ?_
      refine m_getI 89 13 dX12_reads_86 rfl fl_X12_172 (by decide) rfl (fun hr86 => ?_)
      refine s_if_ne 92 96 dX12_reads_89 rfl rfl (fun g3 => ?_) (fun g3 => ?_)
      · refine s_aload_n 97 dX12_reads_96 rfl rfl ?_
        refine m_getI 100 5 dX12_reads_97 rfl fl_X12_103 (by decide) rfl (fun hr97 => ?_)
        refine s_ireturn rfl dX12_reads_100 ?_
        rw [e5]
        exact hp I2 A2 f1 f2 (fun _ => e9)
      · omega
  have bad : ∀ (I2 : Nat → Int) (A2 : Nat → Int → Int) (q : Nat), frI [3, 4, 5, 6, 7, 8, 9, 10, 11, 12, 13, 14] I I2 → frA [2] A A2 → I2 5 = -1 → I2 4 = q → (parF tp).1 = q → ¬ (I2 6 = 0 ∧ I2 13 ≠ 0) → V G (AM G m0 F n u) yX12_reads cX12_reads 1 (some .int) (d + 7) (I2, A2, D) 70 [some (.ref m0)] [] post := by
    intro I2 A2 q f1 f2 e5 e4 e1 e6
    have last : V G (AM G m0 F n u) yX12_reads cX12_reads 1 (some .int) (d + 7) (I2, A2, D) 92 [some (.ref m0)] [] post := by
      refine s_aload_n 93 dX12_reads_92 rfl rfl ?_
      refine s_V0v 96 dX12_reads_93 rfl km_X12_bad ml_X12_118 ds_X12_bad (Nat.le_of_ble_eq_true rfl) m_rec rfl (c_bad ?_)
      refine ⟨rfl, ?_⟩
      refine s_aload_n 97 dX12_reads_96 rfl rfl ?_
      refine m_getI 100 5 dX12_reads_97 rfl fl_X12_103 (by decide) rfl (fun hr97 => ?_)
      refine s_ireturn rfl dX12_reads_100 ?_
      rw [up_s, if_pos e5, e4, ← e1]
      exact hp _ A2 (f1.up (by decide)) f2 (fun e => by omega)
    refine s_aload_n 71 dX12_reads_70 rfl rfl ?_
    refine m_getI 74 5 dX12_reads_71 rfl fl_X12_103 (by decide) rfl (fun hr71 => ?_)
    refine s_iconst 75 dX12_reads_74 rfl ?_
    refine s_icmp_ne 78 96 dX12_reads_75 rfl rfl (fun g => ?_) (fun g => ?_)
    · omega
    refine s_aload_n 79 dX12_reads_78 rfl rfl ?_
    refine m_getI 82 6 dX12_reads_79 rfl fl_X12_84 (by decide) rfl (fun hr79 => ?_)
    refine s_if_ne 85 92 dX12_reads_82 rfl rfl (fun g2 => ?_) (fun g2 => ?_)
    · exact last
    refine s_aload_n 86 dX12_reads_85 rfl rfl ?_
    refine m_getI 89 13 dX12_reads_86 rfl fl_X12_172 (by decide) rfl (fun hr86 => ?_)
    refine s_if_ne 92 96 dX12_reads_89 rfl rfl (fun g3 => ?_) (fun g3 => ?_)
    · exact absurd ⟨by omega, by omega⟩ e6
    · exact last
  have aft : ∀ (f q : Nat) (x : PS) (I2 : Nat → Int) (A2 : Nat → Int → Int), frI [3, 4, 5, 6, 7, 8, 9, 10, 11, 12, 13, 14] I I2 → frA [2] A A2 → WfPs x → I2 5 = fltF tp q x → (fltF tp q x = -1 → PP I2 tp (pB tp (pE tp (pB tp (pE tp q)))) ∧ PsM I2 A2 (tellF x (srt tp q) (valF tp (pB tp (pE tp q)) (srt tp q)))) → parF tp = pcs tp (f + 1) q x → q ≤ tp.length → (∀ (q' : Nat) (x' : PS) (I3 : Nat → Int), q < q' → q' ≤ tp.length → frI [3, 4, 5, 6, 7, 8, 9, 10, 11, 12, 13, 14] I I3 → I3 5 = -1 → PP I3 tp q' → PsM I3 A2 x' → WfPs x' → parF tp = pcs tp f q' x' → V G (AM G m0 F n u) yX12_reads cX12_reads 1 (some .int) (d + 7) (I3, A2, D) 63 [some (.ref m0)] [] post) → V G (AM G m0 F n u) yX12_reads cX12_reads 1 (some .int) (d + 7) (I2, A2, D) 56 [some (.ref m0)] [] post := by
    intro f q x I2 A2 f1 f2 hwx e5 e6 ep hql ih
    by_cases hf : fltF tp q x = -1
    · obtain ⟨hP2, hx2⟩ := e6 hf
      obtain ⟨s1, s2, s3⟩ := flt_ok hf
      have hw2 := tellF_wf hwx s1 s2 s3
      have hE := pE_le hql
      have hq2 := pB_le hE.2.1
      have hE2 := pE_le hq2.2
      have hq3 := pB_le hE2.2.1
      have hE3 := pE_le hq3.2
      have hq4 := pB_le hE3.2.1
      rw [pcs_ok hf rfl rfl] at ep
      generalize tellF x (srt tp q) (valF tp (pB tp (pE tp q)) (srt tp q)) = x2 at *
      generalize pB tp (pE tp (pB tp (pE tp q))) = q3 at *
      have ht2 : sg (A2 1) 0 tp := by rw [f2 1 (by decide)]; exact ht
      refine s_aload_n 57 dX12_reads_56 rfl rfl ?_
      refine s_V0b 60 dX12_reads_57 rfl km_X12_takesSemicolon ml_X12_178 ds_X12_takesSemicolon (Nat.le_of_ble_eq_true rfl) m_rec rfl (c_takesSemicolon hP2 ht2 hl hb (fun y1 y2 y3 I3 f3 hP3 => ?_) (fun y1 => ?_))
      refine ⟨_, rfl, ?_⟩
      · refine s_if_eqb 63 70 dX12_reads_60 rfl rfl (fun g => ?_) (fun g => ?_)
        · exact absurd g (by decide)
        rw [if_pos ⟨y2, y3⟩] at ep
        have hlt : q3 < tp.length := by
          rcases pK_cases tp q3 with ⟨k, l⟩ | ⟨k, l⟩ | ⟨k, l⟩ | ⟨k, l⟩
          · omega
          · exact l
          · exact l
          · exact l
        have h9 := hE3.2.2 hlt
        refine ih _ x2 I3 (by omega) hq4.2 (f1.trans f3 (by decide)) ((f3 5 (by decide)).trans y1) hP3 ?_ hw2 ep
        obtain ⟨a0, a1, a2, a3, a4, a5, a6, a7⟩ := hx2
        exact ⟨(f3 _ (by decide)).trans a0, (f3 _ (by decide)).trans a1, (f3 _ (by decide)).trans a2, (f3 _ (by decide)).trans a3, (f3 _ (by decide)).trans a4, (f3 _ (by decide)).trans a5, (f3 _ (by decide)).trans a6, a7⟩
      · refine ⟨_, rfl, ?_⟩
        refine s_if_eqb 63 70 dX12_reads_60 rfl rfl (fun g => ?_) (fun g => ?_)
        rotate_left
        · exact absurd g (by decide)
        rw [if_neg (fun h => y1 ⟨e5.trans hf, h.1, h.2⟩)] at ep
        by_cases h0 : pK tp q3 = 0 ∧ 0 < x2.2.2.length
        · rw [if_pos h0] at ep
          refine fin I2 A2 f1 f2 (by rw [ep]; exact e5.trans hf) (fun _ => ?_)
          rw [ep]
          exact ⟨⟨hP2.2.2.2.1.trans h0.1, by have := hx2.2.2.2.2.2.1; omega⟩, hx2, hw2, h0.2⟩
        · rw [if_neg h0] at ep
          refine bad I2 A2 q3 f1 f2 (e5.trans hf) hP2.2.1 (by rw [ep]) (fun h => h0 ⟨hP2.2.2.2.1.symm.trans h.1, ?_⟩)
          have := hx2.2.2.2.2.2.1
          have := h.2
          omega
    · rw [pcs_flt hf] at ep
      have hr := flt_rg hf
      refine s_aload_n 57 dX12_reads_56 rfl rfl ?_
      refine s_V0b 60 dX12_reads_57 rfl km_X12_takesSemicolon ml_X12_178 ds_X12_takesSemicolon (Nat.le_of_ble_eq_true rfl) m_rec rfl (c_semiBad (by rw [e5]; exact hf) ?_)
      refine ⟨_, rfl, ?_⟩
      refine s_if_eqb 63 70 dX12_reads_60 rfl rfl (fun g => ?_) (fun g => ?_)
      rotate_left
      · exact absurd g (by decide)
      refine fin I2 A2 f1 f2 (by rw [ep]; exact e5) (fun e => ?_)
      rw [ep] at e
      exact absurd e hf
  have pie : ∀ (f q : Nat) (x : PS) (I2 : Nat → Int) (A2 : Nat → Int → Int), frI [3, 4, 5, 6, 7, 8, 9, 10, 11, 12, 13, 14] I I2 → frA [2] A A2 → q ≤ tp.length → tp.length < q + f → I2 5 = -1 → PP I2 tp q → PsM I2 A2 x → WfPs x → parF tp = pcs tp f q x → V G (AM G m0 F n u) yX12_reads cX12_reads 1 (some .int) (d + 7) (I2, A2, D) 63 [some (.ref m0)] [] post := by
    intro f
    induction f with
    | zero => intro q x I2 A2 _ _ _ h; omega
    | succ f ih =>
      intro q x I2 A2 f1 f2 hql hfu e5 hP2 hx2 hwx ep
      have ht2 : sg (A2 1) 0 tp := by rw [f2 1 (by decide)]; exact ht
      refine s_aload_n 64 dX12_reads_63 rfl rfl ?_
      refine s_V0v 67 dX12_reads_64 rfl km_X12_readsPiece ml_X12_175 ds_X12_readsPiece (Nat.le_of_ble_eq_true rfl) m_rec rfl (c_readsPiece e5 hP2 hx2 hwx ht2 hl hb (fun I3 A3 y1 y2 y3 y4 => ?_))
      refine ⟨rfl, ?_⟩
      refine s_goto 56 dX12_reads_67 rfl ?_
      exact aft f q x I3 A3 (f1.trans y1 (by decide)) (f2.trans y2 (by decide)) hwx y3 y4 ep hql (fun q' x' I4 z1 z2 z3 z4 z5 z6 z7 z8 => ih q' x' I4 A3 z3 (f2.trans y2 (by decide)) z2 (by omega) z4 z5 z6 z7 z8)
  have e51 : I1 5 = -1 := (k1 5 (by decide)).trans z5
  have hw0 : WfPs (ru0, 0, []) := ⟨by decide, by decide, by decide, by decide, by decide, by decide, fun c hc => absurd hc List.not_mem_nil, by decide⟩
  have f1 : frI [3, 4, 5, 6, 7, 8, 9, 10, 11, 12, 13, 14] I I1 := (f0.wk (by decide)).trans k1 (by decide)
  refine s_aload_n 53 dX12_reads_52 rfl rfl ?_
  refine s_V0v 56 dX12_reads_53 rfl km_X12_readsPiece ml_X12_175 ds_X12_readsPiece (Nat.le_of_ble_eq_true rfl) m_rec rfl (c_readsPiece e51 hP hx1 hw0 ht hl hb (fun I3 A3 y1 y2 y3 y4 => ?_))
  refine ⟨rfl, ?_⟩
  exact aft 399 (pB tp 0) (ru0, 0, []) I3 A3 (f1.trans y1 (by decide)) y2 hw0 y3 y4 rfl hq.2 (fun q' x' I4 z1 z2 z3 z4 z5 z6 z7 z8 => pie 399 q' x' I4 A3 z3 y2 z2 (by omega) z4 z5 z6 z7 z8)
theorem c_fault {tp : List Int} (h2 : I 2 = tp.length) (ht : sg (A 1) 0 tp) (hl : tp.length ≤ 300) (hb : byt tp) (hp : ∀ I' A', frI [0, 3, 4, 5, 6, 7, 8, 9, 10, 11, 12, 13, 14] I I' → frA [2] A A' → post (some (vi (parF tp).1)) (I', A', D)) : Cm G (AM G m0 F n u) yX12_fault cX12_fault 1 (some .int) (d + 8) [.ref m0] (I, A, D) post := by
  refine Cm_intro (L := [some (.ref m0)]) (by decide +kernel) (Nat.le_of_ble_eq_true rfl) rfl ?_
  refine s_aload_n 1 dX12_fault_0 rfl rfl ?_
  refine s_iconst 2 dX12_fault_1 rfl ?_
  refine m_putI 5 0 dX12_fault_2 rfl fl_X12_60 (by decide) rfl rfl rfl rfl ?_
  refine s_aload_n 6 dX12_fault_5 rfl rfl ?_
  refine s_V0i 9 dX12_fault_6 rfl km_X12_reads ml_X12_182 ds_X12_reads (Nat.le_of_ble_eq_true rfl) m_rec rfl (c_reads (I := up I 0 0) (by rw [up_n (by decide)]; exact h2) ht hl hb (fun I1 A1 k1 k2 k3 => ?_))
  refine ⟨_, rfl, ?_⟩
  refine s_ireturn rfl dX12_fault_9 ?_
  exact hp I1 A1 ((frI.rf.up (by decide)).trans k1 (by decide)) k2
end M21
