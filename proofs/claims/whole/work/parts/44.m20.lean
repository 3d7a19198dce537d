section M20
variable {G : GT} {m0 n u : Nat} {F : HS} {d : Nat} {I : Nat → Int} {A : Nat → Int → Int} {D : Int64} {post : Option Value → MT → Prop} {ru : RU}
/-- what the text has told so far, in the reference's fields -/
def PsM (I : Nat → Int) (A : Nat → Int → Int) (x : PS) : Prop := I 8 = x.1 0 ∧ I 9 = x.1 1 ∧ I 10 = x.1 2 ∧ I 11 = x.1 3 ∧ I 12 = x.1 4 ∧ I 13 = x.2.2.length ∧ I 14 = x.2.1 ∧ sg (A 2) 0 x.2.2
/-- what a text's state keeps to -/
def WfPs (x : PS) : Prop := (0 ≤ x.1 0 ∧ x.1 0 ≤ 2) ∧ (2 ≤ x.1 1 ∧ x.1 1 ≤ 60) ∧ (1 ≤ x.1 2 ∧ x.1 2 ≤ 30) ∧ (0 ≤ x.1 3 ∧ x.1 3 ≤ 2) ∧ (1 ≤ x.1 4 ∧ x.1 4 ≤ 60) ∧ x.2.2.length ≤ 4 ∧ (∀ c ∈ x.2.2, 1 ≤ c ∧ c ≤ 8) ∧ (0 ≤ x.2.1 ∧ x.2.1 ≤ 31)
theorem oneF_rg (tp : List Int) (q : Nat) (a b c : List Int) : oneF tp q a b c = -1 ∨ (0 ≤ oneF tp q a b c ∧ oneF tp q a b c ≤ 2) := by
  unfold oneF
  split
  · omega
  · split
    · omega
    · split <;> omega
theorem numF_rg {tp : List Int} {q : Nat} {lo hi : Int} : numF tp q lo hi = -1 ∨ (lo ≤ numF tp q lo hi ∧ numF tp q lo hi ≤ hi) := by
  unfold numF
  split
  · rename_i h; exact Or.inr h.2
  · exact Or.inl rfl
theorem bit_add : ∀ ss : Nat, ss < 32 → ∀ s : Nat, s < 5 → ss / 2 ^ s % 2 = 0 → ss + 2 ^ s < 32 := by decide +kernel
theorem srt_rg (tp : List Int) (q : Nat) : srt tp q = -1 ∨ (0 ≤ srt tp q ∧ srt tp q ≤ 5) := by
  unfold srt
  split
  · omega
  · split
    · omega
    · split
      · omega
      · split
        · omega
        · split
          · omega
          · split <;> omega
theorem tellF_wf {tp : List Int} {q : Nat} {x : PS} {so : Int} (hx : WfPs x) (hs : 0 ≤ so ∧ so ≤ 5) (hm : mayF x so) (hv : valF tp q so ≠ -1) : WfPs (tellF x so (valF tp q so)) := by
  obtain ⟨a0, a1, a2, a3, a4, a5, a6, a7⟩ := hx
  have hb : so ≠ 5 → 0 ≤ x.2.1 + p2 so ∧ x.2.1 + p2 so ≤ 31 := by
    intro h5
    obtain ⟨s, rfl⟩ := Int.eq_ofNat_of_zero_le hs.1
    obtain ⟨ss, hss⟩ := Int.eq_ofNat_of_zero_le a7.1
    rcases hm with ⟨h, -⟩ | ⟨-, h⟩
    · exact absurd h h5
    · rw [p2_pow s (by omega), hss] at h
      have h1 : ss / 2 ^ s % 2 = 0 := by exact_mod_cast h
      have h2 := bit_add ss (by omega) s (by omega) h1
      rw [p2_pow s (by omega), hss]
      constructor
      · exact_mod_cast Nat.zero_le _
      · have : ((ss + 2 ^ s : Nat) : Int) ≤ 31 := by omega
        exact_mod_cast this
  unfold tellF
  have hc : so = 0 ∨ so = 1 ∨ so = 2 ∨ so = 3 ∨ so = 4 ∨ so = 5 := by omega
  rcases hc with rfl | rfl | rfl | rfl | rfl | rfl
  · rw [if_neg (by decide)]
    have hv2 : valF tp q 0 = oneF tp q wPlain wPairs wReduced := rfl
    rw [hv2] at hv ⊢
    have hr := oneF_rg tp q wPlain wPairs wReduced
    exact ⟨(show 0 ≤ oneF tp q wPlain wPairs wReduced ∧ oneF tp q wPlain wPairs wReduced ≤ 2 by omega), a1, a2, a3, a4, a5, a6, hb (by decide)⟩
  · rw [if_neg (by decide)]
    have hv2 : valF tp q 1 = numF tp q 2 60 := rfl
    rw [hv2] at hv ⊢
    have hr := numF_rg (tp := tp) (q := q) (lo := 2) (hi := 60)
    exact ⟨a0, (show 2 ≤ numF tp q 2 60 ∧ numF tp q 2 60 ≤ 60 by omega), a2, a3, a4, a5, a6, hb (by decide)⟩
  · rw [if_neg (by decide)]
    have hv2 : valF tp q 2 = numF tp q 1 30 := rfl
    rw [hv2] at hv ⊢
    have hr := numF_rg (tp := tp) (q := q) (lo := 1) (hi := 30)
    exact ⟨a0, a1, (show 1 ≤ numF tp q 1 30 ∧ numF tp q 1 30 ≤ 30 by omega), a3, a4, a5, a6, hb (by decide)⟩
  · rw [if_neg (by decide)]
    have hv2 : valF tp q 3 = oneF tp q wNone wSum wCrc := rfl
    rw [hv2] at hv ⊢
    have hr := oneF_rg tp q wNone wSum wCrc
    exact ⟨a0, a1, a2, (show 0 ≤ oneF tp q wNone wSum wCrc ∧ oneF tp q wNone wSum wCrc ≤ 2 by omega), a4, a5, a6, hb (by decide)⟩
  · rw [if_neg (by decide)]
    have hv2 : valF tp q 4 = numF tp q 1 60 := rfl
    rw [hv2] at hv ⊢
    have hr := numF_rg (tp := tp) (q := q) (lo := 1) (hi := 60)
    exact ⟨a0, a1, a2, a3, (show 1 ≤ numF tp q 1 60 ∧ numF tp q 1 60 ≤ 60 by omega), a5, a6, hb (by decide)⟩
  · rw [if_pos rfl]
    have hv2 : valF tp q 5 = numF tp q 1 8 := rfl
    rw [hv2] at hv ⊢
    have hr := numF_rg (tp := tp) (q := q) (lo := 1) (hi := 8)
    have hl : x.2.2.length < 4 := by
      rcases hm with ⟨-, h⟩ | ⟨h, -⟩
      · exact h
      · exact absurd rfl h
    refine ⟨a0, a1, a2, a3, a4, by show (x.2.2 ++ [_]).length ≤ 4; rw [List.length_append, List.length_singleton]; omega, fun c hc => ?_, a7⟩
    rcases List.mem_append.mp hc with h | h
    · exact a6 c h
    · rw [List.mem_singleton.mp h]; omega
/-- where a piece is wrong; -1: nowhere -/
def fltF (tp : List Int) (q : Nat) (x : PS) : Int := if srt tp q = -1 ∨ ¬ mayF x (srt tp q) then (q : Int) else if valF tp (pB tp (pE tp q)) (srt tp q) = -1 then ((pB tp (pE tp q) : Nat) : Int) else -1
theorem c_readsPiece {tp : List Int} {q : Nat} {x : PS} (h5 : I 5 = -1) (hP : PP I tp q) (hx : PsM I A x) (hwx : WfPs x) (ht : sg (A 1) 0 tp) (hl : tp.length ≤ 300) (hb : byt tp) (hp : ∀ I' A', frI [3, 4, 5, 6, 7, 8, 9, 10, 11, 12, 13, 14] I I' → frA [2] A A' → I' 5 = fltF tp q x → (fltF tp q x = -1 → PP I' tp (pB tp (pE tp (pB tp (pE tp q)))) ∧ PsM I' A' (tellF x (srt tp q) (valF tp (pB tp (pE tp q)) (srt tp q)))) → post none (I', A', D)) : Cm G (AM G m0 F n u) yX12_readsPiece cX12_readsPiece 1 none (d + 6) [.ref m0] (I, A, D) post := by
  refine Cm_intro (L := [some (.ref m0)]) (by decide +kernel) (Nat.le_of_ble_eq_true rfl) rfl ?_
  have hP0 := hP
  obtain ⟨h2, h4, h3, h6, h7, hq⟩ := hP0
  have hE := pE_le hq
  have hq2 := pB_le hE.2.1
  have hE2 := pE_le hq2.2
  obtain ⟨x0, x1, x2, x3, x4, x5, x6, x7⟩ := hx
  obtain ⟨-, -, -, -, -, w5, w6, w7⟩ := hwx
  -- it is wrong: the ways to the end
  have b231 : ∀ I1, frI [14] I I1 → fltF tp q x = q → V G (AM G m0 F n u) yX12_readsPiece cX12_readsPiece 1 none (d + 6) (I1, A, D) 231 [some (.ref m0)] [] post := by
    intro I1 f1 hf
    refine s_aload_n 232 dX12_readsPiece_231 rfl rfl ?_
    refine s_V0v 235 dX12_readsPiece_232 rfl km_X12_bad ml_X12_118 ds_X12_bad (Nat.le_of_ble_eq_true rfl) m_rec rfl (c_bad ?_)
    refine ⟨rfl, ?_⟩
    refine s_return rfl dX12_readsPiece_235 ?_
    refine hp _ A ((f1.wk (by decide)).up (by decide)) frA.rf ?_ (fun e => absurd (hf.symm.trans e) (by omega))
    rw [up_s, hf, f1 5 (by decide), if_pos h5, f1 4 (by decide), h4]
  have t0 : txt "way" = wWay := by decide +kernel
  have t1 : txt "longest" = wLongest := by decide +kernel
  have t2 : txt "pairs" = wPairs := by decide +kernel
  have t3 : txt "check" = wCheck := by decide +kernel
  have t4 : txt "size" = wSize := by decide +kernel
  have t5 : txt "channel" = wChannel := by decide +kernel
  have tpl : txt "plain" = wPlain := by decide +kernel
  have tre : txt "reduced" = wReduced := by decide +kernel
  have tno : txt "none" = wNone := by decide +kernel
  have tsu : txt "sum" = wSum := by decide +kernel
  have tcr : txt "crc" = wCrc := by decide +kernel
  have b181 : ∀ I1, frI [14] I I1 → fltF tp q x = q → ¬ isW tp q wChannel → V G (AM G m0 F n u) yX12_readsPiece cX12_readsPiece 1 none (d + 6) (I1, A, D) 181 [some (.ref m0)] [] post := by
    intro I1 f1 hf hn
    refine s_aload_n 182 dX12_readsPiece_181 rfl rfl ?_
    refine s_ldcS 184 23 dX12_readsPiece_182 rfl rfl rfl rfl ?_
    refine s_V1b 187 dX12_readsPiece_184 rfl km_X12_isWord ml_X12_124 ds_X12_isWord (Nat.le_of_ble_eq_true rfl) m_rec rfl (c_isWord (r := (RX12, 170, "channel")) rfl (hP.fr f1 (by decide)) ht hl hb ?_)
    refine ⟨_, rfl, ?_⟩
    refine s_if_eqb 190 231 dX12_readsPiece_187 rfl rfl (fun g => ?_) (fun g => ?_)
    · exact b231 I1 f1 hf
    · exact absurd (of_decide_eq_true g).2 (by rw [t5]; exact hn)
  have b146 : ∀ I1, frI [14] I I1 → fltF tp q x = q → ¬ isW tp q wSize ∧ ¬ isW tp q wChannel → V G (AM G m0 F n u) yX12_readsPiece cX12_readsPiece 1 none (d + 6) (I1, A, D) 146 [some (.ref m0)] [] post := by
    intro I1 f1 hf hn
    refine s_aload_n 147 dX12_readsPiece_146 rfl rfl ?_
    refine s_ldcS 149 22 dX12_readsPiece_147 rfl rfl rfl rfl ?_
    refine s_V1b 152 dX12_readsPiece_149 rfl km_X12_isWord ml_X12_124 ds_X12_isWord (Nat.le_of_ble_eq_true rfl) m_rec rfl (c_isWord (r := (RX12, 165, "size")) rfl (hP.fr f1 (by decide)) ht hl hb ?_)
    refine ⟨_, rfl, ?_⟩
    refine s_if_eqb 155 181 dX12_readsPiece_152 rfl rfl (fun g => ?_) (fun g => ?_)
    · exact b181 I1 f1 hf hn.2
    · exact absurd (of_decide_eq_true g).2 (by rw [t4]; exact hn.1)
  have b108 : ∀ I1, frI [14] I I1 → fltF tp q x = q → ¬ isW tp q wCheck ∧ ¬ isW tp q wSize ∧ ¬ isW tp q wChannel → V G (AM G m0 F n u) yX12_readsPiece cX12_readsPiece 1 none (d + 6) (I1, A, D) 108 [some (.ref m0)] [] post := by
    intro I1 f1 hf hn
    refine s_aload_n 109 dX12_readsPiece_108 rfl rfl ?_
    refine s_ldcS 111 18 dX12_readsPiece_109 rfl rfl rfl rfl ?_
    refine s_V1b 114 dX12_readsPiece_111 rfl km_X12_isWord ml_X12_124 ds_X12_isWord (Nat.le_of_ble_eq_true rfl) m_rec rfl (c_isWord (r := (RX12, 154, "check")) rfl (hP.fr f1 (by decide)) ht hl hb ?_)
    refine ⟨_, rfl, ?_⟩
    refine s_if_eqb 117 146 dX12_readsPiece_114 rfl rfl (fun g => ?_) (fun g => ?_)
    · exact b146 I1 f1 hf hn.2
    · exact absurd (of_decide_eq_true g).2 (by rw [t3]; exact hn.1)
  have b73 : ∀ I1, frI [14] I I1 → fltF tp q x = q → ¬ isW tp q wPairs ∧ ¬ isW tp q wCheck ∧ ¬ isW tp q wSize ∧ ¬ isW tp q wChannel → V G (AM G m0 F n u) yX12_readsPiece cX12_readsPiece 1 none (d + 6) (I1, A, D) 73 [some (.ref m0)] [] post := by
    intro I1 f1 hf hn
    refine s_aload_n 74 dX12_readsPiece_73 rfl rfl ?_
    refine s_ldcS 76 15 dX12_readsPiece_74 rfl rfl rfl rfl ?_
    refine s_V1b 79 dX12_readsPiece_76 rfl km_X12_isWord ml_X12_124 ds_X12_isWord (Nat.le_of_ble_eq_true rfl) m_rec rfl (c_isWord (r := (RX12, 134, "pairs")) rfl (hP.fr f1 (by decide)) ht hl hb ?_)
    refine ⟨_, rfl, ?_⟩
    refine s_if_eqb 82 108 dX12_readsPiece_79 rfl rfl (fun g => ?_) (fun g => ?_)
    · exact b108 I1 f1 hf hn.2
    · exact absurd (of_decide_eq_true g).2 (by rw [t2]; exact hn.1)
  have b38 : ∀ I1, frI [14] I I1 → fltF tp q x = q → ¬ isW tp q wLongest ∧ ¬ isW tp q wPairs ∧ ¬ isW tp q wCheck ∧ ¬ isW tp q wSize ∧ ¬ isW tp q wChannel → V G (AM G m0 F n u) yX12_readsPiece cX12_readsPiece 1 none (d + 6) (I1, A, D) 38 [some (.ref m0)] [] post := by
    intro I1 f1 hf hn
    refine s_aload_n 39 dX12_readsPiece_38 rfl rfl ?_
    refine s_ldcS 41 17 dX12_readsPiece_39 rfl rfl rfl rfl ?_
    refine s_V1b 44 dX12_readsPiece_41 rfl km_X12_isWord ml_X12_124 ds_X12_isWord (Nat.le_of_ble_eq_true rfl) m_rec rfl (c_isWord (r := (RX12, 144, "longest")) rfl (hP.fr f1 (by decide)) ht hl hb ?_)
    refine ⟨_, rfl, ?_⟩
    refine s_if_eqb 47 73 dX12_readsPiece_44 rfl rfl (fun g => ?_) (fun g => ?_)
    · exact b73 I1 f1 hf hn.2
    · exact absurd (of_decide_eq_true g).2 (by rw [t1]; exact hn.1)
  have hne : ∀ w w', isW tp q w → w ≠ w' → ¬ isW tp q w' := fun w w' h hw h' => hw (h.2.symm.trans h'.2)
  refine s_aload_n 1 dX12_readsPiece_0 rfl rfl ?_
  refine s_ldcS 3 13 dX12_readsPiece_1 rfl rfl rfl rfl ?_
  refine s_V1b 6 dX12_readsPiece_3 rfl km_X12_isWord ml_X12_124 ds_X12_isWord (Nat.le_of_ble_eq_true rfl) m_rec rfl (c_isWord (r := (RX12, 128, "way")) rfl hP ht hl hb ?_)
  refine ⟨_, rfl, ?_⟩
  refine s_if_eqb 9 38 dX12_readsPiece_6 rfl rfl (fun g0 => ?_) (fun g0 => ?_)
  rotate_left
  · have y0 : isW tp q wWay := by rw [← t0]; exact (of_decide_eq_true g0).2
    have es : srt tp q = 0 := by unfold srt; rw [if_pos y0]
    refine s_aload_n 10 dX12_readsPiece_9 rfl rfl ?_
    refine s_iconst 11 dX12_readsPiece_10 rfl ?_
    refine s_V1b 14 dX12_readsPiece_11 rfl km_X12_isNew ml_X12_130 ds_X12_isNew (Nat.le_of_ble_eq_true rfl) m_rec rfl (c_isNew (s := 0) (by decide) (by rw [x6]; exact w7) ?_)
    refine ⟨_, rfl, ?_⟩
    refine s_if_eqb 17 38 dX12_readsPiece_14 rfl rfl (fun gn => ?_) (fun gn => ?_)
    · have gn := of_decide_eq_false gn
      refine b38 _ (frI.rf.up (by decide)) ?_ ⟨hne _ _ y0 (by decide), hne _ _ y0 (by decide), hne _ _ y0 (by decide), hne _ _ y0 (by decide), hne _ _ y0 (by decide)⟩
      unfold fltF
      rw [es, if_pos (Or.inr ?_)]
      rintro (⟨h, -⟩ | ⟨-, h⟩)
      · exact absurd h (by decide)
      · exact gn (by rw [x6]; exact h)
    have gn := of_decide_eq_true gn
    have hmay : mayF x 0 := Or.inr ⟨by decide, by rw [x6] at gn; exact gn⟩
    have efl : fltF tp q x = if valF tp (pB tp (pE tp q)) 0 = -1 then ((pB tp (pE tp q) : Nat) : Int) else -1 := by
      unfold fltF
      rw [es, if_neg (fun h => h.elim (fun h => absurd h (by decide)) (fun h => h hmay))]
    rw [if_pos gn]
    have i1 : ∀ j, j ≠ 14 → up I 14 (I 14 + p2 ((0 : Nat) : Int)) j = I j := fun j hj => up_n hj
    refine s_aload_n 18 dX12_readsPiece_17 rfl rfl ?_
    refine s_V0v 21 dX12_readsPiece_18 rfl km_X12_next ml_X12_115 ds_X12_next (Nat.le_of_ble_eq_true rfl) m_rec rfl (c_next (tp := tp) (p := pE tp q) ((i1 2 (by decide)).trans h2) ((i1 3 (by decide)).trans h3) ht hl hb hE.2.1 (fun I2 k1 k2 k3 k4 k5 => ?_))
    refine ⟨rfl, ?_⟩
    have hP2 : PP I2 tp (pB tp (pE tp q)) := ⟨(k1 2 (by decide)).trans ((i1 2 (by decide)).trans h2), k2, k4, k3, k5, hq2.2⟩
    have e5 : I2 5 = -1 := (k1 5 (by decide)).trans ((i1 5 (by decide)).trans h5)
    have e14 : I2 14 = x.2.1 + p2 0 := by rw [k1 14 (by decide), up_s, x6]; rfl
    have f2 : frI [3, 4, 6, 7, 14] I I2 := (frI.rf.up (v := I 14 + p2 ((0 : Nat) : Int)) (k := 14) (by decide)).trans k1 (by decide)
    refine s_aload_n 22 dX12_readsPiece_21 rfl rfl ?_
    refine s_aload_n 23 dX12_readsPiece_22 rfl rfl ?_
    refine s_ldcS 25 14 dX12_readsPiece_23 rfl rfl rfl rfl ?_
    refine s_ldcS 27 15 dX12_readsPiece_25 rfl rfl rfl rfl ?_
    refine s_ldcS 29 16 dX12_readsPiece_27 rfl rfl rfl rfl ?_
    refine s_V3i 32 dX12_readsPiece_29 rfl km_X12_takesOne ml_X12_137 ds_X12_takesOne (Nat.le_of_ble_eq_true rfl) m_rec rfl (c_takesOne (r1 := (RX12, 133, "plain")) (r2 := (RX12, 134, "pairs")) (r3 := (RX12, 135, "reduced")) tpl t2 tre rfl rfl rfl e5 hP2 ht hl hb (fun hv I3 f3 hP3 => ?_) (fun hv => ?_))
    refine ⟨_, rfl, ?_⟩
    · have hr := oneF_rg tp (pB tp (pE tp q)) wPlain wPairs wReduced
      refine m_putI 35 8 dX12_readsPiece_32 rfl fl_X12_141 (by decide) rfl rfl rfl rfl ?_
      refine s_goto 235 dX12_readsPiece_35 rfl ?_
      refine s_return rfl dX12_readsPiece_235 ?_
      have e1 : fltF tp q x = -1 := by rw [efl, if_neg (show ¬ valF tp (pB tp (pE tp q)) 0 = -1 from hv)]
      have f3' : frI [3, 4, 6, 7, 14] I I3 := f2.trans f3 (by decide)
      refine hp _ A ((f3'.wk (by decide)).up (by decide)) frA.rf ?_ (fun _ => ⟨hP3.fr (frI.rf.up (k := 8) (ks := [8]) (by decide)) (by decide), ?_⟩)
      · rw [up_n (by decide), e1]
        exact (f3 5 (by decide)).trans e5
      · rw [es, show tellF x 0 (valF tp (pB tp (pE tp q)) 0) = (up x.1 0 (oneF tp (pB tp (pE tp q)) wPlain wPairs wReduced), x.2.1 + p2 0, x.2.2) from rfl]
        refine ⟨?_, ?_, ?_, ?_, ?_, ?_, ?_, x7⟩
        · show up I3 8 (oneF tp (pB tp (pE tp q)) wPlain wPairs wReduced) 8 = up x.1 0 (oneF tp (pB tp (pE tp q)) wPlain wPairs wReduced) 0; rw [up_s, up_s]
        · show up I3 8 (oneF tp (pB tp (pE tp q)) wPlain wPairs wReduced) 9 = up x.1 0 (oneF tp (pB tp (pE tp q)) wPlain wPairs wReduced) 1; rw [up_n (by decide), up_n (by decide)]; exact (f3' 9 (by decide)).trans x1
        · show up I3 8 (oneF tp (pB tp (pE tp q)) wPlain wPairs wReduced) 10 = up x.1 0 (oneF tp (pB tp (pE tp q)) wPlain wPairs wReduced) 2; rw [up_n (by decide), up_n (by decide)]; exact (f3' 10 (by decide)).trans x2
        · show up I3 8 (oneF tp (pB tp (pE tp q)) wPlain wPairs wReduced) 11 = up x.1 0 (oneF tp (pB tp (pE tp q)) wPlain wPairs wReduced) 3; rw [up_n (by decide), up_n (by decide)]; exact (f3' 11 (by decide)).trans x3
        · show up I3 8 (oneF tp (pB tp (pE tp q)) wPlain wPairs wReduced) 12 = up x.1 0 (oneF tp (pB tp (pE tp q)) wPlain wPairs wReduced) 4; rw [up_n (by decide), up_n (by decide)]; exact (f3' 12 (by decide)).trans x4
        · rw [up_n (by decide)]; exact (f3' 13 (by decide)).trans x5
        · rw [up_n (by decide)]; exact (f3 14 (by decide)).trans e14
    · refine ⟨_, rfl, ?_⟩
      refine m_putI 35 8 dX12_readsPiece_32 rfl fl_X12_141 (by decide) rfl rfl rfl rfl ?_
      refine s_goto 235 dX12_readsPiece_35 rfl ?_
      refine s_return rfl dX12_readsPiece_235 ?_
      have e1 : fltF tp q x = ((pB tp (pE tp q) : Nat) : Int) := by rw [efl, if_pos (show valF tp (pB tp (pE tp q)) 0 = -1 from hv)]
      refine hp _ A (((f2.wk (by decide)).up (by decide)).up (by decide)) frA.rf ?_ (fun e => absurd (e1.symm.trans e) (by omega))
      rw [up_n (by decide), up_s, e1]
  have n0 : ¬ isW tp q wWay := fun h => of_decide_eq_false g0 ⟨h5, by rw [t0]; exact h⟩
  refine s_aload_n 39 dX12_readsPiece_38 rfl rfl ?_
  refine s_ldcS 41 17 dX12_readsPiece_39 rfl rfl rfl rfl ?_
  refine s_V1b 44 dX12_readsPiece_41 rfl km_X12_isWord ml_X12_124 ds_X12_isWord (Nat.le_of_ble_eq_true rfl) m_rec rfl (c_isWord (r := (RX12, 144, "longest")) rfl hP ht hl hb ?_)
  refine ⟨_, rfl, ?_⟩
  refine s_if_eqb 47 73 dX12_readsPiece_44 rfl rfl (fun g1 => ?_) (fun g1 => ?_)
  rotate_left
  · have y1 : isW tp q wLongest := by rw [← t1]; exact (of_decide_eq_true g1).2
    have es : srt tp q = 1 := by unfold srt; rw [if_neg n0, if_pos y1]
    refine s_aload_n 48 dX12_readsPiece_47 rfl rfl ?_
    refine s_iconst 49 dX12_readsPiece_48 rfl ?_
    refine s_V1b 52 dX12_readsPiece_49 rfl km_X12_isNew ml_X12_130 ds_X12_isNew (Nat.le_of_ble_eq_true rfl) m_rec rfl (c_isNew (s := 1) (by decide) (by rw [x6]; exact w7) ?_)
    refine ⟨_, rfl, ?_⟩
    refine s_if_eqb 55 73 dX12_readsPiece_52 rfl rfl (fun gn => ?_) (fun gn => ?_)
    · have gn := of_decide_eq_false gn
      refine b73 _ (frI.rf.up (by decide)) ?_ ⟨hne _ _ y1 (by decide), hne _ _ y1 (by decide), hne _ _ y1 (by decide), hne _ _ y1 (by decide)⟩
      unfold fltF
      rw [es, if_pos (Or.inr ?_)]
      rintro (⟨h, -⟩ | ⟨-, h⟩)
      · exact absurd h (by decide)
      · exact gn (by rw [x6]; exact h)
    have gn := of_decide_eq_true gn
    have hmay : mayF x 1 := Or.inr ⟨by decide, by rw [x6] at gn; exact gn⟩
    have efl : fltF tp q x = if valF tp (pB tp (pE tp q)) 1 = -1 then ((pB tp (pE tp q) : Nat) : Int) else -1 := by
      unfold fltF
      rw [es, if_neg (fun h => h.elim (fun h => absurd h (by decide)) (fun h => h hmay))]
    rw [if_pos gn]
    have i1 : ∀ j, j ≠ 14 → up I 14 (I 14 + p2 ((1 : Nat) : Int)) j = I j := fun j hj => up_n hj
    refine s_aload_n 56 dX12_readsPiece_55 rfl rfl ?_
    refine s_V0v 59 dX12_readsPiece_56 rfl km_X12_next ml_X12_115 ds_X12_next (Nat.le_of_ble_eq_true rfl) m_rec rfl (c_next (tp := tp) (p := pE tp q) ((i1 2 (by decide)).trans h2) ((i1 3 (by decide)).trans h3) ht hl hb hE.2.1 (fun I2 k1 k2 k3 k4 k5 => ?_))
    refine ⟨rfl, ?_⟩
    have hP2 : PP I2 tp (pB tp (pE tp q)) := ⟨(k1 2 (by decide)).trans ((i1 2 (by decide)).trans h2), k2, k4, k3, k5, hq2.2⟩
    have e5 : I2 5 = -1 := (k1 5 (by decide)).trans ((i1 5 (by decide)).trans h5)
    have e14 : I2 14 = x.2.1 + p2 1 := by rw [k1 14 (by decide), up_s, x6]; rfl
    have f2 : frI [3, 4, 6, 7, 14] I I2 := (frI.rf.up (v := I 14 + p2 ((1 : Nat) : Int)) (k := 14) (by decide)).trans k1 (by decide)
    refine s_aload_n 60 dX12_readsPiece_59 rfl rfl ?_
    refine s_aload_n 61 dX12_readsPiece_60 rfl rfl ?_
    refine s_iconst 62 dX12_readsPiece_61 rfl ?_
    refine s_bipush 64 dX12_readsPiece_62 rfl (k := ?_)
    refine s_V2i 67 dX12_readsPiece_64 rfl km_X12_takesNumber ml_X12_145 ds_X12_takesNumber (Nat.le_of_ble_eq_true rfl) m_rec rfl (c_takesNumber (by omega) e5 hP2 ht hl hb (fun hv I3 f3 hP3 => ?_) (fun hv => ?_))
    refine ⟨_, rfl, ?_⟩
    · have hr := numF_rg (tp := tp) (q := pB tp (pE tp q)) (lo := 2) (hi := 60)
      refine m_putI 70 9 dX12_readsPiece_67 rfl fl_X12_148 (by decide) rfl rfl rfl rfl ?_
      refine s_goto 235 dX12_readsPiece_70 rfl ?_
      refine s_return rfl dX12_readsPiece_235 ?_
      have e1 : fltF tp q x = -1 := by rw [efl, if_neg (show ¬ valF tp (pB tp (pE tp q)) 1 = -1 from hv)]
      have f3' : frI [3, 4, 6, 7, 14] I I3 := f2.trans f3 (by decide)
      refine hp _ A ((f3'.wk (by decide)).up (by decide)) frA.rf ?_ (fun _ => ⟨hP3.fr (frI.rf.up (k := 9) (ks := [9]) (by decide)) (by decide), ?_⟩)
      · rw [up_n (by decide), e1]
        exact (f3 5 (by decide)).trans e5
      · rw [es, show tellF x 1 (valF tp (pB tp (pE tp q)) 1) = (up x.1 1 (numF tp (pB tp (pE tp q)) 2 60), x.2.1 + p2 1, x.2.2) from rfl]
        refine ⟨?_, ?_, ?_, ?_, ?_, ?_, ?_, x7⟩
        · show up I3 9 (numF tp (pB tp (pE tp q)) 2 60) 8 = up x.1 1 (numF tp (pB tp (pE tp q)) 2 60) 0; rw [up_n (by decide), up_n (by decide)]; exact (f3' 8 (by decide)).trans x0
        · show up I3 9 (numF tp (pB tp (pE tp q)) 2 60) 9 = up x.1 1 (numF tp (pB tp (pE tp q)) 2 60) 1; rw [up_s, up_s]
        · show up I3 9 (numF tp (pB tp (pE tp q)) 2 60) 10 = up x.1 1 (numF tp (pB tp (pE tp q)) 2 60) 2; rw [up_n (by decide), up_n (by decide)]; exact (f3' 10 (by decide)).trans x2
        · show up I3 9 (numF tp (pB tp (pE tp q)) 2 60) 11 = up x.1 1 (numF tp (pB tp (pE tp q)) 2 60) 3; rw [up_n (by decide), up_n (by decide)]; exact (f3' 11 (by decide)).trans x3
        · show up I3 9 (numF tp (pB tp (pE tp q)) 2 60) 12 = up x.1 1 (numF tp (pB tp (pE tp q)) 2 60) 4; rw [up_n (by decide), up_n (by decide)]; exact (f3' 12 (by decide)).trans x4
        · rw [up_n (by decide)]; exact (f3' 13 (by decide)).trans x5
        · rw [up_n (by decide)]; exact (f3 14 (by decide)).trans e14
    · refine ⟨_, rfl, ?_⟩
      refine m_putI 70 9 dX12_readsPiece_67 rfl fl_X12_148 (by decide) rfl rfl rfl rfl ?_
      refine s_goto 235 dX12_readsPiece_70 rfl ?_
      refine s_return rfl dX12_readsPiece_235 ?_
      have e1 : fltF tp q x = ((pB tp (pE tp q) : Nat) : Int) := by rw [efl, if_pos (show valF tp (pB tp (pE tp q)) 1 = -1 from hv)]
      refine hp _ A (((f2.wk (by decide)).up (by decide)).up (by decide)) frA.rf ?_ (fun e => absurd (e1.symm.trans e) (by omega))
      rw [up_n (by decide), up_s, e1]
  have n1 : ¬ isW tp q wLongest := fun h => of_decide_eq_false g1 ⟨h5, by rw [t1]; exact h⟩
  refine s_aload_n 74 dX12_readsPiece_73 rfl rfl ?_
  refine s_ldcS 76 15 dX12_readsPiece_74 rfl rfl rfl rfl ?_
  refine s_V1b 79 dX12_readsPiece_76 rfl km_X12_isWord ml_X12_124 ds_X12_isWord (Nat.le_of_ble_eq_true rfl) m_rec rfl (c_isWord (r := (RX12, 134, "pairs")) rfl hP ht hl hb ?_)
  refine ⟨_, rfl, ?_⟩
  refine s_if_eqb 82 108 dX12_readsPiece_79 rfl rfl (fun g2 => ?_) (fun g2 => ?_)
  rotate_left
  · have y2 : isW tp q wPairs := by rw [← t2]; exact (of_decide_eq_true g2).2
    have es : srt tp q = 2 := by unfold srt; rw [if_neg n0, if_neg n1, if_pos y2]
    refine s_aload_n 83 dX12_readsPiece_82 rfl rfl ?_
    refine s_iconst 84 dX12_readsPiece_83 rfl ?_
    refine s_V1b 87 dX12_readsPiece_84 rfl km_X12_isNew ml_X12_130 ds_X12_isNew (Nat.le_of_ble_eq_true rfl) m_rec rfl (c_isNew (s := 2) (by decide) (by rw [x6]; exact w7) ?_)
    refine ⟨_, rfl, ?_⟩
    refine s_if_eqb 90 108 dX12_readsPiece_87 rfl rfl (fun gn => ?_) (fun gn => ?_)
    · have gn := of_decide_eq_false gn
      refine b108 _ (frI.rf.up (by decide)) ?_ ⟨hne _ _ y2 (by decide), hne _ _ y2 (by decide), hne _ _ y2 (by decide)⟩
      unfold fltF
      rw [es, if_pos (Or.inr ?_)]
      rintro (⟨h, -⟩ | ⟨-, h⟩)
      · exact absurd h (by decide)
      · exact gn (by rw [x6]; exact h)
    have gn := of_decide_eq_true gn
    have hmay : mayF x 2 := Or.inr ⟨by decide, by rw [x6] at gn; exact gn⟩
    have efl : fltF tp q x = if valF tp (pB tp (pE tp q)) 2 = -1 then ((pB tp (pE tp q) : Nat) : Int) else -1 := by
      unfold fltF
      rw [es, if_neg (fun h => h.elim (fun h => absurd h (by decide)) (fun h => h hmay))]
    rw [if_pos gn]
    have i1 : ∀ j, j ≠ 14 → up I 14 (I 14 + p2 ((2 : Nat) : Int)) j = I j := fun j hj => up_n hj
    refine s_aload_n 91 dX12_readsPiece_90 rfl rfl ?_
    refine s_V0v 94 dX12_readsPiece_91 rfl km_X12_next ml_X12_115 ds_X12_next (Nat.le_of_ble_eq_true rfl) m_rec rfl (c_next (tp := tp) (p := pE tp q) ((i1 2 (by decide)).trans h2) ((i1 3 (by decide)).trans h3) ht hl hb hE.2.1 (fun I2 k1 k2 k3 k4 k5 => ?_))
    refine ⟨rfl, ?_⟩
    have hP2 : PP I2 tp (pB tp (pE tp q)) := ⟨(k1 2 (by decide)).trans ((i1 2 (by decide)).trans h2), k2, k4, k3, k5, hq2.2⟩
    have e5 : I2 5 = -1 := (k1 5 (by decide)).trans ((i1 5 (by decide)).trans h5)
    have e14 : I2 14 = x.2.1 + p2 2 := by rw [k1 14 (by decide), up_s, x6]; rfl
    have f2 : frI [3, 4, 6, 7, 14] I I2 := (frI.rf.up (v := I 14 + p2 ((2 : Nat) : Int)) (k := 14) (by decide)).trans k1 (by decide)
    refine s_aload_n 95 dX12_readsPiece_94 rfl rfl ?_
    refine s_aload_n 96 dX12_readsPiece_95 rfl rfl ?_
    refine s_iconst 97 dX12_readsPiece_96 rfl ?_
    refine s_bipush 99 dX12_readsPiece_97 rfl (k := ?_)
    refine s_V2i 102 dX12_readsPiece_99 rfl km_X12_takesNumber ml_X12_145 ds_X12_takesNumber (Nat.le_of_ble_eq_true rfl) m_rec rfl (c_takesNumber (by omega) e5 hP2 ht hl hb (fun hv I3 f3 hP3 => ?_) (fun hv => ?_))
    refine ⟨_, rfl, ?_⟩
    · have hr := numF_rg (tp := tp) (q := pB tp (pE tp q)) (lo := 1) (hi := 30)
      refine m_putI 105 10 dX12_readsPiece_102 rfl fl_X12_151 (by decide) rfl rfl rfl rfl ?_
      refine s_goto 235 dX12_readsPiece_105 rfl ?_
      refine s_return rfl dX12_readsPiece_235 ?_
      have e1 : fltF tp q x = -1 := by rw [efl, if_neg (show ¬ valF tp (pB tp (pE tp q)) 2 = -1 from hv)]
      have f3' : frI [3, 4, 6, 7, 14] I I3 := f2.trans f3 (by decide)
      refine hp _ A ((f3'.wk (by decide)).up (by decide)) frA.rf ?_ (fun _ => ⟨hP3.fr (frI.rf.up (k := 10) (ks := [10]) (by decide)) (by decide), ?_⟩)
      · rw [up_n (by decide), e1]
        exact (f3 5 (by decide)).trans e5
      · rw [es, show tellF x 2 (valF tp (pB tp (pE tp q)) 2) = (up x.1 2 (numF tp (pB tp (pE tp q)) 1 30), x.2.1 + p2 2, x.2.2) from rfl]
        refine ⟨?_, ?_, ?_, ?_, ?_, ?_, ?_, x7⟩
        · show up I3 10 (numF tp (pB tp (pE tp q)) 1 30) 8 = up x.1 2 (numF tp (pB tp (pE tp q)) 1 30) 0; rw [up_n (by decide), up_n (by decide)]; exact (f3' 8 (by decide)).trans x0
        · show up I3 10 (numF tp (pB tp (pE tp q)) 1 30) 9 = up x.1 2 (numF tp (pB tp (pE tp q)) 1 30) 1; rw [up_n (by decide), up_n (by decide)]; exact (f3' 9 (by decide)).trans x1
        · show up I3 10 (numF tp (pB tp (pE tp q)) 1 30) 10 = up x.1 2 (numF tp (pB tp (pE tp q)) 1 30) 2; rw [up_s, up_s]
        · show up I3 10 (numF tp (pB tp (pE tp q)) 1 30) 11 = up x.1 2 (numF tp (pB tp (pE tp q)) 1 30) 3; rw [up_n (by decide), up_n (by decide)]; exact (f3' 11 (by decide)).trans x3
        · show up I3 10 (numF tp (pB tp (pE tp q)) 1 30) 12 = up x.1 2 (numF tp (pB tp (pE tp q)) 1 30) 4; rw [up_n (by decide), up_n (by decide)]; exact (f3' 12 (by decide)).trans x4
        · rw [up_n (by decide)]; exact (f3' 13 (by decide)).trans x5
        · rw [up_n (by decide)]; exact (f3 14 (by decide)).trans e14
    · refine ⟨_, rfl, ?_⟩
      refine m_putI 105 10 dX12_readsPiece_102 rfl fl_X12_151 (by decide) rfl rfl rfl rfl ?_
      refine s_goto 235 dX12_readsPiece_105 rfl ?_
      refine s_return rfl dX12_readsPiece_235 ?_
      have e1 : fltF tp q x = ((pB tp (pE tp q) : Nat) : Int) := by rw [efl, if_pos (show valF tp (pB tp (pE tp q)) 2 = -1 from hv)]
      refine hp _ A (((f2.wk (by decide)).up (by decide)).up (by decide)) frA.rf ?_ (fun e => absurd (e1.symm.trans e) (by omega))
      rw [up_n (by decide), up_s, e1]
  have n2 : ¬ isW tp q wPairs := fun h => of_decide_eq_false g2 ⟨h5, by rw [t2]; exact h⟩
  refine s_aload_n 109 dX12_readsPiece_108 rfl rfl ?_
  refine s_ldcS 111 18 dX12_readsPiece_109 rfl rfl rfl rfl ?_
  refine s_V1b 114 dX12_readsPiece_111 rfl km_X12_isWord ml_X12_124 ds_X12_isWord (Nat.le_of_ble_eq_true rfl) m_rec rfl (c_isWord (r := (RX12, 154, "check")) rfl hP ht hl hb ?_)
  refine ⟨_, rfl, ?_⟩
  refine s_if_eqb 117 146 dX12_readsPiece_114 rfl rfl (fun g3 => ?_) (fun g3 => ?_)
  rotate_left
  · have y3 : isW tp q wCheck := by rw [← t3]; exact (of_decide_eq_true g3).2
    have es : srt tp q = 3 := by unfold srt; rw [if_neg n0, if_neg n1, if_neg n2, if_pos y3]
    refine s_aload_n 118 dX12_readsPiece_117 rfl rfl ?_
    refine s_iconst 119 dX12_readsPiece_118 rfl ?_
    refine s_V1b 122 dX12_readsPiece_119 rfl km_X12_isNew ml_X12_130 ds_X12_isNew (Nat.le_of_ble_eq_true rfl) m_rec rfl (c_isNew (s := 3) (by decide) (by rw [x6]; exact w7) ?_)
    refine ⟨_, rfl, ?_⟩
    refine s_if_eqb 125 146 dX12_readsPiece_122 rfl rfl (fun gn => ?_) (fun gn => ?_)
    · have gn := of_decide_eq_false gn
      refine b146 _ (frI.rf.up (by decide)) ?_ ⟨hne _ _ y3 (by decide), hne _ _ y3 (by decide)⟩
      unfold fltF
      rw [es, if_pos (Or.inr ?_)]
      rintro (⟨h, -⟩ | ⟨-, h⟩)
      · exact absurd h (by decide)
      · exact gn (by rw [x6]; exact h)
    have gn := of_decide_eq_true gn
    have hmay : mayF x 3 := Or.inr ⟨by decide, by rw [x6] at gn; exact gn⟩
    have efl : fltF tp q x = if valF tp (pB tp (pE tp q)) 3 = -1 then ((pB tp (pE tp q) : Nat) : Int) else -1 := by
      unfold fltF
      rw [es, if_neg (fun h => h.elim (fun h => absurd h (by decide)) (fun h => h hmay))]
    rw [if_pos gn]
    have i1 : ∀ j, j ≠ 14 → up I 14 (I 14 + p2 ((3 : Nat) : Int)) j = I j := fun j hj => up_n hj
    refine s_aload_n 126 dX12_readsPiece_125 rfl rfl ?_
    refine s_V0v 129 dX12_readsPiece_126 rfl km_X12_next ml_X12_115 ds_X12_next (Nat.le_of_ble_eq_true rfl) m_rec rfl (c_next (tp := tp) (p := pE tp q) ((i1 2 (by decide)).trans h2) ((i1 3 (by decide)).trans h3) ht hl hb hE.2.1 (fun I2 k1 k2 k3 k4 k5 => ?_))
    refine ⟨rfl, ?_⟩
    have hP2 : PP I2 tp (pB tp (pE tp q)) := ⟨(k1 2 (by decide)).trans ((i1 2 (by decide)).trans h2), k2, k4, k3, k5, hq2.2⟩
    have e5 : I2 5 = -1 := (k1 5 (by decide)).trans ((i1 5 (by decide)).trans h5)
    have e14 : I2 14 = x.2.1 + p2 3 := by rw [k1 14 (by decide), up_s, x6]; rfl
    have f2 : frI [3, 4, 6, 7, 14] I I2 := (frI.rf.up (v := I 14 + p2 ((3 : Nat) : Int)) (k := 14) (by decide)).trans k1 (by decide)
    refine s_aload_n 130 dX12_readsPiece_129 rfl rfl ?_
    refine s_aload_n 131 dX12_readsPiece_130 rfl rfl ?_
    refine s_ldcS 133 19 dX12_readsPiece_131 rfl rfl rfl rfl ?_
    refine s_ldcS 135 20 dX12_readsPiece_133 rfl rfl rfl rfl ?_
    refine s_ldcS 137 21 dX12_readsPiece_135 rfl rfl rfl rfl ?_
    refine s_V3i 140 dX12_readsPiece_137 rfl km_X12_takesOne ml_X12_137 ds_X12_takesOne (Nat.le_of_ble_eq_true rfl) m_rec rfl (c_takesOne (r1 := (RX12, 156, "none")) (r2 := (RX12, 158, "sum")) (r3 := (RX12, 160, "crc")) tno tsu tcr rfl rfl rfl e5 hP2 ht hl hb (fun hv I3 f3 hP3 => ?_) (fun hv => ?_))
    refine ⟨_, rfl, ?_⟩
    · have hr := oneF_rg tp (pB tp (pE tp q)) wNone wSum wCrc
      refine m_putI 143 11 dX12_readsPiece_140 rfl fl_X12_162 (by decide) rfl rfl rfl rfl ?_
      refine s_goto 235 dX12_readsPiece_143 rfl ?_
      refine s_return rfl dX12_readsPiece_235 ?_
      have e1 : fltF tp q x = -1 := by rw [efl, if_neg (show ¬ valF tp (pB tp (pE tp q)) 3 = -1 from hv)]
      have f3' : frI [3, 4, 6, 7, 14] I I3 := f2.trans f3 (by decide)
      refine hp _ A ((f3'.wk (by decide)).up (by decide)) frA.rf ?_ (fun _ => ⟨hP3.fr (frI.rf.up (k := 11) (ks := [11]) (by decide)) (by decide), ?_⟩)
      · rw [up_n (by decide), e1]
        exact (f3 5 (by decide)).trans e5
      · rw [es, show tellF x 3 (valF tp (pB tp (pE tp q)) 3) = (up x.1 3 (oneF tp (pB tp (pE tp q)) wNone wSum wCrc), x.2.1 + p2 3, x.2.2) from rfl]
        refine ⟨?_, ?_, ?_, ?_, ?_, ?_, ?_, x7⟩
        · show up I3 11 (oneF tp (pB tp (pE tp q)) wNone wSum wCrc) 8 = up x.1 3 (oneF tp (pB tp (pE tp q)) wNone wSum wCrc) 0; rw [up_n (by decide), up_n (by decide)]; exact (f3' 8 (by decide)).trans x0
        · show up I3 11 (oneF tp (pB tp (pE tp q)) wNone wSum wCrc) 9 = up x.1 3 (oneF tp (pB tp (pE tp q)) wNone wSum wCrc) 1; rw [up_n (by decide), up_n (by decide)]; exact (f3' 9 (by decide)).trans x1
        · show up I3 11 (oneF tp (pB tp (pE tp q)) wNone wSum wCrc) 10 = up x.1 3 (oneF tp (pB tp (pE tp q)) wNone wSum wCrc) 2; rw [up_n (by decide), up_n (by decide)]; exact (f3' 10 (by decide)).trans x2
        · show up I3 11 (oneF tp (pB tp (pE tp q)) wNone wSum wCrc) 11 = up x.1 3 (oneF tp (pB tp (pE tp q)) wNone wSum wCrc) 3; rw [up_s, up_s]
        · show up I3 11 (oneF tp (pB tp (pE tp q)) wNone wSum wCrc) 12 = up x.1 3 (oneF tp (pB tp (pE tp q)) wNone wSum wCrc) 4; rw [up_n (by decide), up_n (by decide)]; exact (f3' 12 (by decide)).trans x4
        · rw [up_n (by decide)]; exact (f3' 13 (by decide)).trans x5
        · rw [up_n (by decide)]; exact (f3 14 (by decide)).trans e14
    · refine ⟨_, rfl, ?_⟩
      refine m_putI 143 11 dX12_readsPiece_140 rfl fl_X12_162 (by decide) rfl rfl rfl rfl ?_
      refine s_goto 235 dX12_readsPiece_143 rfl ?_
      refine s_return rfl dX12_readsPiece_235 ?_
      have e1 : fltF tp q x = ((pB tp (pE tp q) : Nat) : Int) := by rw [efl, if_pos (show valF tp (pB tp (pE tp q)) 3 = -1 from hv)]
      refine hp _ A (((f2.wk (by decide)).up (by decide)).up (by decide)) frA.rf ?_ (fun e => absurd (e1.symm.trans e) (by omega))
      rw [up_n (by decide), up_s, e1]
  have n3 : ¬ isW tp q wCheck := fun h => of_decide_eq_false g3 ⟨h5, by rw [t3]; exact h⟩
  refine s_aload_n 147 dX12_readsPiece_146 rfl rfl ?_
  refine s_ldcS 149 22 dX12_readsPiece_147 rfl rfl rfl rfl ?_
  refine s_V1b 152 dX12_readsPiece_149 rfl km_X12_isWord ml_X12_124 ds_X12_isWord (Nat.le_of_ble_eq_true rfl) m_rec rfl (c_isWord (r := (RX12, 165, "size")) rfl hP ht hl hb ?_)
  refine ⟨_, rfl, ?_⟩
  refine s_if_eqb 155 181 dX12_readsPiece_152 rfl rfl (fun g4 => ?_) (fun g4 => ?_)
  rotate_left
  · have y4 : isW tp q wSize := by rw [← t4]; exact (of_decide_eq_true g4).2
    have es : srt tp q = 4 := by unfold srt; rw [if_neg n0, if_neg n1, if_neg n2, if_neg n3, if_pos y4]
    refine s_aload_n 156 dX12_readsPiece_155 rfl rfl ?_
    refine s_iconst 157 dX12_readsPiece_156 rfl ?_
    refine s_V1b 160 dX12_readsPiece_157 rfl km_X12_isNew ml_X12_130 ds_X12_isNew (Nat.le_of_ble_eq_true rfl) m_rec rfl (c_isNew (s := 4) (by decide) (by rw [x6]; exact w7) ?_)
    refine ⟨_, rfl, ?_⟩
    refine s_if_eqb 163 181 dX12_readsPiece_160 rfl rfl (fun gn => ?_) (fun gn => ?_)
    · have gn := of_decide_eq_false gn
      refine b181 _ (frI.rf.up (by decide)) ?_ (hne _ _ y4 (by decide))
      unfold fltF
      rw [es, if_pos (Or.inr ?_)]
      rintro (⟨h, -⟩ | ⟨-, h⟩)
      · exact absurd h (by decide)
      · exact gn (by rw [x6]; exact h)
    have gn := of_decide_eq_true gn
    have hmay : mayF x 4 := Or.inr ⟨by decide, by rw [x6] at gn; exact gn⟩
    have efl : fltF tp q x = if valF tp (pB tp (pE tp q)) 4 = -1 then ((pB tp (pE tp q) : Nat) : Int) else -1 := by
      unfold fltF
      rw [es, if_neg (fun h => h.elim (fun h => absurd h (by decide)) (fun h => h hmay))]
    rw [if_pos gn]
    have i1 : ∀ j, j ≠ 14 → up I 14 (I 14 + p2 ((4 : Nat) : Int)) j = I j := fun j hj => up_n hj
    refine s_aload_n 164 dX12_readsPiece_163 rfl rfl ?_
    refine s_V0v 167 dX12_readsPiece_164 rfl km_X12_next ml_X12_115 ds_X12_next (Nat.le_of_ble_eq_true rfl) m_rec rfl (c_next (tp := tp) (p := pE tp q) ((i1 2 (by decide)).trans h2) ((i1 3 (by decide)).trans h3) ht hl hb hE.2.1 (fun I2 k1 k2 k3 k4 k5 => ?_))
    refine ⟨rfl, ?_⟩
    have hP2 : PP I2 tp (pB tp (pE tp q)) := ⟨(k1 2 (by decide)).trans ((i1 2 (by decide)).trans h2), k2, k4, k3, k5, hq2.2⟩
    have e5 : I2 5 = -1 := (k1 5 (by decide)).trans ((i1 5 (by decide)).trans h5)
    have e14 : I2 14 = x.2.1 + p2 4 := by rw [k1 14 (by decide), up_s, x6]; rfl
    have f2 : frI [3, 4, 6, 7, 14] I I2 := (frI.rf.up (v := I 14 + p2 ((4 : Nat) : Int)) (k := 14) (by decide)).trans k1 (by decide)
    refine s_aload_n 168 dX12_readsPiece_167 rfl rfl ?_
    refine s_aload_n 169 dX12_readsPiece_168 rfl rfl ?_
    refine s_iconst 170 dX12_readsPiece_169 rfl ?_
    refine s_bipush 172 dX12_readsPiece_170 rfl (k := ?_)
    refine s_V2i 175 dX12_readsPiece_172 rfl km_X12_takesNumber ml_X12_145 ds_X12_takesNumber (Nat.le_of_ble_eq_true rfl) m_rec rfl (c_takesNumber (by omega) e5 hP2 ht hl hb (fun hv I3 f3 hP3 => ?_) (fun hv => ?_))
    refine ⟨_, rfl, ?_⟩
    · have hr := numF_rg (tp := tp) (q := pB tp (pE tp q)) (lo := 1) (hi := 60)
      refine m_putI 178 12 dX12_readsPiece_175 rfl fl_X12_167 (by decide) rfl rfl rfl rfl ?_
      refine s_goto 235 dX12_readsPiece_178 rfl ?_
      refine s_return rfl dX12_readsPiece_235 ?_
      have e1 : fltF tp q x = -1 := by rw [efl, if_neg (show ¬ valF tp (pB tp (pE tp q)) 4 = -1 from hv)]
      have f3' : frI [3, 4, 6, 7, 14] I I3 := f2.trans f3 (by decide)
      refine hp _ A ((f3'.wk (by decide)).up (by decide)) frA.rf ?_ (fun _ => ⟨hP3.fr (frI.rf.up (k := 12) (ks := [12]) (by decide)) (by decide), ?_⟩)
      · rw [up_n (by decide), e1]
        exact (f3 5 (by decide)).trans e5
      · rw [es, show tellF x 4 (valF tp (pB tp (pE tp q)) 4) = (up x.1 4 (numF tp (pB tp (pE tp q)) 1 60), x.2.1 + p2 4, x.2.2) from rfl]
        refine ⟨?_, ?_, ?_, ?_, ?_, ?_, ?_, x7⟩
        · show up I3 12 (numF tp (pB tp (pE tp q)) 1 60) 8 = up x.1 4 (numF tp (pB tp (pE tp q)) 1 60) 0; rw [up_n (by decide), up_n (by decide)]; exact (f3' 8 (by decide)).trans x0
        · show up I3 12 (numF tp (pB tp (pE tp q)) 1 60) 9 = up x.1 4 (numF tp (pB tp (pE tp q)) 1 60) 1; rw [up_n (by decide), up_n (by decide)]; exact (f3' 9 (by decide)).trans x1
        · show up I3 12 (numF tp (pB tp (pE tp q)) 1 60) 10 = up x.1 4 (numF tp (pB tp (pE tp q)) 1 60) 2; rw [up_n (by decide), up_n (by decide)]; exact (f3' 10 (by decide)).trans x2
        · show up I3 12 (numF tp (pB tp (pE tp q)) 1 60) 11 = up x.1 4 (numF tp (pB tp (pE tp q)) 1 60) 3; rw [up_n (by decide), up_n (by decide)]; exact (f3' 11 (by decide)).trans x3
        · show up I3 12 (numF tp (pB tp (pE tp q)) 1 60) 12 = up x.1 4 (numF tp (pB tp (pE tp q)) 1 60) 4; rw [up_s, up_s]
        · rw [up_n (by decide)]; exact (f3' 13 (by decide)).trans x5
        · rw [up_n (by decide)]; exact (f3 14 (by decide)).trans e14
    · refine ⟨_, rfl, ?_⟩
      refine m_putI 178 12 dX12_readsPiece_175 rfl fl_X12_167 (by decide) rfl rfl rfl rfl ?_
      refine s_goto 235 dX12_readsPiece_178 rfl ?_
      refine s_return rfl dX12_readsPiece_235 ?_
      have e1 : fltF tp q x = ((pB tp (pE tp q) : Nat) : Int) := by rw [efl, if_pos (show valF tp (pB tp (pE tp q)) 4 = -1 from hv)]
      refine hp _ A (((f2.wk (by decide)).up (by decide)).up (by decide)) frA.rf ?_ (fun e => absurd (e1.symm.trans e) (by omega))
      rw [up_n (by decide), up_s, e1]
  have n4 : ¬ isW tp q wSize := fun h => of_decide_eq_false g4 ⟨h5, by rw [t4]; exact h⟩
  refine s_aload_n 182 dX12_readsPiece_181 rfl rfl ?_
  refine s_ldcS 184 23 dX12_readsPiece_182 rfl rfl rfl rfl ?_
  refine s_V1b 187 dX12_readsPiece_184 rfl km_X12_isWord ml_X12_124 ds_X12_isWord (Nat.le_of_ble_eq_true rfl) m_rec rfl (c_isWord (r := (RX12, 170, "channel")) rfl hP ht hl hb ?_)
  refine ⟨_, rfl, ?_⟩
  refine s_if_eqb 190 231 dX12_readsPiece_187 rfl rfl (fun g5 => ?_) (fun g5 => ?_)
  · have n5 : ¬ isW tp q wChannel := fun h => of_decide_eq_false g5 ⟨h5, by rw [t5]; exact h⟩
    refine b231 I frI.rf ?_
    unfold fltF
    rw [if_pos (Or.inl ?_)]
    unfold srt
    rw [if_neg n0, if_neg n1, if_neg n2, if_neg n3, if_neg n4, if_neg n5]
  have y5 : isW tp q wChannel := by rw [← t5]; exact (of_decide_eq_true g5).2
  have es : srt tp q = 5 := by unfold srt; rw [if_neg n0, if_neg n1, if_neg n2, if_neg n3, if_neg n4, if_pos y5]
  refine s_aload_n 191 dX12_readsPiece_190 rfl rfl ?_
  refine m_getI 194 13 dX12_readsPiece_191 rfl fl_X12_172 (by decide) rfl (fun hr191 => ?_)
  refine s_iconst 195 dX12_readsPiece_194 rfl ?_
  refine s_icmp_ge 198 231 dX12_readsPiece_195 rfl rfl (fun gc => ?_) (fun gc => ?_)
  · refine b231 I frI.rf ?_
    unfold fltF
    rw [es, if_pos (Or.inr ?_)]
    rintro (⟨-, h⟩ | ⟨h, -⟩)
    · omega
    · exact absurd rfl h
  have hmay : mayF x 5 := Or.inl ⟨rfl, by omega⟩
  have efl : fltF tp q x = if valF tp (pB tp (pE tp q)) 5 = -1 then ((pB tp (pE tp q) : Nat) : Int) else -1 := by
    unfold fltF
    rw [es, if_neg (fun h => h.elim (fun h => absurd h (by decide)) (fun h => h hmay))]
  refine s_aload_n 199 dX12_readsPiece_198 rfl rfl ?_
  refine s_V0v 202 dX12_readsPiece_199 rfl km_X12_next ml_X12_115 ds_X12_next (Nat.le_of_ble_eq_true rfl) m_rec rfl (c_next (tp := tp) (p := pE tp q) h2 h3 ht hl hb hE.2.1 (fun I2 k1 k2 k3 k4 k5 => ?_))
  refine ⟨rfl, ?_⟩
  have hP2 : PP I2 tp (pB tp (pE tp q)) := ⟨(k1 2 (by decide)).trans h2, k2, k4, k3, k5, hq2.2⟩
  have e5 : I2 5 = -1 := (k1 5 (by decide)).trans h5
  have e13 : I2 13 = x.2.2.length := (k1 13 (by decide)).trans x5
  refine s_aload_n 203 dX12_readsPiece_202 rfl rfl ?_
  refine m_getV (k := 15) 206 dX12_readsPiece_203 rfl fl_X12_13 (by decide) rfl ?_
  refine s_aload_n 207 dX12_readsPiece_206 rfl rfl ?_
  refine m_getI 210 13 dX12_readsPiece_207 rfl fl_X12_172 (by decide) rfl (fun hr207 => ?_)
  refine s_aload_n 211 dX12_readsPiece_210 rfl rfl ?_
  refine s_iconst 212 dX12_readsPiece_211 rfl ?_
  refine s_bipush 214 dX12_readsPiece_212 rfl (k := ?_)
  refine s_V2i 217 dX12_readsPiece_214 rfl km_X12_takesNumber ml_X12_145 ds_X12_takesNumber (Nat.le_of_ble_eq_true rfl) m_rec rfl (c_takesNumber (by omega) e5 hP2 ht hl hb (fun hv I3 f3 hP3 => ?_) (fun hv => ?_))
  refine ⟨_, rfl, ?_⟩
  · have hr := numF_rg (tp := tp) (q := pB tp (pE tp q)) (lo := 1) (hi := 8)
    have e13' : I3 13 = x.2.2.length := (f3 13 (by decide)).trans e13
    refine m_ast 218 2 4 dX12_readsPiece_217 rfl (by decide) rfl ?_
    refine s_aload_n 219 dX12_readsPiece_218 rfl rfl ?_
    refine s_dup (q := 220) (hd := dX12_readsPiece_219) (hq := rfl) (k := ?_)
    refine m_getI 223 13 dX12_readsPiece_220 rfl fl_X12_172 (by decide) rfl (fun hr220 => ?_)
    refine s_iconst 224 dX12_readsPiece_223 rfl ?_
    refine s_iadd 225 dX12_readsPiece_224 rfl ?_
    refine m_putI 228 13 dX12_readsPiece_225 rfl fl_X12_172 (by decide) rfl rfl rfl rfl ?_
    refine s_goto 235 dX12_readsPiece_228 rfl ?_
    refine s_return rfl dX12_readsPiece_235 ?_
    have e1 : fltF tp q x = -1 := by rw [efl, if_neg (show ¬ valF tp (pB tp (pE tp q)) 5 = -1 from hv)]
    have f3' : frI [3, 4, 6, 7] I I3 := k1.trans f3 (by decide)
    refine hp _ _ ((f3'.wk (by decide)).up (by decide)) (frA.rf.up (by decide)) ?_ (fun _ => ⟨hP3.fr (frI.rf.up (k := 13) (ks := [13]) (by decide)) (by decide), ?_⟩)
    · rw [up_n (by decide), e1]
      exact (f3 5 (by decide)).trans e5
    · rw [es, show tellF x 5 (valF tp (pB tp (pE tp q)) 5) = (x.1, x.2.1, x.2.2 ++ [numF tp (pB tp (pE tp q)) 1 8]) from rfl]
      refine ⟨?_, ?_, ?_, ?_, ?_, ?_, ?_, ?_⟩
      · rw [up_n (by decide)]; exact (f3' 8 (by decide)).trans x0
      · rw [up_n (by decide)]; exact (f3' 9 (by decide)).trans x1
      · rw [up_n (by decide)]; exact (f3' 10 (by decide)).trans x2
      · rw [up_n (by decide)]; exact (f3' 11 (by decide)).trans x3
      · rw [up_n (by decide)]; exact (f3' 12 (by decide)).trans x4
      · show up I3 13 _ 13 = ((x.2.2 ++ [numF tp (pB tp (pE tp q)) 1 8]).length : Int)
        rw [up_s, List.length_append, List.length_singleton]; omega
      · rw [up_n (by decide)]; exact (f3' 14 (by decide)).trans x6
      · rw [up_s]; exact sg_snoc' x7 (by omega)
  · refine ⟨_, rfl, ?_⟩
    have e9 : up I2 5 ((pB tp (pE tp q) : Nat) : Int) 13 = I2 13 := up_n (by decide)
    refine m_ast 218 2 4 dX12_readsPiece_217 rfl (by decide) rfl ?_
    refine s_aload_n 219 dX12_readsPiece_218 rfl rfl ?_
    refine s_dup (q := 220) (hd := dX12_readsPiece_219) (hq := rfl) (k := ?_)
    refine m_getI 223 13 dX12_readsPiece_220 rfl fl_X12_172 (by decide) rfl (fun hr220 => ?_)
    refine s_iconst 224 dX12_readsPiece_223 rfl ?_
    refine s_iadd 225 dX12_readsPiece_224 rfl ?_
    refine m_putI 228 13 dX12_readsPiece_225 rfl fl_X12_172 (by decide) rfl rfl rfl rfl ?_
    refine s_goto 235 dX12_readsPiece_228 rfl ?_
    refine s_return rfl dX12_readsPiece_235 ?_
    have e1 : fltF tp q x = ((pB tp (pE tp q) : Nat) : Int) := by rw [efl, if_pos (show valF tp (pB tp (pE tp q)) 5 = -1 from hv)]
    refine hp _ _ (((k1.wk (by decide)).up (by decide)).up (by decide)) (frA.rf.up (by decide)) ?_ (fun e => absurd (e1.symm.trans e) (by omega))
    rw [up_n (by decide), up_s, e1]
end M20
