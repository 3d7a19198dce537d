section M15
variable {G : GT} {m0 n u : Nat} {F : HS} {d : Nat} {I : Nat → Int} {A : Nat → Int → Int} {D : Int64} {post : Option Value → MT → Prop} {ru : RU}
/-- the rows 'begins' and 'ends' hold these frames -/
def RepF (A : Nat → Int → Int) (fs : List (Nat × Nat)) : Prop := ∀ i : Nat, i < fs.length → A 12 (i : Int) = (fs.getD i (0, 0)).1 ∧ A 13 (i : Int) = (fs.getD i (0, 0)).2
theorem c_laysFrames {s : ST} {b : Int} {ch : Nat} (hs : RepSt ch (A 3) s) (hw : WfSt b ch s) (hp : ∀ I' A', frI [41] I I' → frA [12, 13] A A' → I' 41 = (frs s.1).length → RepF A' (frs s.1) → post (some (vi (frs s.1).length)) (I', A', D)) : Cm G (AM G m0 F n u) yX12_laysFrames cX12_laysFrames 3 (some .int) d [.ref m0] (I, A, D) post := by
  refine Cm_intro (L := [some (.ref m0), none, none]) (by decide +kernel) (Nat.le_of_ble_eq_true rfl) rfl ?_
  have hw0 := hw.1
  have a0 := hs.1
  have a1 := hs.2.1
  generalize hfs : frs s.1 = fs at hp
  refine s_aload_n 1 dX12_laysFrames_0 rfl rfl ?_
  refine s_iconst 2 dX12_laysFrames_1 rfl ?_
  refine m_putI 5 41 dX12_laysFrames_2 rfl fl_X12_383 (by decide) rfl rfl rfl rfl ?_
  refine s_iconst 6 dX12_laysFrames_5 rfl ?_
  refine s_istore_n 7 dX12_laysFrames_6 rfl (Nat.le_of_ble_eq_true rfl) rfl ?_
  refine s_iconst 8 dX12_laysFrames_7 rfl ?_
  refine s_istore_n 9 dX12_laysFrames_8 rfl (Nat.le_of_ble_eq_true rfl) rfl ?_
  have key : ∀ (m k bg : Nat) (acc : List (Nat × Nat)) (I' : Nat → Int) (A' : Nat → Int → Int), k + m = s.1.length → bg ≤ k → acc.length ≤ k → frL s.1 m k bg acc = fs → frI [41] I I' → frA [12, 13] A A' → I' 41 = acc.length → RepF A' acc → V G (AM G m0 F n u) yX12_laysFrames cX12_laysFrames 3 (some .int) d (I', A', D) 9 [some (.ref m0), some (vi bg), some (vi k)] [] post := by
    intro m
    induction m with
    | zero =>
      intro k bg acc I' A' h1 h2 h3 h4 f1 f2 f3 f4
      have f0 : A' 3 0 = s.1.length := by rw [f2 3 (by decide)]; exact a0
      have h4 : acc = fs := h4
      subst h4
      refine s_iload_n 10 dX12_laysFrames_9 rfl rfl ?_
      refine s_aload_n 11 dX12_laysFrames_10 rfl rfl ?_
      refine m_getV (k := 16) 14 dX12_laysFrames_11 rfl fl_X12_16 (by decide) rfl ?_
      refine s_iconst 15 dX12_laysFrames_14 rfl ?_
      refine m_ald 16 3 9309 dX12_laysFrames_15 rfl (by decide) rfl (fun hr15 => ?_)
      refine s_icmp_ge 19 75 dX12_laysFrames_16 rfl rfl (fun g => ?_) (fun g => ?_)
      rotate_left
      · omega
      refine s_aload_n 76 dX12_laysFrames_75 rfl rfl ?_
      refine m_getI 79 41 dX12_laysFrames_76 rfl fl_X12_383 (by decide) rfl (fun hr76 => ?_)
      refine s_ireturn rfl dX12_laysFrames_79 ?_
      rw [f3]
      exact hp I' A' f1 f2 f3 f4
    | succ m ih =>
      intro k bg acc I' A' h1 h2 h3 h4 f1 f2 f3 f4
      have f0 : A' 3 0 = s.1.length := by rw [f2 3 (by decide)]; exact a0
      have ev : A' 3 (1 + (k : Int)) = s.1.getD k 0 := by rw [f2 3 (by decide)]; exact a1 k (by omega)
      rw [frL] at h4
      refine s_iload_n 10 dX12_laysFrames_9 rfl rfl ?_
      refine s_aload_n 11 dX12_laysFrames_10 rfl rfl ?_
      refine m_getV (k := 16) 14 dX12_laysFrames_11 rfl fl_X12_16 (by decide) rfl ?_
      refine s_iconst 15 dX12_laysFrames_14 rfl ?_
      refine m_ald 16 3 9309 dX12_laysFrames_15 rfl (by decide) rfl (fun hr15 => ?_)
      refine s_icmp_ge 19 75 dX12_laysFrames_16 rfl rfl (fun g => ?_) (fun g => ?_)
      · omega
      refine s_aload_n 20 dX12_laysFrames_19 rfl rfl ?_
      refine m_getV (k := 16) 23 dX12_laysFrames_20 rfl fl_X12_16 (by decide) rfl ?_
      refine s_iconst 24 dX12_laysFrames_23 rfl ?_
      refine s_iload_n 25 dX12_laysFrames_24 rfl rfl ?_
      refine s_iadd 26 dX12_laysFrames_25 rfl ?_
      refine m_ald 27 3 9309 dX12_laysFrames_26 rfl (by decide) rfl (fun hr26 => ?_)
      rw [ev]
      have hb := byt_at hw.2.1 k
      refine s_if_ne 30 69 dX12_laysFrames_27 rfl rfl (fun g2 => ?_) (fun g2 => ?_)
      · rw [if_neg g2] at h4
        refine s_iinc 72 dX12_laysFrames_69 rfl rfl (Nat.le_of_ble_eq_true rfl) rfl ?_
        refine s_goto 9 dX12_laysFrames_72 rfl ?_
        exact ih (k + 1) bg acc I' A' (by omega) (by omega) (by omega) h4 f1 f2 f3 f4
      rw [if_pos (by omega)] at h4
      refine s_iload_n 31 dX12_laysFrames_30 rfl rfl ?_
      refine s_iload_n 32 dX12_laysFrames_31 rfl rfl ?_
      refine s_icmp_le 35 65 dX12_laysFrames_32 rfl rfl (fun g3 => ?_) (fun g3 => ?_)
      · rw [if_neg (by omega)] at h4
        refine s_iload_n 66 dX12_laysFrames_65 rfl rfl ?_
        refine s_iconst 67 dX12_laysFrames_66 rfl ?_
        refine s_iadd 68 dX12_laysFrames_67 rfl ?_
        refine s_istore_n 69 dX12_laysFrames_68 rfl (Nat.le_of_ble_eq_true rfl) rfl ?_
        refine s_iinc 72 dX12_laysFrames_69 rfl rfl (Nat.le_of_ble_eq_true rfl) rfl ?_
        refine s_goto 9 dX12_laysFrames_72 rfl ?_
        exact ih (k + 1) (k + 1) acc I' A' (by omega) (by omega) (by omega) h4 f1 f2 f3 f4
      · rw [if_pos (by omega)] at h4
        refine s_aload_n 36 dX12_laysFrames_35 rfl rfl ?_
        refine m_getV (k := 39) 39 dX12_laysFrames_36 rfl fl_X12_51 (by decide) rfl ?_
        refine s_aload_n 40 dX12_laysFrames_39 rfl rfl ?_
        refine m_getI 43 41 dX12_laysFrames_40 rfl fl_X12_383 (by decide) rfl (fun hr40 => ?_)
        refine s_iload_n 44 dX12_laysFrames_43 rfl rfl ?_
        refine m_ast 45 12 600 dX12_laysFrames_44 rfl (by decide) rfl ?_
        refine s_aload_n 46 dX12_laysFrames_45 rfl rfl ?_
        refine m_getV (k := 40) 49 dX12_laysFrames_46 rfl fl_X12_54 (by decide) rfl ?_
        refine s_aload_n 50 dX12_laysFrames_49 rfl rfl ?_
        refine m_getI 53 41 dX12_laysFrames_50 rfl fl_X12_383 (by decide) rfl (fun hr50 => ?_)
        refine s_iload_n 54 dX12_laysFrames_53 rfl rfl ?_
        refine m_ast 55 13 600 dX12_laysFrames_54 rfl (by decide) rfl ?_
        refine s_aload_n 56 dX12_laysFrames_55 rfl rfl ?_
        refine s_dup (q := 57) (hd := dX12_laysFrames_56) (hq := rfl) (k := ?_)
        refine m_getI 60 41 dX12_laysFrames_57 rfl fl_X12_383 (by decide) rfl (fun hr57 => ?_)
        refine s_iconst 61 dX12_laysFrames_60 rfl ?_
        refine s_iadd 62 dX12_laysFrames_61 rfl ?_
        refine m_putI 65 41 dX12_laysFrames_62 rfl fl_X12_383 (by decide) rfl rfl rfl rfl ?_
        refine s_iload_n 66 dX12_laysFrames_65 rfl rfl ?_
        refine s_iconst 67 dX12_laysFrames_66 rfl ?_
        refine s_iadd 68 dX12_laysFrames_67 rfl ?_
        refine s_istore_n 69 dX12_laysFrames_68 rfl (Nat.le_of_ble_eq_true rfl) rfl ?_
        refine s_iinc 72 dX12_laysFrames_69 rfl rfl (Nat.le_of_ble_eq_true rfl) rfl ?_
        refine s_goto 9 dX12_laysFrames_72 rfl ?_
        refine ih (k + 1) (k + 1) (acc ++ [(bg, k)]) _ _ (by omega) (by omega) (by rw [List.length_append, List.length_singleton]; omega) h4 (f1.up (by decide)) ((f2.up (by decide)).up (by decide)) (by rw [up_s, f3, List.length_append, List.length_singleton]; omega) ?_
        intro i hi
        rw [List.length_append, List.length_singleton] at hi
        rw [up_n (show (12 : Nat) ≠ 13 by decide), up_s, up_s, f3, up_n (show (13 : Nat) ≠ 12 by decide)]
        by_cases e : i = acc.length
        · subst e
          rw [up_s, up_s, show (acc ++ [(bg, k)]).getD acc.length (0, 0) = (bg, k) by rw [List.getD_eq_getElem?_getD, List.getElem?_append_right (Nat.le_refl _)]; simp]
          exact ⟨rfl, rfl⟩
        · rw [up_n (by omega), up_n (by omega), show (acc ++ [(bg, k)]).getD i (0, 0) = acc.getD i (0, 0) by rw [List.getD_eq_getElem?_getD, List.getD_eq_getElem?_getD, List.getElem?_append_left (by omega)]]
          exact f4 i (by omega)
  exact key s.1.length 0 0 [] _ _ (by omega) (by omega) (by simp) hfs (frI.rf.up (by decide)) frA.rf (by rw [up_s]; rfl) (fun i hi => absurd hi (by simp))
theorem c_frameAt {s : List Int} {k : Nat} {q : Nat × Nat} (hs : sg (A 3) 1 s) (hby : byt s) (hl : s.length ≤ 600) (hk : k < 600) (hq1 : A 12 k = q.1) (hq2 : A 13 k = q.2) (hq3 : q.1 < q.2 ∧ q.2 < s.length) (hru : RuM I ru) (hwr : WfRu ru) (hp : ∀ I' A', frI [26, 28] I I' → frA [5, 6] A A' → (frK ru s q = 0 ∨ frK ru s q = 4 → I' 26 = (frP_ ru s q).length ∧ sg (A' 5) 0 (frP_ ru s q)) → post (some (vi (frK ru s q))) (I', A', D)) : Cm G (AM G m0 F n u) yX12_frameAt cX12_frameAt 3 (some .int) (d + 4) [.ref m0, vi k] (I, A, D) post := by
  refine Cm_intro (L := [some (.ref m0), some (vi k), none]) (by decide +kernel) (Nat.le_of_ble_eq_true rfl) rfl ?_
  refine s_aload_n 1 dX12_frameAt_0 rfl rfl ?_
  refine s_sipush 4 dX12_frameAt_1 rfl (k := ?_)
  refine s_aload_n 5 dX12_frameAt_4 rfl rfl ?_
  refine m_getV (k := 40) 8 dX12_frameAt_5 rfl fl_X12_54 (by decide) rfl ?_
  refine s_iload_n 9 dX12_frameAt_8 rfl rfl ?_
  refine m_ald 10 13 600 dX12_frameAt_9 rfl (by decide) rfl (fun hr9 => ?_)
  refine s_aload_n 11 dX12_frameAt_10 rfl rfl ?_
  refine m_getV (k := 39) 14 dX12_frameAt_11 rfl fl_X12_51 (by decide) rfl ?_
  refine s_iload_n 15 dX12_frameAt_14 rfl rfl ?_
  refine m_ald 16 12 600 dX12_frameAt_15 rfl (by decide) rfl (fun hr15 => ?_)
  refine s_isub 17 dX12_frameAt_16 rfl ?_
  refine s_min (q := 20) (hd := dX12_frameAt_17) (hq := rfl) (hw := ml_X12_97) (hrest := Nat.le_of_ble_eq_true rfl) (k := ?_)
  have hmn : min (200 : Int) (A 13 k - A 12 k) = (min 200 (q.2 - q.1) : Nat) := by rw [hq1, hq2]; omega
  rw [hmn]
  refine m_putI 23 28 dX12_frameAt_20 rfl fl_X12_214 (by decide) rfl rfl rfl rfl ?_
  refine s_iconst 24 dX12_frameAt_23 rfl ?_
  refine s_istore_n 25 dX12_frameAt_24 rfl (Nat.le_of_ble_eq_true rfl) rfl ?_
  generalize hN : min 200 (q.2 - q.1) = N at *
  have hlen : ((s.drop q.1).take N).length = N := len_take_drop (by omega)
  have key : ∀ (m j : Nat) (A' : Nat → Int → Int), j + m = N → frA [6] A A' → sg (A' 6) 0 ((s.drop q.1).take j) → V G (AM G m0 F n u) yX12_frameAt cX12_frameAt 3 (some .int) (d + 4) (up I 28 (N : Int), A', D) 25 [some (.ref m0), some (vi k), some (vi j)] [] post := by
    intro m
    induction m with
    | zero =>
      intro j A' hj f1 f2
      obtain rfl : j = N := by omega
      have e13 : A' 13 k = q.2 := by rw [f1 13 (by decide)]; exact hq2
      have e12 : A' 12 k = q.1 := by rw [f1 12 (by decide)]; exact hq1
      have e28 : up I 28 (j : Int) 28 = j := up_s _ _ _
      refine s_iload_n 26 dX12_frameAt_25 rfl rfl ?_
      refine s_aload_n 27 dX12_frameAt_26 rfl rfl ?_
      refine m_getI 30 28 dX12_frameAt_27 rfl fl_X12_214 (by decide) rfl (fun hr27 => ?_)
      refine s_icmp_ge 33 60 dX12_frameAt_30 rfl rfl (fun g => ?_) (fun g => ?_)
      rotate_left
      · omega
      refine s_aload_n 61 dX12_frameAt_60 rfl rfl ?_
      refine s_aload_n 62 dX12_frameAt_61 rfl rfl ?_
      refine m_getV (k := 40) 65 dX12_frameAt_62 rfl fl_X12_54 (by decide) rfl ?_
      refine s_iload_n 66 dX12_frameAt_65 rfl rfl ?_
      refine m_ald 67 13 600 dX12_frameAt_66 rfl (by decide) rfl (fun hr66 => ?_)
      refine s_aload_n 68 dX12_frameAt_67 rfl rfl ?_
      refine m_getV (k := 39) 71 dX12_frameAt_68 rfl fl_X12_51 (by decide) rfl ?_
      refine s_iload_n 72 dX12_frameAt_71 rfl rfl ?_
      refine m_ald 73 12 600 dX12_frameAt_72 rfl (by decide) rfl (fun hr72 => ?_)
      refine s_isub 74 dX12_frameAt_73 rfl ?_
      refine s_sipush 77 dX12_frameAt_74 rfl (k := ?_)
      have hru1 : RuM (up I 28 (j : Int)) ru := hru.fr (ks := [28]) (frI.rf.up (by decide)) (by decide)
      have hbt : byt ((s.drop q.1).take j) := byt_take (byt_drop hby _) _
      refine s_icmp_le 80 84 dX12_frameAt_77 rfl rfl (fun g2 => ?_) (fun g2 => ?_)
      · refine s_iconst 85 dX12_frameAt_84 rfl ?_
        have hj2 : (s.drop q.1).take j = frB s q := by unfold frB; congr 1; omega
        rw [hj2] at f2 hbt hlen
        refine s_V1i 88 dX12_frameAt_85 rfl km_X12_frameIs ml_X12_357 ds_X12_frameIs (Nat.le_of_ble_eq_true rfl) m_rec rfl (c_frameIs (big := false) hru1 hwr f2 hbt (by rw [up_s, hlen]) (by omega) (fun I2 A2 k1 k2 k3 => ?_))
        refine ⟨_, rfl, ?_⟩
        refine s_ireturn rfl dX12_frameAt_88 ?_
        have ek : frK ru s q = (judge ru (frB s q)).1 := if_neg (by omega)
        rw [ek] at hp
        exact hp I2 A2 ((frI.rf.up (by decide)).trans k1 (by decide)) ((f1.wk (by decide)).trans k2 (by decide)) (fun h => k3 rfl h)
      · refine s_iconst 81 dX12_frameAt_80 rfl ?_
        refine s_goto 85 dX12_frameAt_81 rfl ?_
        refine s_V1i 88 dX12_frameAt_85 rfl km_X12_frameIs ml_X12_357 ds_X12_frameIs (Nat.le_of_ble_eq_true rfl) m_rec rfl (c_frameIs (big := true) hru1 hwr f2 hbt (by rw [up_s, hlen]) (by omega) (fun I2 A2 k1 k2 k3 => ?_))
        refine ⟨_, rfl, ?_⟩
        refine s_ireturn rfl dX12_frameAt_88 ?_
        have ek : frK ru s q = 2 := if_pos (by omega)
        rw [ek] at hp
        exact hp I2 A2 ((frI.rf.up (by decide)).trans k1 (by decide)) ((f1.wk (by decide)).trans k2 (by decide)) (fun h => by omega)
    | succ m ih =>
      intro j A' hj f1 f2
      have e12 : A' 12 k = q.1 := by rw [f1 12 (by decide)]; exact hq1
      have e28 : up I 28 (N : Int) 28 = N := up_s _ _ _
      have ev : A' 3 (1 + A' 12 k + (j : Int)) = s.getD (q.1 + j) 0 := by
        rw [e12, f1 3 (by decide), ← hs (q.1 + j) (by omega)]
        congr 1
        omega
      refine s_iload_n 26 dX12_frameAt_25 rfl rfl ?_
      refine s_aload_n 27 dX12_frameAt_26 rfl rfl ?_
      refine m_getI 30 28 dX12_frameAt_27 rfl fl_X12_214 (by decide) rfl (fun hr27 => ?_)
      refine s_icmp_ge 33 60 dX12_frameAt_30 rfl rfl (fun g => ?_) (fun g => ?_)
      · omega
      refine s_aload_n 34 dX12_frameAt_33 rfl rfl ?_
      refine m_getV (k := 27) 37 dX12_frameAt_34 rfl fl_X12_32 (by decide) rfl ?_
      refine s_iload_n 38 dX12_frameAt_37 rfl rfl ?_
      refine s_aload_n 39 dX12_frameAt_38 rfl rfl ?_
      refine m_getV (k := 16) 42 dX12_frameAt_39 rfl fl_X12_16 (by decide) rfl ?_
      refine s_iconst 43 dX12_frameAt_42 rfl ?_
      refine s_aload_n 44 dX12_frameAt_43 rfl rfl ?_
      refine m_getV (k := 39) 47 dX12_frameAt_44 rfl fl_X12_51 (by decide) rfl ?_
      refine s_iload_n 48 dX12_frameAt_47 rfl rfl ?_
      refine m_ald 49 12 600 dX12_frameAt_48 rfl (by decide) rfl (fun hr48 => ?_)
      refine s_iadd 50 dX12_frameAt_49 rfl ?_
      refine s_iload_n 51 dX12_frameAt_50 rfl rfl ?_
      refine s_iadd 52 dX12_frameAt_51 rfl ?_
      refine m_ald 53 3 9309 dX12_frameAt_52 rfl (by decide) rfl (fun hr52 => ?_)
      refine m_ast 54 6 1400 dX12_frameAt_53 rfl (by decide) rfl ?_
      refine s_iinc 57 dX12_frameAt_54 rfl rfl (Nat.le_of_ble_eq_true rfl) rfl ?_
      refine s_goto 25 dX12_frameAt_57 rfl ?_
      refine ih (j + 1) _ (by omega) (f1.up (by decide)) ?_
      rw [up_s, take_snoc (by omega), ev]
      exact sg_snoc' f2 (by rw [len_take_drop (by omega)]; omega)
  exact key N 0 A (by omega) frA.rf (by rw [List.take_zero]; exact sg_nil _ _)
theorem c_thereAll {s : ST} {b : Int} {ch : Nat} (hch : ch = (ru 5).toNat) (hs : RepSt ch (A 3) s) (hw : WfSt b ch s) (hru : RuM I ru) (hwr : WfRu ru) (hp : post (some (vi (sumC (fun c => (s.2.2.2.2 c).2.2.1.length) ch))) (I, A, D)) : Cm G (AM G m0 F n u) yX12_thereAll cX12_thereAll 3 (some .int) (d + 2) [.ref m0] (I, A, D) post := by
  refine Cm_intro (L := [some (.ref m0), none, none]) (by decide +kernel) (Nat.le_of_ble_eq_true rfl) rfl ?_
  have q5 := hwr.2.2.2.2.2
  have r5 : I 23 = ch := by rw [hru.2.2.2.2.2]; omega
  have w10 := hw.2.2.2.2.2.2.2.2.2.2
  have hsum := sumC_rg (f := fun c => ((s.2.2.2.2 c).2.2.1.length : Int)) (ch := ch) (b := 8) (fun c hc => by have := (w10 c hc).2.2.2.2.2.2.2.2.2.2.1; show 0 ≤ ((s.2.2.2.2 c).2.2.1.length : Int) ∧ ((s.2.2.2.2 c).2.2.1.length : Int) ≤ 8; omega)
  refine s_iconst 1 dX12_thereAll_0 rfl ?_
  refine s_istore_n 2 dX12_thereAll_1 rfl (Nat.le_of_ble_eq_true rfl) rfl ?_
  refine s_iconst 3 dX12_thereAll_2 rfl ?_
  refine s_istore_n 4 dX12_thereAll_3 rfl (Nat.le_of_ble_eq_true rfl) rfl ?_
  have key : ∀ (m k : Nat), k + m = ch → V G (AM G m0 F n u) yX12_thereAll cX12_thereAll 3 (some .int) (d + 2) (I, A, D) 4 [some (.ref m0), some (vi (sumC (fun c => (s.2.2.2.2 c).2.2.1.length) k)), some (vi k)] [] post := by
    intro m
    induction m with
    | zero =>
      intro k hk
      obtain rfl : k = ch := by omega
      refine s_iload_n 5 dX12_thereAll_4 rfl rfl ?_
      refine s_aload_n 6 dX12_thereAll_5 rfl rfl ?_
      refine m_getI 9 23 dX12_thereAll_6 rfl fl_X12_198 (by decide) rfl (fun hr6 => ?_)
      refine s_icmp_ge 12 28 dX12_thereAll_9 rfl rfl (fun g => ?_) (fun g => ?_)
      · refine s_iload_n 29 dX12_thereAll_28 rfl rfl ?_
        refine s_ireturn rfl dX12_thereAll_29 ?_
        exact hp
      · omega
    | succ m ih =>
      intro k hk
      refine s_iload_n 5 dX12_thereAll_4 rfl rfl ?_
      refine s_aload_n 6 dX12_thereAll_5 rfl rfl ?_
      refine m_getI 9 23 dX12_thereAll_6 rfl fl_X12_198 (by decide) rfl (fun hr6 => ?_)
      refine s_icmp_ge 12 28 dX12_thereAll_9 rfl rfl (fun g => ?_) (fun g => ?_)
      · omega
      refine s_iload_n 13 dX12_thereAll_12 rfl rfl ?_
      refine s_aload_n 14 dX12_thereAll_13 rfl rfl ?_
      refine s_iload_n 15 dX12_thereAll_14 rfl rfl ?_
      refine s_bipush 17 dX12_thereAll_15 rfl (k := ?_)
      refine s_V2i 20 dX12_thereAll_17 rfl km_X12_its ml_X12_286 ds_X12_its (Nat.le_of_ble_eq_true rfl) m_rec rfl (c_itsP (by decide) (by omega) (fun hr => ?_))
      refine ⟨_, rfl, ?_⟩
      refine s_iadd 21 dX12_thereAll_20 rfl ?_
      refine s_istore_n 22 dX12_thereAll_21 rfl (Nat.le_of_ble_eq_true rfl) rfl ?_
      refine s_iinc 25 dX12_thereAll_22 rfl rfl (Nat.le_of_ble_eq_true rfl) rfl ?_
      refine s_goto 4 dX12_thereAll_25 rfl ?_
      have e := (hs.2.2.2.2.2.2.2.2 k (by omega)).1.2.2.2.2.2.2.2.1
      rw [e]
      exact ih (k + 1) (by omega)
  exact key ch 0 (by omega)
theorem c_sumOf {ch : Nat} {w : Int} {f : Nat → Int} (hch : ch = (ru 5).toNat) (hs : ∀ c, c < ch → atc (A 3) c w = f c) (hwd : 0 ≤ w ∧ w < 2076) (hru : RuM I ru) (hwr : WfRu ru) (hp : post (some (vi (sumC f ch))) (I, A, D)) : Cm G (AM G m0 F n u) yX12_sumOf cX12_sumOf 4 (some .int) (d + 2) [.ref m0, vi w] (I, A, D) post := by
  refine Cm_intro (L := [some (.ref m0), some (vi w), none, none]) (by decide +kernel) (Nat.le_of_ble_eq_true rfl) rfl ?_
  have q5 := hwr.2.2.2.2.2
  have r5 : I 23 = ch := by rw [hru.2.2.2.2.2]; omega
  refine s_iconst 1 dX12_sumOf_0 rfl ?_
  refine s_istore_n 2 dX12_sumOf_1 rfl (Nat.le_of_ble_eq_true rfl) rfl ?_
  refine s_iconst 3 dX12_sumOf_2 rfl ?_
  refine s_istore_n 4 dX12_sumOf_3 rfl (Nat.le_of_ble_eq_true rfl) rfl ?_
  have key : ∀ (m k : Nat), k + m = ch → V G (AM G m0 F n u) yX12_sumOf cX12_sumOf 4 (some .int) (d + 2) (I, A, D) 4 [some (.ref m0), some (vi w), some (vi (sumC f k)), some (vi k)] [] post := by
    intro m
    induction m with
    | zero =>
      intro k hk
      obtain rfl : k = ch := by omega
      refine s_iload_n 5 dX12_sumOf_4 rfl rfl ?_
      refine s_aload_n 6 dX12_sumOf_5 rfl rfl ?_
      refine m_getI 9 23 dX12_sumOf_6 rfl fl_X12_198 (by decide) rfl (fun hr6 => ?_)
      refine s_icmp_ge 12 27 dX12_sumOf_9 rfl rfl (fun g => ?_) (fun g => ?_)
      · refine s_iload_n 28 dX12_sumOf_27 rfl rfl ?_
        refine s_ireturn rfl dX12_sumOf_28 ?_
        exact hp
      · omega
    | succ m ih =>
      intro k hk
      refine s_iload_n 5 dX12_sumOf_4 rfl rfl ?_
      refine s_aload_n 6 dX12_sumOf_5 rfl rfl ?_
      refine m_getI 9 23 dX12_sumOf_6 rfl fl_X12_198 (by decide) rfl (fun hr6 => ?_)
      refine s_icmp_ge 12 27 dX12_sumOf_9 rfl rfl (fun g => ?_) (fun g => ?_)
      · omega
      refine s_iload_n 13 dX12_sumOf_12 rfl rfl ?_
      refine s_aload_n 14 dX12_sumOf_13 rfl rfl ?_
      refine s_iload_n 15 dX12_sumOf_14 rfl rfl ?_
      refine s_iload_n 16 dX12_sumOf_15 rfl rfl ?_
      refine s_V2i 19 dX12_sumOf_16 rfl km_X12_its ml_X12_286 ds_X12_its (Nat.le_of_ble_eq_true rfl) m_rec rfl (c_itsP hwd (by omega) (fun hr => ?_))
      refine ⟨_, rfl, ?_⟩
      refine s_iadd 20 dX12_sumOf_19 rfl ?_
      refine s_istore_n 21 dX12_sumOf_20 rfl (Nat.le_of_ble_eq_true rfl) rfl ?_
      refine s_iinc 24 dX12_sumOf_21 rfl rfl (Nat.le_of_ble_eq_true rfl) rfl ?_
      refine s_goto 4 dX12_sumOf_24 rfl ?_
      rw [hs k (by omega)]
      exact ih (k + 1) (by omega)
  exact key ch 0 (by omega)
theorem c_mostLost {s : ST} {b : Int} {ch : Nat} (hch : ch = (ru 5).toNat) (hs : RepSt ch (A 3) s) (hw : WfSt b ch s) (hb : b ≤ 99000000) (hru : RuM I ru) (hwr : WfRu ru) (hp : post (some (vi (mostL (fun c => (s.2.2.2.2 c).1 4) ch : Nat))) (I, A, D)) : Cm G (AM G m0 F n u) yX12_mostLost cX12_mostLost 3 (some .int) (d + 2) [.ref m0] (I, A, D) post := by
  refine Cm_intro (L := [some (.ref m0), none, none]) (by decide +kernel) (Nat.le_of_ble_eq_true rfl) rfl ?_
  have q5 := hwr.2.2.2.2.2
  have r5 : I 23 = ch := by rw [hru.2.2.2.2.2]; omega
  have w10 := hw.2.2.2.2.2.2.2.2.2.2
  refine s_iconst 1 dX12_mostLost_0 rfl ?_
  refine s_istore_n 2 dX12_mostLost_1 rfl (Nat.le_of_ble_eq_true rfl) rfl ?_
  refine s_iconst 3 dX12_mostLost_2 rfl ?_
  refine s_istore_n 4 dX12_mostLost_3 rfl (Nat.le_of_ble_eq_true rfl) rfl ?_
  have key : ∀ (m k : Nat), k + m = ch → 1 ≤ k → V G (AM G m0 F n u) yX12_mostLost cX12_mostLost 3 (some .int) (d + 2) (I, A, D) 4 [some (.ref m0), some (vi (mostL (fun c => (s.2.2.2.2 c).1 4) k : Nat)), some (vi k)] [] post := by
    intro m
    induction m with
    | zero =>
      intro k hk h1
      obtain rfl : k = ch := by omega
      refine s_iload_n 5 dX12_mostLost_4 rfl rfl ?_
      refine s_aload_n 6 dX12_mostLost_5 rfl rfl ?_
      refine m_getI 9 23 dX12_mostLost_6 rfl fl_X12_198 (by decide) rfl (fun hr6 => ?_)
      refine s_icmp_ge 12 39 dX12_mostLost_9 rfl rfl (fun g => ?_) (fun g => ?_)
      · refine s_iload_n 40 dX12_mostLost_39 rfl rfl ?_
        refine s_ireturn rfl dX12_mostLost_40 ?_
        exact hp
      · omega
    | succ m ih =>
      intro k hk h1
      have hm := mostL_lt (fun c => (s.2.2.2.2 c).1 4) (k := k) (by omega)
      generalize hM : mostL (fun c => (s.2.2.2.2 c).1 4) k = M at hm ⊢
      refine s_iload_n 5 dX12_mostLost_4 rfl rfl ?_
      refine s_aload_n 6 dX12_mostLost_5 rfl rfl ?_
      refine m_getI 9 23 dX12_mostLost_6 rfl fl_X12_198 (by decide) rfl (fun hr6 => ?_)
      refine s_icmp_ge 12 39 dX12_mostLost_9 rfl rfl (fun g => ?_) (fun g => ?_)
      · omega
      have e1 := (hs.2.2.2.2.2.2.2.2 k (by omega)).1.2.2.2.2.2.1
      have e2 := (hs.2.2.2.2.2.2.2.2 M (by omega)).1.2.2.2.2.2.1
      have v1 := (w10 k (by omega)).2.2.2.2.1
      have v2 := (w10 M (by omega)).2.2.2.2.1
      refine s_aload_n 13 dX12_mostLost_12 rfl rfl ?_
      refine s_iload_n 14 dX12_mostLost_13 rfl rfl ?_
      refine s_iconst 15 dX12_mostLost_14 rfl ?_
      refine s_V2i 18 dX12_mostLost_15 rfl km_X12_its ml_X12_286 ds_X12_its (Nat.le_of_ble_eq_true rfl) m_rec rfl (c_itsP (by decide) (by omega) (fun hr => ?_))
      refine ⟨_, rfl, ?_⟩
      refine s_aload_n 19 dX12_mostLost_18 rfl rfl ?_
      refine s_iload_n 20 dX12_mostLost_19 rfl rfl ?_
      refine s_iconst 21 dX12_mostLost_20 rfl ?_
      refine s_V2i 24 dX12_mostLost_21 rfl km_X12_its ml_X12_286 ds_X12_its (Nat.le_of_ble_eq_true rfl) m_rec rfl (c_itsP (by decide) (by omega) (fun hr => ?_))
      refine ⟨_, rfl, ?_⟩
      rw [e1, e2]
      have j32 : ∀ v : Nat, v = mostL (fun c => (s.2.2.2.2 c).1 4) (k + 1) → V G (AM G m0 F n u) yX12_mostLost cX12_mostLost 3 (some .int) (d + 2) (I, A, D) 32 [some (.ref m0), some (vi M), some (vi k)] [vi v] post := by
        intro v hv
        refine s_istore_n 33 dX12_mostLost_32 rfl (Nat.le_of_ble_eq_true rfl) rfl ?_
        refine s_iinc 36 dX12_mostLost_33 rfl rfl (Nat.le_of_ble_eq_true rfl) rfl ?_
        refine s_goto 4 dX12_mostLost_36 rfl ?_
        rw [hv]
        exact ih (k + 1) (by omega) (by omega)
      refine s_icmp_le 27 31 dX12_mostLost_24 rfl rfl (fun g2 => ?_) (fun g2 => ?_)
      · refine s_iload_n 32 dX12_mostLost_31 rfl rfl ?_
        exact j32 M (by unfold mostL; rw [hM, if_neg (by omega)])
      · refine s_iload_n 28 dX12_mostLost_27 rfl rfl ?_
        refine s_goto 32 dX12_mostLost_28 rfl ?_
        exact j32 k (by unfold mostL; rw [hM, if_pos (by omega)])
  have h1 : mostL (fun c => (s.2.2.2.2 c).1 4) 1 = 0 := by unfold mostL; split <;> rfl
  have k9 := key (ch - 1) 1 (by omega) (by omega)
  rw [h1] at k9
  exact k9
end M15
