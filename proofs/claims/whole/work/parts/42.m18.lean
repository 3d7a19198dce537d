section M18
variable {G : GT} {m0 n u : Nat} {F : HS} {d : Nat} {I : Nat → Int} {A : Nat → Int → Int} {D : Int64} {post : Option Value → MT → Prop} {ru : RU} {r : String × Nat × String}
/-- the part at q has been read -/
def PP (I : Nat → Int) (tp : List Int) (q : Nat) : Prop := I 2 = tp.length ∧ I 4 = q ∧ I 3 = pE tp q ∧ I 6 = pK tp q ∧ (pK tp q = 2 → I 7 = nmF (pT tp q)) ∧ q ≤ tp.length
theorem PP.fr {I I' : Nat → Int} {tp : List Int} {q : Nat} {ks : List Nat} (h : PP I tp q) (hf : frI ks I I') (hk : 2 ∉ ks ∧ 4 ∉ ks ∧ 3 ∉ ks ∧ 6 ∉ ks ∧ 7 ∉ ks) : PP I' tp q := ⟨(hf _ hk.1).trans h.1, (hf _ hk.2.1).trans h.2.1, (hf _ hk.2.2.1).trans h.2.2.1, (hf _ hk.2.2.2.1).trans h.2.2.2.1, fun e => (hf _ hk.2.2.2.2).trans (h.2.2.2.2.1 e), h.2.2.2.2.2⟩
theorem pT_at {tp : List Int} {q i : Nat} (hq : q ≤ tp.length) (hi : q + i < pE tp q) : (pT tp q).getD i 0 = tp.getD (q + i) 0 := by
  have := pE_le hq
  unfold pT
  rw [List.getD_eq_getElem?_getD, List.getD_eq_getElem?_getD, List.getElem?_take, if_pos (by omega), List.getElem?_drop]
theorem pT_eq {tp w : List Int} {q : Nat} (hq : q ≤ tp.length) (hl : pE tp q - q = w.length) (h : ∀ i, i < w.length → tp.getD (q + i) 0 = w.getD i 0) : pT tp q = w := by
  have h0 := pE_le hq
  have hl2 := pT_len hq
  apply List.ext_getElem?
  intro i
  by_cases hi : i < w.length
  · have e1 := pT_at hq (i := i) (by omega)
    rw [h i hi, List.getD_eq_getElem?_getD, List.getD_eq_getElem?_getD, List.getElem?_eq_getElem hi, List.getElem?_eq_getElem (by omega)] at e1
    rw [List.getElem?_eq_getElem hi, List.getElem?_eq_getElem (by omega)]
    exact congrArg some (by simpa using e1)
  · rw [List.getElem?_eq_none (by omega), List.getElem?_eq_none (by omega)]
theorem txt_len (tx : String) : (txt tx).length = tx.length := by
  unfold txt
  rw [List.length_map]
  rfl
theorem c_isWord {tp : List Int} {q j : Nat} (hj : gSt[j]? = some r) (hP : PP I tp q) (ht : sg (A 1) 0 tp) (hl : tp.length ≤ 300) (hb : byt tp) (hp : post (some (vb (decide (I 5 = -1 ∧ isW tp q (txt r.2.2))))) (I, A, D)) : Cm G (AM G m0 F n u) yX12_isWord cX12_isWord 4 (some .boolean) (d + 4) [.ref m0, .ref (gAK G j)] (I, A, D) post := by
  obtain ⟨h2, h4, h3, h6, h7, hq⟩ := hP
  obtain ⟨g1, g2⟩ := gSt_ok j r hj
  have hE := pE_le hq
  have htl := txt_len r.2.2
  refine Cm_intro (L := [some (.ref m0), some (.ref (gAK G j)), none, none]) (by decide +kernel) (Nat.le_of_ble_eq_true rfl) rfl ?_
  have fail : ∀ x3 : Option Value, ¬ (I 5 = -1 ∧ isW tp q (txt r.2.2)) → V G (AM G m0 F n u) yX12_isWord cX12_isWord 4 (some .boolean) (d + 4) (I, A, D) 40 [some (.ref m0), some (.ref (gAK G j)), some (vi 0), x3] [] post := by
    intro x3 hn
    refine s_iload_n 41 dX12_isWord_40 rfl rfl ?_
    refine s_if_eq 44 83 dX12_isWord_41 rfl rfl (fun g => ?_) (fun g => ?_)
    · refine s_iload_n 84 dX12_isWord_83 rfl rfl ?_
      first | refine s_zreturn rfl dX12_isWord_84 ?_ | refine s_zreturn1 rfl dX12_isWord_84 ?_ | refine s_zreturn0 rfl dX12_isWord_84 ?_
      rw [decide_eq_false hn] at hp
      exact hp
    · omega
  refine s_aload_n 1 dX12_isWord_0 rfl rfl ?_
  refine m_getI 4 5 dX12_isWord_1 rfl fl_X12_103 (by decide) rfl (fun hr1 => ?_)
  refine s_iconst 5 dX12_isWord_4 rfl ?_
  refine s_icmp_ne 8 36 dX12_isWord_5 rfl rfl (fun g5 => ?_) (fun g5 => ?_)
  · refine s_iconst 37 dX12_isWord_36 rfl ?_
    refine s_istore_n 38 dX12_isWord_37 rfl (Nat.le_of_ble_eq_true rfl) rfl ?_
    refine s_iconst 39 dX12_isWord_38 rfl ?_
    refine s_istore_n 40 dX12_isWord_39 rfl (Nat.le_of_ble_eq_true rfl) rfl ?_
    exact fail _ (fun h => g5 h.1)
  refine s_aload_n 9 dX12_isWord_8 rfl rfl ?_
  refine m_getI 12 6 dX12_isWord_9 rfl fl_X12_84 (by decide) rfl (fun hr9 => ?_)
  refine s_iconst 13 dX12_isWord_12 rfl ?_
  refine s_icmp_ne 16 36 dX12_isWord_13 rfl rfl (fun g13 => ?_) (fun g13 => ?_)
  · refine s_iconst 37 dX12_isWord_36 rfl ?_
    refine s_istore_n 38 dX12_isWord_37 rfl (Nat.le_of_ble_eq_true rfl) rfl ?_
    refine s_iconst 39 dX12_isWord_38 rfl ?_
    refine s_istore_n 40 dX12_isWord_39 rfl (Nat.le_of_ble_eq_true rfl) rfl ?_
    exact fail _ (fun h => g13 (by rw [h6]; exact h.2.1))
  refine s_aload_n 17 dX12_isWord_16 rfl rfl ?_
  refine m_getI 20 3 dX12_isWord_17 rfl fl_X12_74 (by decide) rfl (fun hr17 => ?_)
  refine s_aload_n 21 dX12_isWord_20 rfl rfl ?_
  refine m_getI 24 4 dX12_isWord_21 rfl fl_X12_81 (by decide) rfl (fun hr21 => ?_)
  refine s_isub 25 dX12_isWord_24 rfl ?_
  refine s_aload_n 26 dX12_isWord_25 rfl rfl ?_
  refine s_callVS (K := fun v a' => v = some (vi r.2.2.length) ∧ a' = (I, A, D)) [] 29 j dX12_isWord_26 rfl hj rfl km_J0_length_8abf5 ml_X12_106 (by decide +kernel) (Nat.le_of_ble_eq_true rfl) (c_slength hj g1 ⟨rfl, rfl⟩) ?_
  rintro v a' ⟨rfl, rfl⟩
  refine s_icmp_ne 32 36 dX12_isWord_29 rfl rfl (fun g29 => ?_) (fun g29 => ?_)
  · refine s_iconst 37 dX12_isWord_36 rfl ?_
    refine s_istore_n 38 dX12_isWord_37 rfl (Nat.le_of_ble_eq_true rfl) rfl ?_
    refine s_iconst 39 dX12_isWord_38 rfl ?_
    refine s_istore_n 40 dX12_isWord_39 rfl (Nat.le_of_ble_eq_true rfl) rfl ?_
    refine fail _ (fun h => g29 ?_)
    have := pT_len hq
    rw [h.2.2, htl] at this
    omega
  refine s_iconst 33 dX12_isWord_32 rfl ?_
  refine s_goto 37 dX12_isWord_33 rfl ?_
  refine s_istore_n 38 dX12_isWord_37 rfl (Nat.le_of_ble_eq_true rfl) rfl ?_
  refine s_iconst 39 dX12_isWord_38 rfl ?_
  refine s_istore_n 40 dX12_isWord_39 rfl (Nat.le_of_ble_eq_true rfl) rfl ?_
  have key : ∀ (m k : Nat), k + m = r.2.2.length → (∀ i, i < k → tp.getD (q + i) 0 = (txt r.2.2).getD i 0) → V G (AM G m0 F n u) yX12_isWord cX12_isWord 4 (some .boolean) (d + 4) (I, A, D) 40 [some (.ref m0), some (.ref (gAK G j)), some (vi 1), some (vi k)] [] post := by
    intro m
    induction m with
    | zero =>
      intro k hk he
      refine s_iload_n 41 dX12_isWord_40 rfl rfl ?_
      refine s_if_eq 44 83 dX12_isWord_41 rfl rfl (fun g => ?_) (fun g => ?_)
      · omega
      refine s_iload_n 45 dX12_isWord_44 rfl rfl ?_
      refine s_aload_n 46 dX12_isWord_45 rfl rfl ?_
      refine s_callVS (K := fun v a' => v = some (vi r.2.2.length) ∧ a' = (I, A, D)) [] 49 j dX12_isWord_46 rfl hj rfl km_J0_length_8abf5 ml_X12_106 (by decide +kernel) (Nat.le_of_ble_eq_true rfl) (c_slength hj g1 ⟨rfl, rfl⟩) ?_
      rintro v a' ⟨rfl, rfl⟩
      refine s_icmp_ge 52 83 dX12_isWord_49 rfl rfl (fun g49 => ?_) (fun g49 => ?_)
      · refine s_iload_n 84 dX12_isWord_83 rfl rfl ?_
        first | refine s_zreturn rfl dX12_isWord_84 ?_ | refine s_zreturn1 rfl dX12_isWord_84 ?_ | refine s_zreturn0 rfl dX12_isWord_84 ?_
        have e : isW tp q (txt r.2.2) := ⟨by omega, pT_eq hq (by omega) (fun i hi => he i (by omega))⟩
        rw [decide_eq_true ⟨by omega, e⟩] at hp
        exact hp
      · omega
    | succ m ih =>
      intro k hk he
      have hc := g2 k (by omega)
      have hby := byt_at hb (q + k)
      refine s_iload_n 41 dX12_isWord_40 rfl rfl ?_
      refine s_if_eq 44 83 dX12_isWord_41 rfl rfl (fun g => ?_) (fun g => ?_)
      · omega
      refine s_iload_n 45 dX12_isWord_44 rfl rfl ?_
      refine s_aload_n 46 dX12_isWord_45 rfl rfl ?_
      refine s_callVS (K := fun v a' => v = some (vi r.2.2.length) ∧ a' = (I, A, D)) [] 49 j dX12_isWord_46 rfl hj rfl km_J0_length_8abf5 ml_X12_106 (by decide +kernel) (Nat.le_of_ble_eq_true rfl) (c_slength hj g1 ⟨rfl, rfl⟩) ?_
      rintro v a' ⟨rfl, rfl⟩
      refine s_icmp_ge 52 83 dX12_isWord_49 rfl rfl (fun g49 => ?_) (fun g49 => ?_)
      · omega
      refine s_aload_n 53 dX12_isWord_52 rfl rfl ?_
      refine m_getV (k := 1) 56 dX12_isWord_53 rfl fl_X12_9 (by decide) rfl ?_
      refine s_aload_n 57 dX12_isWord_56 rfl rfl ?_
      refine m_getI 60 4 dX12_isWord_57 rfl fl_X12_81 (by decide) rfl (fun hr57 => ?_)
      refine s_iload_n 61 dX12_isWord_60 rfl rfl ?_
      refine s_iadd 62 dX12_isWord_61 rfl ?_
      refine m_ald 63 1 300 dX12_isWord_62 rfl (by decide) rfl (fun hr62 => ?_)
      refine s_aload_n 64 dX12_isWord_63 rfl rfl ?_
      refine s_iload_n 65 dX12_isWord_64 rfl rfl ?_
      refine s_callVS (K := fun v a' => v = some (vi ((txt r.2.2).getD k 0)) ∧ a' = (I, A, D)) [vi k] 68 j dX12_isWord_65 rfl hj rfl km_J0_charAt_5068e ml_X12_111 ds_J0_charAt_5068e (Nat.le_of_ble_eq_true rfl) (c_scharAt hj g1 (by omega) hc ⟨rfl, rfl⟩) ?_
      rintro v a' ⟨rfl, rfl⟩
      have ev : A 1 (I 4 + (k : Int)) = tp.getD (q + k) 0 := by
        have := ht (q + k) (by omega)
        rw [← this, h4]
        congr 1
        omega
      rw [ev]
      refine s_icmp_ne 71 75 dX12_isWord_68 rfl rfl (fun g68 => ?_) (fun g68 => ?_)
      · refine s_iconst 76 dX12_isWord_75 rfl ?_
        refine s_istore_n 77 dX12_isWord_76 rfl (Nat.le_of_ble_eq_true rfl) rfl ?_
        refine s_iinc 80 dX12_isWord_77 rfl rfl (Nat.le_of_ble_eq_true rfl) rfl ?_
        refine s_goto 40 dX12_isWord_80 rfl ?_
        refine fail _ (fun h => g68 ?_)
        rw [← pT_at hq (by omega), h.2.2]
      · refine s_iconst 72 dX12_isWord_71 rfl ?_
        refine s_goto 76 dX12_isWord_72 rfl ?_
        refine s_istore_n 77 dX12_isWord_76 rfl (Nat.le_of_ble_eq_true rfl) rfl ?_
        refine s_iinc 80 dX12_isWord_77 rfl rfl (Nat.le_of_ble_eq_true rfl) rfl ?_
        refine s_goto 40 dX12_isWord_80 rfl ?_
        refine ih (k + 1) (by omega) (fun i hi => ?_)
        by_cases e : i = k
        · rw [e]; exact g68
        · exact he i (by omega)
  exact key r.2.2.length 0 (by omega) (fun i hi => absurd hi (by omega))
theorem c_takesSemicolon {tp : List Int} {q : Nat} (hP : PP I tp q) (ht : sg (A 1) 0 tp) (hl : tp.length ≤ 300) (hb : byt tp) (hp1 : I 5 = -1 → pK tp q = 3 → tp.getD q 0 = 59 → ∀ I', frI [3, 4, 6, 7] I I' → PP I' tp (pB tp (pE tp q)) → post (some (vb true)) (I', A, D)) (hp0 : ¬ (I 5 = -1 ∧ pK tp q = 3 ∧ tp.getD q 0 = 59) → post (some (vb false)) (I, A, D)) : Cm G (AM G m0 F n u) yX12_takesSemicolon cX12_takesSemicolon 2 (some .boolean) (d + 2) [.ref m0] (I, A, D) post := by
  have hP0 := hP
  obtain ⟨h2, h4, h3, h6, h7, hq⟩ := hP0
  have hE := pE_le hq
  refine Cm_intro (L := [some (.ref m0), none]) (by decide +kernel) (Nat.le_of_ble_eq_true rfl) rfl ?_
  have fail : ¬ (I 5 = -1 ∧ pK tp q = 3 ∧ tp.getD q 0 = 59) → V G (AM G m0 F n u) yX12_takesSemicolon cX12_takesSemicolon 2 (some .boolean) (d + 2) (I, A, D) 34 [some (.ref m0), none] [] post := by
    intro hn
    refine s_iconst 35 dX12_takesSemicolon_34 rfl ?_
    refine s_istore_n 36 dX12_takesSemicolon_35 rfl (Nat.le_of_ble_eq_true rfl) rfl ?_
    refine s_iload_n 37 dX12_takesSemicolon_36 rfl rfl ?_
    refine s_if_eq 40 44 dX12_takesSemicolon_37 rfl rfl (fun g => ?_) (fun g => ?_)
    · refine s_iload_n 45 dX12_takesSemicolon_44 rfl rfl ?_
      first | refine s_zreturn rfl dX12_takesSemicolon_45 ?_ | refine s_zreturn1 rfl dX12_takesSemicolon_45 ?_ | refine s_zreturn0 rfl dX12_takesSemicolon_45 ?_
      exact hp0 hn
    · omega
  refine s_aload_n 1 dX12_takesSemicolon_0 rfl rfl ?_
  refine m_getI 4 5 dX12_takesSemicolon_1 rfl fl_X12_103 (by decide) rfl (fun hr1 => ?_)
  refine s_iconst 5 dX12_takesSemicolon_4 rfl ?_
  refine s_icmp_ne 8 34 dX12_takesSemicolon_5 rfl rfl (fun g5 => ?_) (fun g5 => ?_)
  · exact fail (fun h => g5 h.1)
  refine s_aload_n 9 dX12_takesSemicolon_8 rfl rfl ?_
  refine m_getI 12 6 dX12_takesSemicolon_9 rfl fl_X12_84 (by decide) rfl (fun hr9 => ?_)
  refine s_iconst 13 dX12_takesSemicolon_12 rfl ?_
  refine s_icmp_ne 16 34 dX12_takesSemicolon_13 rfl rfl (fun g13 => ?_) (fun g13 => ?_)
  · exact fail (fun h => g13 (by rw [h6]; exact h.2.1))
  have hlt : q < tp.length := by
    rcases pK_cases tp q with ⟨k, l⟩ | ⟨k, l⟩ | ⟨k, l⟩ | ⟨k, l⟩
    · omega
    · exact l
    · exact l
    · exact l
  have ev : A 1 (I 4) = tp.getD q 0 := by
    have := ht q hlt
    rw [← this, h4]
    congr 1
    omega
  have hby := byt_at hb q
  refine s_aload_n 17 dX12_takesSemicolon_16 rfl rfl ?_
  refine m_getV (k := 1) 20 dX12_takesSemicolon_17 rfl fl_X12_9 (by decide) rfl ?_
  refine s_aload_n 21 dX12_takesSemicolon_20 rfl rfl ?_
  refine m_getI 24 4 dX12_takesSemicolon_21 rfl fl_X12_81 (by decide) rfl (fun hr21 => ?_)
  refine m_ald 25 1 300 dX12_takesSemicolon_24 rfl (by decide) rfl (fun hr24 => ?_)
  rw [ev]
  refine s_bipush 27 dX12_takesSemicolon_25 rfl (k := ?_)
  refine s_icmp_ne 30 34 dX12_takesSemicolon_27 rfl rfl (fun g27 => ?_) (fun g27 => ?_)
  · exact fail (fun h => g27 h.2.2)
  refine s_iconst 31 dX12_takesSemicolon_30 rfl ?_
  refine s_goto 35 dX12_takesSemicolon_31 rfl ?_
  refine s_istore_n 36 dX12_takesSemicolon_35 rfl (Nat.le_of_ble_eq_true rfl) rfl ?_
  refine s_iload_n 37 dX12_takesSemicolon_36 rfl rfl ?_
  refine s_if_eq 40 44 dX12_takesSemicolon_37 rfl rfl (fun g37 => ?_) (fun g37 => ?_)
  · omega
  refine s_aload_n 41 dX12_takesSemicolon_40 rfl rfl ?_
  refine s_V0v 44 dX12_takesSemicolon_41 rfl km_X12_next ml_X12_115 ds_X12_next (Nat.le_of_ble_eq_true rfl) m_rec rfl (c_next h2 h3 ht hl hb hE.2.1 (fun I1 k1 k2 k3 k4 k5 => ?_))
  refine ⟨rfl, ?_⟩
  refine s_iload_n 45 dX12_takesSemicolon_44 rfl rfl ?_
  first | refine s_zreturn rfl dX12_takesSemicolon_45 ?_ | refine s_zreturn1 rfl dX12_takesSemicolon_45 ?_ | refine s_zreturn0 rfl dX12_takesSemicolon_45 ?_
  have hpb := pB_le hE.2.1
  exact hp1 (by omega) (by omega) g27 I1 k1 ⟨(k1 2 (by decide)).trans h2, k2, k4, k3, k5, hpb.2⟩
theorem c_takesNumber {tp : List Int} {q : Nat} {lo hi : Int} (hlo : 0 ≤ lo ∧ lo ≤ hi ∧ hi ≤ 999) (h5 : I 5 = -1) (hP : PP I tp q) (ht : sg (A 1) 0 tp) (hl : tp.length ≤ 300) (hb : byt tp) (hp1 : numF tp q lo hi ≠ -1 → ∀ I', frI [3, 4, 6, 7] I I' → PP I' tp (pB tp (pE tp q)) → post (some (vi (numF tp q lo hi))) (I', A, D)) (hp0 : numF tp q lo hi = -1 → post (some (vi lo)) (up I 5 q, A, D)) : Cm G (AM G m0 F n u) yX12_takesNumber cX12_takesNumber 4 (some .int) (d + 2) [.ref m0, vi lo, vi hi] (I, A, D) post := by
  have hP0 := hP
  obtain ⟨h2, h4, h3, h6, h7, hq⟩ := hP0
  have hE := pE_le hq
  refine Cm_intro (L := [some (.ref m0), some (vi lo), some (vi hi), none]) (by decide +kernel) (Nat.le_of_ble_eq_true rfl) rfl ?_
  have fail : numF tp q lo hi = -1 → V G (AM G m0 F n u) yX12_takesNumber cX12_takesNumber 4 (some .int) (d + 2) (I, A, D) 31 [some (.ref m0), some (vi lo), some (vi hi), none] [] post := by
    intro hn
    refine s_aload_n 32 dX12_takesNumber_31 rfl rfl ?_
    refine s_V0v 35 dX12_takesNumber_32 rfl km_X12_bad ml_X12_118 ds_X12_bad (Nat.le_of_ble_eq_true rfl) m_rec rfl (c_bad ?_)
    refine ⟨rfl, ?_⟩
    refine s_iload_n 36 dX12_takesNumber_35 rfl rfl ?_
    refine s_ireturn rfl dX12_takesNumber_36 ?_
    have := hp0 hn
    rw [if_pos h5, h4]
    exact this
  refine s_aload_n 1 dX12_takesNumber_0 rfl rfl ?_
  refine m_getI 4 5 dX12_takesNumber_1 rfl fl_X12_103 (by decide) rfl (fun hr1 => ?_)
  refine s_iconst 5 dX12_takesNumber_4 rfl ?_
  refine s_icmp_ne 8 31 dX12_takesNumber_5 rfl rfl (fun g5 => ?_) (fun g5 => ?_)
  · omega
  refine s_aload_n 9 dX12_takesNumber_8 rfl rfl ?_
  refine m_getI 12 6 dX12_takesNumber_9 rfl fl_X12_84 (by decide) rfl (fun hr9 => ?_)
  refine s_iconst 13 dX12_takesNumber_12 rfl ?_
  refine s_icmp_ne 16 31 dX12_takesNumber_13 rfl rfl (fun g13 => ?_) (fun g13 => ?_)
  · refine fail ?_
    unfold numF
    rw [if_neg (fun h => g13 (by rw [h6]; exact h.1))]
  have hk : pK tp q = 2 := by omega
  have e7 := h7 hk
  refine s_aload_n 17 dX12_takesNumber_16 rfl rfl ?_
  refine m_getI 20 7 dX12_takesNumber_17 rfl fl_X12_94 (by decide) rfl (fun hr17 => ?_)
  refine s_i2lz 21 dX12_takesNumber_20 rfl ?_
  refine s_iload_n 22 dX12_takesNumber_21 rfl rfl ?_
  refine s_i2lz 23 dX12_takesNumber_22 rfl ?_
  refine s_iload_n 24 dX12_takesNumber_23 rfl rfl ?_
  refine s_i2lz 25 dX12_takesNumber_24 rfl ?_
  refine s_S3b 28 dX12_takesNumber_25 rfl km_X12_in rfl ml_X12_70 ds_X12_in (Nat.le_of_ble_eq_true rfl) (c_in (by assumption) (by constructor <;> omega) (by constructor <;> omega) ?_)
  refine ⟨_, rfl, ?_⟩
  refine s_if_neb 31 37 dX12_takesNumber_28 rfl rfl (fun g28 => ?_) (fun g28 => ?_)
  · have g28 := of_decide_eq_true g28
    have en : numF tp q lo hi = I 7 := by
      unfold numF
      rw [if_pos ⟨hk, by rw [← e7]; exact g28.1, by rw [← e7]; exact g28.2⟩, e7]
    refine s_aload_n 38 dX12_takesNumber_37 rfl rfl ?_
    refine m_getI 41 7 dX12_takesNumber_38 rfl fl_X12_94 (by decide) rfl (fun hr38 => ?_)
    refine s_istore_n 42 dX12_takesNumber_41 rfl (Nat.le_of_ble_eq_true rfl) rfl ?_
    refine s_aload_n 43 dX12_takesNumber_42 rfl rfl ?_
    refine s_V0v 46 dX12_takesNumber_43 rfl km_X12_next ml_X12_115 ds_X12_next (Nat.le_of_ble_eq_true rfl) m_rec rfl (c_next h2 h3 ht hl hb hE.2.1 (fun I1 k1 k2 k3 k4 k5 => ?_))
    refine ⟨rfl, ?_⟩
    refine s_iload_n 47 dX12_takesNumber_46 rfl rfl ?_
    refine s_ireturn rfl dX12_takesNumber_47 ?_
    have hpb := pB_le hE.2.1
    have := hp1 (by omega) I1 k1 ⟨(k1 2 (by decide)).trans h2, k2, k4, k3, k5, hpb.2⟩
    rw [en] at this
    exact this
  · have g28 := of_decide_eq_false g28
    refine fail ?_
    unfold numF
    rw [if_neg (fun h => g28 (by rw [e7]; exact h.2))]
end M18
