section M9
variable {G : GT} {m0 n u : Nat} {F : HS} {d : Nat} {I : Nat → Int} {A : Nat → Int → Int} {D : Int64} {post : Option Value → MT → Prop} {ru : RU}
theorem c_event5 {e0 e1 e2 e3 e4 : Int} (h0 : rg e0) (h1 : rg e1) (h2 : rg e2) (h3 : rg e3) (h4 : rg e4) (hc : rg (A 3 804 + 1)) (hp : ∀ A', frA [3] A A' → (∀ i, i < 804 ∨ 1005 ≤ i → A' 3 i = A 3 i) → A' 3 804 = A 3 804 + 1 → sg (A' 3) 805 [e0, e1, e2, e3, e4] → (∀ i, 810 ≤ i → i < 1005 → A' 3 i = A 3 (i - 5)) → post none (I, A', D)) : Cm G (AM G m0 F n u) yX12_event cX12_event 7 none d [.ref m0, vi e0, vi e1, vi e2, vi e3, vi e4] (I, A, D) post := by
  refine Cm_intro (L := [some (.ref m0), some (vi e0), some (vi e1), some (vi e2), some (vi e3), some (vi e4), none]) (by decide +kernel) (Nat.le_of_ble_eq_true rfl) rfl ?_
  refine s_sipush 3 dX12_event_0 rfl (k := ?_)
  refine s_istore 5 dX12_event_3 rfl (Nat.le_of_ble_eq_true rfl) rfl ?_
  have key : ∀ (j : Nat) (A' : Nat → Int → Int), j ≤ 195 → frA [3] A A' → (∀ i, i < 810 + (j : Int) ∨ 1005 ≤ i → A' 3 i = A 3 i) → (∀ i, 810 + (j : Int) ≤ i → i < 1005 → A' 3 i = A 3 (i - 5)) → V G (AM G m0 F n u) yX12_event cX12_event 7 none d (I, A', D) 5 [some (.ref m0), some (vi e0), some (vi e1), some (vi e2), some (vi e3), some (vi e4), some (vi (4 + (j : Int)))] [] post := by
    intro j
    induction j with
    | zero =>
      intro A' hj f1 f2 f3
      refine s_iload 7 dX12_event_5 rfl rfl ?_
      refine s_iconst 8 dX12_event_7 rfl ?_
      refine s_icmp_lt 11 41 dX12_event_8 rfl rfl (fun g => ?_) (fun g => ?_)
      rotate_left
      · omega
      have hn : ∀ i, i < 810 → A' 3 i = A 3 i := fun i hi => f2 i (by omega)
      have hc2 : rg (A' 3 804 + 1) := by rw [hn 804 (by omega)]; exact hc
      refine s_aload_n 42 dX12_event_41 rfl rfl ?_
      refine m_getV (k := 16) 45 dX12_event_42 rfl fl_X12_16 (by decide) rfl ?_
      refine s_sipush 48 dX12_event_45 rfl (k := ?_)
      refine s_iload_n 49 dX12_event_48 rfl rfl ?_
      refine m_ast 50 3 9309 dX12_event_49 rfl (by decide) rfl ?_
      refine s_aload_n 51 dX12_event_50 rfl rfl ?_
      refine m_getV (k := 16) 54 dX12_event_51 rfl fl_X12_16 (by decide) rfl ?_
      refine s_sipush 57 dX12_event_54 rfl (k := ?_)
      refine s_iload_n 58 dX12_event_57 rfl rfl ?_
      refine m_ast 59 3 9309 dX12_event_58 rfl (by decide) rfl ?_
      refine s_aload_n 60 dX12_event_59 rfl rfl ?_
      refine m_getV (k := 16) 63 dX12_event_60 rfl fl_X12_16 (by decide) rfl ?_
      refine s_sipush 66 dX12_event_63 rfl (k := ?_)
      refine s_iload_n 67 dX12_event_66 rfl rfl ?_
      refine m_ast 68 3 9309 dX12_event_67 rfl (by decide) rfl ?_
      refine s_aload_n 69 dX12_event_68 rfl rfl ?_
      refine m_getV (k := 16) 72 dX12_event_69 rfl fl_X12_16 (by decide) rfl ?_
      refine s_sipush 75 dX12_event_72 rfl (k := ?_)
      refine s_iload 77 dX12_event_75 rfl rfl ?_
      refine m_ast 78 3 9309 dX12_event_77 rfl (by decide) rfl ?_
      refine s_aload_n 79 dX12_event_78 rfl rfl ?_
      refine m_getV (k := 16) 82 dX12_event_79 rfl fl_X12_16 (by decide) rfl ?_
      refine s_sipush 85 dX12_event_82 rfl (k := ?_)
      refine s_iload 87 dX12_event_85 rfl rfl ?_
      refine m_ast 88 3 9309 dX12_event_87 rfl (by decide) rfl ?_
      simp only [up_s, up_up]
      generalize hX : up (up (up (up (up (A' 3) 805 e0) 806 e1) 807 e2) 808 e3) 809 e4 = X
      have hX1 : ∀ i, i < 805 ∨ 810 ≤ i → X i = A' 3 i := fun i hi => by rw [← hX, up_n (by omega), up_n (by omega), up_n (by omega), up_n (by omega), up_n (by omega)]
      have hX2 : sg X 805 [e0, e1, e2, e3, e4] := by
        rw [← hX]
        exact sg_snoc' (l := [e0, e1, e2, e3]) (sg_snoc' (l := [e0, e1, e2]) (sg_snoc' (l := [e0, e1]) (sg_snoc' (l := [e0]) (sg_snoc' (l := []) (sg_nil _ _) rfl) rfl) rfl) rfl) rfl
      have hc3 : up A' 3 X 3 804 = A 3 804 := by rw [up_s, hX1 804 (by omega), hn 804 (by omega)]
      refine s_aload_n 89 dX12_event_88 rfl rfl ?_
      refine m_getV (k := 16) 92 dX12_event_89 rfl fl_X12_16 (by decide) rfl ?_
      refine s_sipush 95 dX12_event_92 rfl (k := ?_)
      refine s_dup2 (q := 96) (hd := dX12_event_95) (hq := rfl) (k := ?_)
      refine m_ald 97 3 9309 dX12_event_96 rfl (by decide) rfl (fun hr96 => ?_)
      refine s_iconst 98 dX12_event_97 rfl ?_
      refine s_iadd 99 dX12_event_98 rfl ?_
      refine m_ast 100 3 9309 dX12_event_99 rfl (by decide) rfl ?_
      refine s_return rfl dX12_event_100 ?_
      rw [hc3, up_s, up_up]
      refine hp _ (f1.up (by decide)) (fun i hi => ?_) ?_ ?_ (fun i hi1 hi2 => ?_)
      · rw [up_s, up_n (by omega), hX1 i (by omega)]
        exact f2 i (by omega)
      · rw [up_s, up_s]
      · rw [up_s]
        exact sg_out hX2 (Or.inl (by decide))
      · rw [up_s, up_n (by omega), hX1 i (by omega)]
        exact f3 i (by omega) hi2
    | succ j ih =>
      intro A' hj f1 f2 f3
      refine s_iload 7 dX12_event_5 rfl rfl ?_
      refine s_iconst 8 dX12_event_7 rfl ?_
      refine s_icmp_lt 11 41 dX12_event_8 rfl rfl (fun g => ?_) (fun g => ?_)
      · omega
      refine s_aload_n 12 dX12_event_11 rfl rfl ?_
      refine m_getV (k := 16) 15 dX12_event_12 rfl fl_X12_16 (by decide) rfl ?_
      refine s_sipush 18 dX12_event_15 rfl (k := ?_)
      refine s_iload 20 dX12_event_18 rfl rfl ?_
      refine s_iadd 21 dX12_event_20 rfl ?_
      refine s_aload_n 22 dX12_event_21 rfl rfl ?_
      refine m_getV (k := 16) 25 dX12_event_22 rfl fl_X12_16 (by decide) rfl ?_
      refine s_sipush 28 dX12_event_25 rfl (k := ?_)
      refine s_iload 30 dX12_event_28 rfl rfl ?_
      refine s_iadd 31 dX12_event_30 rfl ?_
      refine s_iconst 32 dX12_event_31 rfl ?_
      refine s_isub 33 dX12_event_32 rfl ?_
      refine m_ald 34 3 9309 dX12_event_33 rfl (by decide) rfl (fun hr33 => ?_)
      refine m_ast 35 3 9309 dX12_event_34 rfl (by decide) rfl ?_
      refine s_iinc 38 dX12_event_35 rfl rfl (Nat.le_of_ble_eq_true rfl) rfl ?_
      refine s_goto 5 dX12_event_38 rfl ?_
      rw [show (4 : Int) + ((j + 1 : Nat) : Int) + -1 = 4 + (j : Int) by omega]
      refine ih _ (by omega) (f1.up (by decide)) (fun i hi => ?_) (fun i hi1 hi2 => ?_)
      · rw [up_s, up_n (by omega)]
        exact f2 i (by omega)
      · rw [up_s]
        by_cases e : i = 805 + (4 + ((j + 1 : Nat) : Int))
        · subst e
          rw [up_s, f2 _ (by omega)]
        · rw [up_n e]
          exact f3 i (by omega) hi2
  exact key 195 A (by omega) frA.rf (fun _ _ => rfl) (fun i h1 h2 => by omega)
/-- an event comes into a state -/
theorem RepSt.ev {ch : Nat} {f f' : Int → Int} {b : Int} {s : ST} {ev : List Int} (h : RepSt ch f s) (hw : WfSt b ch s) (hl : ev.length = 5) (f1 : ∀ i, i < 804 ∨ 1005 ≤ i → f' i = f i) (f2 : f' 804 = f 804 + 1) (f3 : sg f' 805 ev) (f4 : ∀ i, 810 ≤ i → i < 1005 → f' i = f (i - 5)) : RepSt ch f' (s.1, s.2.1, up s.2.2.1 2 (s.2.2.1 2 + 1), evF s ev, s.2.2.2.2) := by
  obtain ⟨a0, a1, a2, a3, a4, a5, a6, a7, a8⟩ := h
  obtain ⟨w0, w1, w2, w3, w4, w5, w6, w7, w8, w9, w10⟩ := hw
  refine ⟨by rw [f1 _ (by omega)]; exact a0, show sg f' 1 s.1 from sg_congr a1 fun k x y => f1 k (by omega), by rw [f1 _ (by omega)]; exact a2, by rw [f1 _ (by omega)]; exact a3, show sg f' 603 s.2.1 from sg_congr a4 fun k x y => f1 k (by omega), by rw [f1 _ (by omega)]; exact a5, by rw [f2, a6]; rfl, fun i hi => ?_, fun c hc => (a8 c hc).congr (w10 c hc) fun k x y => f1 _ (by omega)⟩
  show sg f' (805 + 5 * (i : Int)) ((evF s ev).getD i [])
  have hi : i < (evF s ev).length := hi
  unfold evF at hi ⊢
  rw [List.length_take, List.length_cons] at hi
  rw [List.getD_eq_getElem?_getD, List.getElem?_take_of_lt (by omega)]
  cases i with
  | zero => exact f3
  | succ i =>
    rw [List.getElem?_cons_succ, ← List.getD_eq_getElem?_getD]
    have h5 := (w9 _ (getD_mem (x := []) (show i < s.2.2.2.1.length by omega))).1
    intro k hk
    rw [f4 _ (by omega) (by omega), ← a7 i (by omega) k hk]
    congr 1
    omega
/-- the reader's row is empty -/
theorem RepSt.rd0 {ch : Nat} {f f' : Int → Int} {b : Int} {s : ST} (h : RepSt ch f s) (hw : WfSt b ch s) (f1 : ∀ i, i ≠ 601 → i ≠ 602 → f' i = f i) (f2 : f' 601 = 0) (f3 : f' 602 = 0) : RepSt ch f' (s.1, [], up s.2.2.1 0 0, s.2.2.2) := by
  obtain ⟨a0, a1, a2, a3, a4, a5, a6, a7, a8⟩ := h
  obtain ⟨w0, w1, w2, w3, w4, w5, w6, w7, w8, w9, w10⟩ := hw
  refine ⟨by rw [f1 _ (by decide) (by decide)]; exact a0, show sg f' 1 s.1 from sg_congr a1 fun k x y => f1 k (by omega) (by omega), f2, f3, sg_nil _ _, by rw [f1 _ (by decide) (by decide)]; exact a5, by rw [f1 _ (by decide) (by decide)]; exact a6, fun i hi => ?_, fun c hc => (a8 c hc).congr (w10 c hc) fun k x y => f1 _ (by omega) (by omega)⟩
  have hi : i < s.2.2.2.1.length := hi
  show sg f' (805 + 5 * (i : Int)) (s.2.2.2.1.getD i [])
  exact sg_congr (a7 i hi) fun k x y => f1 k (by omega) (by omega)
theorem evS_wf {b b' : Int} {ch : Nat} {s : ST} {ev : List Int} {ps : Nat → CH} (hw : WfSt b ch s) (hb : b + 1 ≤ b') (hl : ev.length = 5) (he : ∀ x ∈ ev, -1 ≤ x ∧ x ≤ 600) (hps : ∀ c, c < ch → WfCh b' (ps c)) : WfSt b' ch (s.1, s.2.1, up s.2.2.1 2 (s.2.2.1 2 + 1), evF s ev, ps) := by
  have h := evF_wf hw hl he
  obtain ⟨w0, w1, w2, w3, w4, w5, w6, w7, w8, w9, w10⟩ := hw
  exact ⟨w0, w1, w2, w3, w4, w5, w6, by show 0 ≤ s.2.2.1 2 + 1 ∧ s.2.2.1 2 + 1 ≤ b'; omega, h.1, h.2, hps⟩
theorem c_marks {s : ST} {b : Int} {ch : Nat} (hch : ch = (ru 5).toNat) (hs : RepSt ch (A 3) s) (hw : WfSt b ch s) (hb : b ≤ 99000000) (hru : RuM I ru) (hwr : WfRu ru) (hp : ∀ I' A', frI [26, 28] I I' → frA [3, 5, 6] A A' → RepSt ch (A' 3) (markF ru s) → post none (I', A', D)) : Cm G (AM G m0 F n u) yX12_marks cX12_marks 6 none (d + 5) [.ref m0] (I, A, D) post := by
  refine Cm_intro (L := [some (.ref m0), none, none, none, none, none]) (by decide +kernel) (Nat.le_of_ble_eq_true rfl) rfl ?_
  obtain ⟨a0, a1, a2, a3, a4, a5, a6, a7, a8⟩ := id hs
  obtain ⟨w0, w1, w2, w3, w4, w5, w6, w7, w8, w9, w10⟩ := id hw
  obtain ⟨r0, r1, r2, r3, r4, r5⟩ := id hru
  obtain ⟨q0, q1, q2, q3, q4, q5⟩ := id hwr
  have fin : ∀ (I' : Nat → Int) (A' : Nat → Int → Int) (s' : ST) (b' : Int), frI [26, 28] I I' → frA [3, 5, 6] A A' → RepSt ch (A' 3) s' → WfSt b' ch s' → markF ru s = (s'.1, [], up s'.2.2.1 0 0, s'.2.2.2) → V G (AM G m0 F n u) yX12_marks cX12_marks 6 none (d + 5) (I', A', D) 134 [some (.ref m0), none, none, none, none, none] [] post := by
    intro I' A' s' b' f1 f2 f3 f4 f5
    refine s_aload_n 135 dX12_marks_134 rfl rfl ?_
    refine m_getV (k := 16) 138 dX12_marks_135 rfl fl_X12_16 (by decide) rfl ?_
    refine s_sipush 141 dX12_marks_138 rfl (k := ?_)
    refine s_iconst 142 dX12_marks_141 rfl ?_
    refine m_ast 143 3 9309 dX12_marks_142 rfl (by decide) rfl ?_
    refine s_aload_n 144 dX12_marks_143 rfl rfl ?_
    refine m_getV (k := 16) 147 dX12_marks_144 rfl fl_X12_16 (by decide) rfl ?_
    refine s_sipush 150 dX12_marks_147 rfl (k := ?_)
    refine s_iconst 151 dX12_marks_150 rfl ?_
    refine m_ast 152 3 9309 dX12_marks_151 rfl (by decide) rfl ?_
    refine s_return rfl dX12_marks_152 ?_
    rw [up_up, up_s]
    refine hp _ _ f1 (f2.up (by decide)) ?_
    rw [f5, up_s]
    exact f3.rd0 f4 (fun i h1 h2 => by rw [up_n h2, up_n h1]) (by rw [up_n (by decide), up_s]) (up_s _ _ _)
  refine s_aload_n 1 dX12_marks_0 rfl rfl ?_
  refine m_getV (k := 16) 4 dX12_marks_1 rfl fl_X12_16 (by decide) rfl ?_
  refine s_sipush 7 dX12_marks_4 rfl (k := ?_)
  refine m_ald 8 3 9309 dX12_marks_7 rfl (by decide) rfl (fun hr7 => ?_)
  rw [a2]
  refine s_istore_n 9 dX12_marks_8 rfl (Nat.le_of_ble_eq_true rfl) rfl ?_
  refine s_aload_n 10 dX12_marks_9 rfl rfl ?_
  refine m_getV (k := 16) 13 dX12_marks_10 rfl fl_X12_16 (by decide) rfl ?_
  refine s_sipush 16 dX12_marks_13 rfl (k := ?_)
  refine m_ald 17 3 9309 dX12_marks_16 rfl (by decide) rfl (fun hr16 => ?_)
  refine s_iconst 18 dX12_marks_17 rfl ?_
  have j27 : ∀ big : Bool, (big = true ↔ s.2.2.1 0 ≠ 0) → V G (AM G m0 F n u) yX12_marks cX12_marks 6 none (d + 5) (I, A, D) 27 [some (.ref m0), some (vi s.2.1.length), some (vb big), none, none, none] [] post := by
    intro big hbig
    refine s_iload_n 28 dX12_marks_27 rfl rfl ?_
    refine s_if_le 31 134 dX12_marks_28 rfl rfl (fun g => ?_) (fun g => ?_)
    · refine V_kill 1 (V_kill 2 ?_)
      have h0 : s.2.1.length = 0 := by omega
      have hr : s.2.1 = [] := List.eq_nil_of_length_eq_zero h0
      have hz : s.2.2.1 0 = 0 := by rcases w5 with h | h <;> omega
      refine fin I A s b frI.rf frA.rf hs hw ?_
      rw [show markF ru s = s from if_pos h0, show up s.2.2.1 0 0 = s.2.2.1 from up_self hz, ← hr]
    refine s_iconst 32 dX12_marks_31 rfl ?_
    refine s_istore_n 33 dX12_marks_32 rfl (Nat.le_of_ble_eq_true rfl) rfl ?_
    have key : ∀ (k j : Nat) (A' : Nat → Int → Int), j + k = s.2.1.length → frA [6] A A' → sg (A' 6) 0 (s.2.1.take j) → V G (AM G m0 F n u) yX12_marks cX12_marks 6 none (d + 5) (I, A', D) 33 [some (.ref m0), some (vi s.2.1.length), some (vb big), some (vi j), none, none] [] post := by
      intro k
      induction k with
      | zero =>
        intro j A' hj f1 f2
        obtain rfl : j = s.2.1.length := by omega
        rw [List.take_length] at f2
        refine s_iload_n 34 dX12_marks_33 rfl rfl ?_
        refine s_iload_n 35 dX12_marks_34 rfl rfl ?_
        refine s_icmp_ge 38 60 dX12_marks_35 rfl rfl (fun g2 => ?_) (fun g2 => ?_)
        rotate_left
        · omega
        have hru1 : RuM (up I 28 (s.2.1.length : Int)) ru := ⟨r0, r1, r2, r3, r4, r5⟩
        refine s_aload_n 61 dX12_marks_60 rfl rfl ?_
        refine s_iload_n 62 dX12_marks_61 rfl rfl ?_
        refine m_putI 65 28 dX12_marks_62 rfl fl_X12_214 (by decide) rfl rfl rfl rfl ?_
        refine s_aload_n 66 dX12_marks_65 rfl rfl ?_
        refine s_iload_nb 67 dX12_marks_66 rfl rfl ?_
        refine s_V1i 70 dX12_marks_67 rfl km_X12_frameIs ml_X12_357 ds_X12_frameIs (Nat.le_of_ble_eq_true rfl) m_rec rfl (c_frameIs hru1 hwr f2 w3 (up_s _ _ _) (by omega) (fun I2 A2 k1 k2 k3 => ?_))
        refine ⟨_, rfl, ?_⟩
        refine s_istore_n 71 dX12_marks_70 rfl (Nat.le_of_ble_eq_true rfl) rfl ?_
        have v1 : frI [26, 28] I I2 := (frI.rf.up (by decide)).trans k1 (by decide)
        have v2 : frA [3, 5, 6] A A2 := (f1.wk (by decide)).trans k2 (by decide)
        have v3 : A2 3 = A 3 := (k2 3 (by decide)).trans (f1 3 (by decide))
        have hs2 : RepSt ch (A2 3) s := by rw [v3]; exact hs
        have h804 : rg (A2 3 804 + 1) := by rw [v3, a6]; omega
        have hnz : ¬ s.2.1.length = 0 := by omega
        have lose : ∀ kv : Int, kv = 2 ∨ kv = 3 → markF ru s = (s.1, [], up (up s.2.2.1 0 0) 2 (s.2.2.1 2 + 1), evF s [kv, -1, s.2.1.length, -1, -1], s.2.2.2.2) → V G (AM G m0 F n u) yX12_marks cX12_marks 6 none (d + 5) (I2, A2, D) 81 [some (.ref m0), some (vi s.2.1.length), none, some (vi kv), none, none] [] post := by
          intro kv hkv hm
          refine s_aload_n 82 dX12_marks_81 rfl rfl ?_
          refine s_iload_n 83 dX12_marks_82 rfl rfl ?_
          refine s_iconst 84 dX12_marks_83 rfl ?_
          refine s_iload_n 85 dX12_marks_84 rfl rfl ?_
          refine s_iconst 86 dX12_marks_85 rfl ?_
          refine s_iconst 87 dX12_marks_86 rfl ?_
          refine s_V5v 90 dX12_marks_87 rfl km_X12_event ml_X12_361 ds_X12_event (Nat.le_of_ble_eq_true rfl) m_rec rfl (c_event5 (by omega) (by decide) (by omega) (by decide) (by decide) h804 (fun A3 p1 p2 p3 p4 p5 => ?_))
          refine ⟨rfl, ?_⟩
          refine s_goto 134 dX12_marks_90 rfl ?_
          refine V_kill 1 (V_kill 3 ?_)
          refine fin I2 A3 (s.1, s.2.1, up s.2.2.1 2 (s.2.2.1 2 + 1), evF s [kv, -1, s.2.1.length, -1, -1], s.2.2.2.2) (b + 1) v1 (v2.trans p1 (by decide)) (hs2.ev hw rfl p2 p3 p4 p5) (evS_wf hw (Int.le_refl _) rfl (by intro x hx; simp only [List.mem_cons, List.not_mem_nil, or_false] at hx; omega) fun c hc => (w10 c hc).mono (by omega)) ?_
          rw [hm, up_swap _ _ _ (show (0 : Nat) ≠ 2 by decide)]
        by_cases hov : s.2.2.1 0 ≠ 0 ∨ (judge ru s.2.1).1 = 2
        · have hkv : (if big = true then (2 : Int) else (judge ru s.2.1).1) = 2 := by
            by_cases hB : big = true
            · rw [if_pos hB]
            · rw [if_neg hB]; exact hov.resolve_left (fun g => hB (hbig.mpr g))
          rw [hkv]
          refine s_iload_n 72 dX12_marks_71 rfl rfl ?_
          refine s_iconst 73 dX12_marks_72 rfl ?_
          refine s_icmp_eq 76 81 dX12_marks_73 rfl rfl (fun g3 => ?_) (fun g3 => ?_)
          rotate_left
          · omega
          refine V_kill 2 ?_
          exact lose 2 (Or.inl rfl) (by unfold markF; rw [if_neg hnz, if_pos hov])
        have hB : big = false := by
          cases big
          · rfl
          · exact absurd (Or.inl (hbig.mp rfl)) hov
        subst hB
        have h2 : (judge ru s.2.1).1 ≠ 2 := fun g => hov (Or.inr g)
        rw [if_neg (show ¬ false = true by decide)]
        by_cases h3 : (judge ru s.2.1).1 = 3
        · rw [h3]
          refine s_iload_n 72 dX12_marks_71 rfl rfl ?_
          refine s_iconst 73 dX12_marks_72 rfl ?_
          refine s_icmp_eq 76 81 dX12_marks_73 rfl rfl (fun g3 => ?_) (fun g3 => ?_)
          · omega
          refine s_iload_n 77 dX12_marks_76 rfl rfl ?_
          refine s_iconst 78 dX12_marks_77 rfl ?_
          refine s_icmp_ne 81 93 dX12_marks_78 rfl rfl (fun g4 => ?_) (fun g4 => ?_)
          · omega
          refine V_kill 2 ?_
          exact lose 3 (Or.inr rfl) (by unfold markF; rw [if_neg hnz, if_neg hov, if_pos h3])
        obtain ⟨t1, t2, t3, t4, t5⟩ := judge_told w3 h2 h3
        obtain ⟨k5, k6⟩ := k3 rfl t4
        clear k3
        have hm : markF ru s = if (judge ru s.2.1).1 = 4 then (s.1, [], up (up s.2.2.1 0 0) 2 (s.2.2.1 2 + 1), evF s [4, (judge ru s.2.1).2.getD 0 0, s.2.1.length, (partF ru (judge ru s.2.1).2).length, (judge ru s.2.1).2.getD 0 0 / 64], s.2.2.2.2) else (s.1, [], up (up s.2.2.1 0 0) 2 (s.2.2.1 2 + 1), evF s [(accF (s.2.2.2.2 ((judge ru s.2.1).2.getD 0 0 / 64).toNat) ((judge ru s.2.1).2.getD 0 0) (partF ru (judge ru s.2.1).2)).1, (judge ru s.2.1).2.getD 0 0, s.2.1.length, (partF ru (judge ru s.2.1).2).length, (judge ru s.2.1).2.getD 0 0 / 64], up s.2.2.2.2 ((judge ru s.2.1).2.getD 0 0 / 64).toNat (accF (s.2.2.2.2 ((judge ru s.2.1).2.getD 0 0 / 64).toNat) ((judge ru s.2.1).2.getD 0 0) (partF ru (judge ru s.2.1).2)).2) := by
          rw [markF, if_neg hnz, if_neg hov, if_neg h3]
        generalize hpl : (judge ru s.2.1).2 = pl at *
        generalize hkd : (judge ru s.2.1).1 = kd at *
        have hb0 := byt_at t1 0
        have hpn := partF_len ru pl
        have e0 : A2 5 0 = pl.getD 0 0 := sg_slice k6 (k := 0) (by omega)
        have u21 : I2 21 = ru 3 := (v1 21 (by decide)).trans r3
        have j121 : ∀ (kv : Int) (A3 : Nat → Int → Int) (s1 : ST) (b1 : Int), 0 ≤ kv ∧ kv ≤ 6 → frA [3, 5, 6] A A3 → RepSt ch (A3 3) s1 → WfSt b1 ch s1 → b1 ≤ 99000100 → s1.2.1 = s.2.1 → markF ru s = (s1.1, [], up (up s1.2.2.1 0 0) 2 (s1.2.2.1 2 + 1), evF s1 [kv, pl.getD 0 0, s.2.1.length, (partF ru pl).length, pl.getD 0 0 / 64], s1.2.2.2.2) → V G (AM G m0 F n u) yX12_marks cX12_marks 6 none (d + 5) (I2, A3, D) 121 [some (.ref m0), some (vi s.2.1.length), none, none, some (vi (pl.getD 0 0)), some (vi (partF ru pl).length)] [vi kv, .ref m0] post := by
          intro kv A3 s1 b1 z1 z2 z3 z4 z5 z6 z7
          have z804 : rg (A3 3 804 + 1) := by rw [z3.2.2.2.2.2.2.1]; have := z4.2.2.2.2.2.2.2.1; omega
          refine s_iload 123 dX12_marks_121 rfl rfl ?_
          refine s_iload_n 124 dX12_marks_123 rfl rfl ?_
          refine s_iload 126 dX12_marks_124 rfl rfl ?_
          refine s_iload 128 dX12_marks_126 rfl rfl ?_
          refine s_bipush 130 dX12_marks_128 rfl (k := ?_)
          refine s_idiv (q := 131) (hd := dX12_marks_130) (hq := rfl) (k := ?_)
          refine s_V5v 134 dX12_marks_131 rfl km_X12_event ml_X12_361 ds_X12_event (Nat.le_of_ble_eq_true rfl) m_rec rfl (c_event5 (by omega) (by omega) (by omega) (by omega) (by omega) z804 (fun A4 p1 p2 p3 p4 p5 => ?_))
          refine ⟨rfl, ?_⟩
          refine V_kill 1 (V_kill 4 (V_kill 5 ?_))
          refine fin I2 A4 (s1.1, s1.2.1, up s1.2.2.1 2 (s1.2.2.1 2 + 1), evF s1 [kv, pl.getD 0 0, s.2.1.length, (partF ru pl).length, pl.getD 0 0 / 64], s1.2.2.2.2) (b1 + 1) v1 (z2.trans p1 (by decide)) (z3.ev z4 rfl p2 p3 p4 p5) (evS_wf z4 (Int.le_refl _) rfl (by intro x hx; simp only [List.mem_cons, List.not_mem_nil, or_false] at hx; omega) fun c hc => (z4.2.2.2.2.2.2.2.2.2.2 c hc).mono (by omega)) ?_
          rw [z7, up_swap _ _ _ (show (0 : Nat) ≠ 2 by decide)]
        refine s_iload_n 72 dX12_marks_71 rfl rfl ?_
        refine s_iconst 73 dX12_marks_72 rfl ?_
        refine s_icmp_eq 76 81 dX12_marks_73 rfl rfl (fun g3 => ?_) (fun g3 => ?_)
        · omega
        refine s_iload_n 77 dX12_marks_76 rfl rfl ?_
        refine s_iconst 78 dX12_marks_77 rfl ?_
        refine s_icmp_ne 81 93 dX12_marks_78 rfl rfl (fun g4 => ?_) (fun g4 => ?_)
        rotate_left
        · omega
        refine s_aload_n 94 dX12_marks_93 rfl rfl ?_
        refine m_getV (k := 25) 97 dX12_marks_94 rfl fl_X12_29 (by decide) rfl ?_
        refine s_iconst 98 dX12_marks_97 rfl ?_
        refine m_ald 99 5 1400 dX12_marks_98 rfl (by decide) rfl (fun hr98 => ?_)
        rw [e0]
        refine s_istore 101 dX12_marks_99 rfl (Nat.le_of_ble_eq_true rfl) rfl ?_
        refine s_aload_n 102 dX12_marks_101 rfl rfl ?_
        refine s_V0i 105 dX12_marks_102 rfl km_X12_partLong ml_X12_352 ds_X12_partLong (Nat.le_of_ble_eq_true rfl) m_rec rfl (c_partLong ?_)
        refine ⟨_, rfl, ?_⟩
        rw [show I2 26 - 1 - (ckl (I2 21) : Nat) = ((partF ru pl).length : Nat) by rw [u21, hpn]; omega]
        refine s_istore 107 dX12_marks_105 rfl (Nat.le_of_ble_eq_true rfl) rfl ?_
        refine s_aload_n 108 dX12_marks_107 rfl rfl ?_
        refine s_iload_n 109 dX12_marks_108 rfl rfl ?_
        refine s_iconst 110 dX12_marks_109 rfl ?_
        refine s_icmp_ne 113 117 dX12_marks_110 rfl rfl (fun g5 => ?_) (fun g5 => ?_)
        · have hk0 : kd = 0 := by omega
          obtain ⟨t6, t7⟩ := t5 hk0
          rw [if_neg (by omega)] at hm
          have hcn : (pl.getD 0 0 / 64).toNat < ch := by omega
          refine s_aload_n 118 dX12_marks_117 rfl rfl ?_
          refine s_V0i 121 dX12_marks_118 rfl km_X12_takesFrame ml_X12_365 ds_X12_takesFrame (Nat.le_of_ble_eq_true rfl) m_rec rfl (c_takesFrame (ru := ru) (c := (pl.getD 0 0 / 64).toNat) (by omega) (hs2.2.2.2.2.2.2.2.2 _ hcn) (w10 _ hcn) (by omega) k5 k6 t1 (by omega) u21 t3 (by omega) rfl (by omega) (fun A3 p1 p2 p3 => ?_))
          refine ⟨_, rfl, ?_⟩
          have hk := accF_rg (c := s.2.2.2.2 (pl.getD 0 0 / 64).toNat) (h := pl.getD 0 0) (pt := partF ru pl)
          refine V_kill 2 (V_kill 3 ?_)
          refine j121 _ A3 (s.1, s.2.1, s.2.2.1, s.2.2.2.1, up s.2.2.2.2 (pl.getD 0 0 / 64).toNat (accF (s.2.2.2.2 (pl.getD 0 0 / 64).toNat) (pl.getD 0 0) (partF ru pl)).2) (b + 20) hk (v2.trans p1 (by decide)) (hs2.port hw p2 p3) ?_ (by omega) rfl hm
          refine ⟨w0, w1, w2, w3, w4, w5, w6, by show 0 ≤ s.2.2.1 2 ∧ s.2.2.1 2 ≤ b + 20; omega, w8, w9, fun c hc => ?_⟩
          show WfCh (b + 20) (up s.2.2.2.2 (pl.getD 0 0 / 64).toNat _ c)
          by_cases e : c = (pl.getD 0 0 / 64).toNat
          · subst e
            rw [up_s]
            exact accF_wf (w10 _ hc) (byt_take (byt_drop t1 1) _) (by omega)
          · rw [up_n e]
            exact (w10 c hc).mono (by omega)
        · have hk4 : kd = 4 := by omega
          rw [if_pos hk4] at hm
          refine s_iconst 114 dX12_marks_113 rfl ?_
          refine s_goto 121 dX12_marks_114 rfl ?_
          refine V_kill 2 (V_kill 3 ?_)
          exact j121 4 A2 s b (by omega) v2 hs2 hw (by omega) rfl hm
      | succ k ih =>
        intro j A' hj f1 f2
        have e3 : A' 3 = A 3 := f1 3 (by decide)
        have ev : A' 3 (603 + (j : Int)) = s.2.1.getD j 0 := by rw [e3]; exact a4 j (by omega)
        refine s_iload_n 34 dX12_marks_33 rfl rfl ?_
        refine s_iload_n 35 dX12_marks_34 rfl rfl ?_
        refine s_icmp_ge 38 60 dX12_marks_35 rfl rfl (fun g2 => ?_) (fun g2 => ?_)
        · omega
        refine s_aload_n 39 dX12_marks_38 rfl rfl ?_
        refine m_getV (k := 27) 42 dX12_marks_39 rfl fl_X12_32 (by decide) rfl ?_
        refine s_iload_n 43 dX12_marks_42 rfl rfl ?_
        refine s_aload_n 44 dX12_marks_43 rfl rfl ?_
        refine m_getV (k := 16) 47 dX12_marks_44 rfl fl_X12_16 (by decide) rfl ?_
        refine s_sipush 50 dX12_marks_47 rfl (k := ?_)
        refine s_iload_n 51 dX12_marks_50 rfl rfl ?_
        refine s_iadd 52 dX12_marks_51 rfl ?_
        refine m_ald 53 3 9309 dX12_marks_52 rfl (by decide) rfl (fun hr52 => ?_)
        refine m_ast 54 6 1400 dX12_marks_53 rfl (by decide) rfl ?_
        refine s_iinc 57 dX12_marks_54 rfl rfl (Nat.le_of_ble_eq_true rfl) rfl ?_
        refine s_goto 33 dX12_marks_57 rfl ?_
        refine ih (j + 1) _ (by omega) (f1.up (by decide)) ?_
        have et : s.2.1.take (j + 1) = s.2.1.take j ++ [s.2.1.getD j 0] := by
          have := take_snoc (bs := s.2.1) (p := 0) (r := j) (by omega)
          rw [List.drop_zero, Nat.zero_add] at this
          exact this
        rw [up_s, et, ev]
        exact sg_snoc' f2 (by rw [List.length_take_of_le (by omega)]; omega)
    exact key s.2.1.length 0 A (by omega) frA.rf (by rw [List.take_zero]; exact sg_nil _ _)
  refine s_icmp_ne 21 25 dX12_marks_18 rfl rfl (fun g => ?_) (fun g => ?_)
  · refine s_iconst 26 dX12_marks_25 rfl ?_
    refine s_istore_n 27 dX12_marks_26 rfl (Nat.le_of_ble_eq_true rfl) rfl ?_
    exact j27 false (by rcases w5 with h | h <;> simp <;> omega)
  · refine s_iconst 22 dX12_marks_21 rfl ?_
    refine s_goto 26 dX12_marks_22 rfl ?_
    refine s_istore_n 27 dX12_marks_26 rfl (Nat.le_of_ble_eq_true rfl) rfl ?_
    exact j27 true (by simp; omega)
theorem c_readsByte {s : ST} {b : Int} {ch : Nat} {x : Int} (hch : ch = (ru 5).toNat) (hs : RepSt ch (A 3) s) (hw : WfSt b ch s) (hb : b ≤ 99000000) (hru : RuM I ru) (hwr : WfRu ru) (hx : 0 ≤ x ∧ x ≤ 255) (hp : ∀ I' A', frI [26, 28] I I' → frA [3, 5, 6] A A' → RepSt ch (A' 3) (byteF ru s x) → post none (I', A', D)) : Cm G (AM G m0 F n u) yX12_readsByte cX12_readsByte 2 none (d + 6) [.ref m0, vi x] (I, A, D) post := by
  refine Cm_intro (L := [some (.ref m0), some (vi x)]) (by decide +kernel) (Nat.le_of_ble_eq_true rfl) rfl ?_
  obtain ⟨a0, a1, a2, a3, a4, a5, a6, a7, a8⟩ := id hs
  obtain ⟨w0, w1, w2, w3, w4, w5, w6, w7, w8, w9, w10⟩ := id hw
  refine s_iload_n 1 dX12_readsByte_0 rfl rfl ?_
  refine s_if_ne 4 11 dX12_readsByte_1 rfl rfl (fun g => ?_) (fun g => ?_)
  rotate_left
  · rw [show byteF ru s x = markF ru s from if_pos (by omega)] at hp
    refine s_aload_n 5 dX12_readsByte_4 rfl rfl ?_
    refine s_V0v 8 dX12_readsByte_5 rfl km_X12_marks ml_X12_368 ds_X12_marks (Nat.le_of_ble_eq_true rfl) m_rec rfl (c_marks hch hs hw hb hru hwr (fun I1 A1 k1 k2 k3 => ?_))
    refine ⟨rfl, ?_⟩
    refine s_goto 67 dX12_readsByte_8 rfl ?_
    refine s_return rfl dX12_readsByte_67 ?_
    exact hp I1 A1 k1 k2 k3
  rw [show byteF ru s x = (if s.2.1.length = 200 then (s.1, s.2.1, up s.2.2.1 0 1, s.2.2.2) else (s.1, s.2.1 ++ [x], s.2.2)) from if_neg (by omega)] at hp
  refine s_aload_n 12 dX12_readsByte_11 rfl rfl ?_
  refine m_getV (k := 16) 15 dX12_readsByte_12 rfl fl_X12_16 (by decide) rfl ?_
  refine s_sipush 18 dX12_readsByte_15 rfl (k := ?_)
  refine m_ald 19 3 9309 dX12_readsByte_18 rfl (by decide) rfl (fun hr18 => ?_)
  refine s_sipush 22 dX12_readsByte_19 rfl (k := ?_)
  rw [a2]
  refine s_icmp_ne 25 37 dX12_readsByte_22 rfl rfl (fun g2 => ?_) (fun g2 => ?_)
  · rw [if_neg (by omega)] at hp
    have e601 : rg (A 3 601 + 1) := by rw [a2]; omega
    refine s_aload_n 38 dX12_readsByte_37 rfl rfl ?_
    refine m_getV (k := 16) 41 dX12_readsByte_38 rfl fl_X12_16 (by decide) rfl ?_
    refine s_sipush 44 dX12_readsByte_41 rfl (k := ?_)
    refine s_aload_n 45 dX12_readsByte_44 rfl rfl ?_
    refine m_getV (k := 16) 48 dX12_readsByte_45 rfl fl_X12_16 (by decide) rfl ?_
    refine s_sipush 51 dX12_readsByte_48 rfl (k := ?_)
    refine m_ald 52 3 9309 dX12_readsByte_51 rfl (by decide) rfl (fun hr51 => ?_)
    refine s_iadd 53 dX12_readsByte_52 rfl ?_
    refine s_iload_n 54 dX12_readsByte_53 rfl rfl ?_
    refine m_ast 55 3 9309 dX12_readsByte_54 rfl (by decide) rfl ?_
    rw [a2]
    have e9 : up A 3 (up (A 3) (603 + (s.2.1.length : Int)) x) 3 601 = s.2.1.length := by rw [up_s, up_n (by omega)]; exact a2
    refine s_aload_n 56 dX12_readsByte_55 rfl rfl ?_
    refine m_getV (k := 16) 59 dX12_readsByte_56 rfl fl_X12_16 (by decide) rfl ?_
    refine s_sipush 62 dX12_readsByte_59 rfl (k := ?_)
    refine s_dup2 (q := 63) (hd := dX12_readsByte_62) (hq := rfl) (k := ?_)
    refine m_ald 64 3 9309 dX12_readsByte_63 rfl (by decide) rfl (fun hr63 => ?_)
    refine s_iconst 65 dX12_readsByte_64 rfl ?_
    refine s_iadd 66 dX12_readsByte_65 rfl ?_
    refine m_ast 67 3 9309 dX12_readsByte_66 rfl (by decide) rfl ?_
    refine s_return rfl dX12_readsByte_67 ?_
    rw [e9, up_s, up_up]
    refine hp _ _ frI.rf (frA.rf.up (by decide)) ?_
    rw [up_s]
    have ag : ∀ i, i ≠ 601 → i ≠ 603 + (s.2.1.length : Int) → up (up (A 3) (603 + (s.2.1.length : Int)) x) 601 ((s.2.1.length : Int) + 1) i = A 3 i := fun i h1 h2 => by rw [up_n h1, up_n h2]
    refine ⟨by rw [ag _ (by decide) (by omega)]; exact a0, show sg _ 1 s.1 from sg_congr a1 fun k y z => ag k (by omega) (by omega), ?_, by rw [ag _ (by decide) (by omega)]; exact a3, ?_, by rw [ag _ (by decide) (by omega)]; exact a5, by rw [ag _ (by decide) (by omega)]; exact a6, fun i hi => ?_, fun c hc => (a8 c hc).congr (w10 c hc) fun k y z => ag _ (by omega) (by omega)⟩
    · rw [up_s]
      show _ = ((s.2.1 ++ [x]).length : Int)
      rw [List.length_append, List.length_singleton]
      rfl
    · show sg _ 603 (s.2.1 ++ [x])
      refine sg_congr (sg_snoc a4 (v := x)) fun k y z => ?_
      rw [up_n (by omega)]
    · have hi : i < s.2.2.2.1.length := hi
      have h5 := (w9 _ (getD_mem (x := []) hi)).1
      show sg _ (805 + 5 * (i : Int)) (s.2.2.2.1.getD i [])
      exact sg_congr (a7 i hi) fun k y z => ag k (by omega) (by omega)
  · rw [if_pos (by omega)] at hp
    refine s_aload_n 26 dX12_readsByte_25 rfl rfl ?_
    refine m_getV (k := 16) 29 dX12_readsByte_26 rfl fl_X12_16 (by decide) rfl ?_
    refine s_sipush 32 dX12_readsByte_29 rfl (k := ?_)
    refine s_iconst 33 dX12_readsByte_32 rfl ?_
    refine m_ast 34 3 9309 dX12_readsByte_33 rfl (by decide) rfl ?_
    refine s_goto 67 dX12_readsByte_34 rfl ?_
    refine s_return rfl dX12_readsByte_67 ?_
    refine hp _ _ frI.rf (frA.rf.up (by decide)) ?_
    rw [up_s]
    have ag : ∀ i, i ≠ 602 → up (A 3) 602 1 i = A 3 i := fun i h1 => up_n h1
    refine ⟨by rw [ag _ (by decide)]; exact a0, show sg _ 1 s.1 from sg_congr a1 fun k y z => ag k (by omega), by rw [ag _ (by decide)]; exact a2, rfl, show sg _ 603 s.2.1 from sg_congr a4 fun k y z => ag k (by omega), by rw [ag _ (by decide)]; exact a5, by rw [ag _ (by decide)]; exact a6, fun i hi => ?_, fun c hc => (a8 c hc).congr (w10 c hc) fun k y z => ag _ (by omega)⟩
    have hi : i < s.2.2.2.1.length := hi
    show sg _ (805 + 5 * (i : Int)) (s.2.2.2.1.getD i [])
    exact sg_congr (a7 i hi) fun k y z => ag k (by omega)
end M9
