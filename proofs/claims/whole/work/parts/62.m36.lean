section M36
variable {G : GT} {m0 n u : Nat} {F : HS} {d : Nat} {I : Nat → Int} {A : Nat → Int → Int} {D : Int64} {post : Option Value → MT → Prop} {S : SY} {b : Int}
theorem getD_any {α : Type} {l : List α} {k : Nat} (h : k < l.length) (x y : α) : l.getD k x = l.getD k y := by
  rw [List.getD_eq_getElem?_getD, List.getD_eq_getElem?_getD, List.getElem?_eq_getElem h]
  rfl
theorem getD_dropLast {α : Type} {l : List α} {k : Nat} (h : k < l.length - 1) (x : α) : l.dropLast.getD k x = l.getD k x := by
  rw [List.getD_eq_getElem?_getD, List.getD_eq_getElem?_getD, List.getElem?_dropLast, if_pos h]
theorem o_undo (hm : RepM I A S) (hw : WfSy b S) (hp : ∀ I' A', RepM I' A' (oUndo S).2 → post (some (vi (oUndo S).1)) (I', A', D)) : Cm G (AM G m0 F n u) yX12_undo cX12_undo 2 (some .int) d [.ref m0] (I, A, D) post := by
  obtain ⟨tp, bx, hd, rf, il, ru, tl, s, ps, im⟩ := S
  obtain ⟨-, -, -, -, m1, -, -, m3, m4, m2⟩ := id hm
  obtain ⟨-, -, -, -, w1, -, w3, w4, w2⟩ := id hw
  refine Cm_intro (L := [some (.ref m0), none]) (by decide +kernel) (Nat.le_of_ble_eq_true rfl) rfl ?_
  have e33 : up I 0 0 33 = ps.length := by rw [up_n (by decide)]; exact m3
  refine s_aload_n 1 dX12_undo_0 rfl rfl ?_
  refine s_iconst 2 dX12_undo_1 rfl ?_
  refine m_putI 5 0 dX12_undo_2 rfl fl_X12_60 (by decide) rfl rfl rfl rfl ?_
  refine s_aload_n 6 dX12_undo_5 rfl rfl ?_
  refine m_getI 9 33 dX12_undo_6 rfl fl_X12_205 (by decide) rfl (fun hr6 => ?_)
  refine s_if_ne 12 14 dX12_undo_9 rfl rfl (fun g => ?_) (fun g => ?_)
  rotate_left
  · refine s_iconst 13 dX12_undo_12 rfl ?_
    refine s_ireturn rfl dX12_undo_13 ?_
    rw [show oUndo (tp, bx, hd, rf, il, ru, tl, s, ps, im) = (-1, tp, bx, hd, rf, il, ru, tl, s, ps, im) from if_pos (by omega)] at hp
    exact hp _ _ (hm.scr (frI.rf.up (by decide)) frA.rf)
  rw [show oUndo (tp, bx, hd, rf, il, ru, tl, s, ps, im) = ((ps.length : Int) - 1, tp, bx, hd, rf, il, ru, tl, ps.getD (ps.length - 1) s, ps.dropLast, im) from if_neg (by omega)] at hp
  have hil : il = 1 := by
    rcases w1 with h | h
    · have := (w3 h).2.1; rw [this] at e33; exact absurd (show up I 0 0 33 = 0 from e33) g
    · exact h
  subst hil
  obtain ⟨hru, htl, hs, hps, him⟩ := m2 rfl
  obtain ⟨hwr, hwt, ⟨hws, hwc⟩, hwp, hwi⟩ := w2 rfl
  have h5 := hwr.2.2.2.2.2
  refine s_aload_n 15 dX12_undo_14 rfl rfl ?_
  refine s_dup (q := 16) (hd := dX12_undo_15) (hq := rfl) (k := ?_)
  refine m_getI 19 33 dX12_undo_16 rfl fl_X12_205 (by decide) rfl (fun hr16 => ?_)
  refine s_iconst 20 dX12_undo_19 rfl ?_
  refine s_isub 21 dX12_undo_20 rfl ?_
  refine m_putI 24 33 dX12_undo_21 rfl fl_X12_205 (by decide) rfl rfl rfl rfl ?_
  refine s_iconst 25 dX12_undo_24 rfl ?_
  refine s_istore_n 26 dX12_undo_25 rfl (Nat.le_of_ble_eq_true rfl) rfl ?_
  rw [e33]
  have key : ∀ (m k : Nat) (A2 : Nat → Int → Int), k + m = 9309 → frA [3] A A2 → (∀ i, 0 ≤ i → i < (k : Int) → A2 3 i = A 8 (9309 * ((ps.length : Int) - 1) + i)) → V G (AM G m0 F n u) yX12_undo cX12_undo 2 (some .int) d (up (up I 0 0) 33 ((ps.length : Int) - 1), A2, D) 26 [some (.ref m0), some (vi k)] [] post := by
    intro m
    induction m with
    | zero =>
      intro k A2 hk q1 q2
      refine s_iload_n 27 dX12_undo_26 rfl rfl ?_
      refine s_sipush 30 dX12_undo_27 rfl (k := ?_)
      refine s_icmp_ge 33 60 dX12_undo_30 rfl rfl (fun g2 => ?_) (fun g2 => ?_)
      rotate_left
      · omega
      refine s_aload_n 61 dX12_undo_60 rfl rfl ?_
      refine m_getI 64 33 dX12_undo_61 rfl fl_X12_205 (by decide) rfl (fun hr61 => ?_)
      refine s_ireturn rfl dX12_undo_64 ?_
      rw [up_s]
      have hlt : ps.length - 1 < ps.length := by omega
      refine hp _ _ (hm.st ((frI.rf.up (by decide)).up (by decide)) (q1.wk (by decide)) ?_ ?_ ?_ ?_ ?_)
      · rw [up_s, List.length_dropLast]; omega
      · rw [up_n (by decide), up_n (by decide)]; exact m4
      · refine (hps (ps.length - 1) hlt).congr (hwp _ (getD_mem hlt)).1 (by omega) (fun i x y => ?_)
        rw [q2 i x (by omega)]
        show _ = A 8 (9309 * ((ps.length - 1 : Nat) : Int) + i)
        congr 1
        omega
      · intro k9 hk9
        rw [List.length_dropLast] at hk9
        rw [q1 8 (by decide)]
        have e9 : ps.dropLast.getD k9 (ps.getD (ps.length - 1) s) = ps.getD k9 s := (getD_dropLast hk9 _).trans (getD_any (by omega) _ _)
        rw [e9]
        exact hps k9 (by omega)
      · intro x hx; rw [q1 14 (by decide)]; exact him x hx
    | succ m ih =>
      intro k A2 hk q1 q2
      refine s_iload_n 27 dX12_undo_26 rfl rfl ?_
      refine s_sipush 30 dX12_undo_27 rfl (k := ?_)
      refine s_icmp_ge 33 60 dX12_undo_30 rfl rfl (fun g2 => ?_) (fun g2 => ?_)
      · omega
      refine s_aload_n 34 dX12_undo_33 rfl rfl ?_
      refine m_getV (k := 16) 37 dX12_undo_34 rfl fl_X12_16 (by decide) rfl ?_
      refine s_iload_n 38 dX12_undo_37 rfl rfl ?_
      refine s_aload_n 39 dX12_undo_38 rfl rfl ?_
      refine m_getV (k := 32) 42 dX12_undo_39 rfl fl_X12_39 (by decide) rfl ?_
      refine s_sipush 45 dX12_undo_42 rfl (k := ?_)
      refine s_aload_n 46 dX12_undo_45 rfl rfl ?_
      refine m_getI 49 33 dX12_undo_46 rfl fl_X12_205 (by decide) rfl (fun hr46 => ?_)
      refine s_imul 50 dX12_undo_49 rfl ?_
      refine s_iload_n 51 dX12_undo_50 rfl rfl ?_
      refine s_iadd 52 dX12_undo_51 rfl ?_
      rw [up_s]
      refine m_ald 53 8 111708 dX12_undo_52 rfl (by decide) rfl (fun hr52 => ?_)
      refine m_ast 54 3 9309 dX12_undo_53 rfl (by decide) rfl ?_
      refine s_iinc 57 dX12_undo_54 rfl rfl (Nat.le_of_ble_eq_true rfl) rfl ?_
      refine s_goto 26 dX12_undo_57 rfl ?_
      refine ih (k + 1) _ (by omega) (q1.up (by decide)) (fun i x y => ?_)
      rw [up_s]
      by_cases e : i = (k : Int)
      · subst e; rw [up_s, q1 8 (by decide)]
      · rw [up_n e]; exact q2 i x (by omega)
  exact key 9309 0 A (by omega) frA.rf (fun i x y => by omega)
theorem o_image (hm : RepM I A S) (hw : WfSy b S) (hp : ∀ I' A', RepM I' A' (oImage S).2 → post (some (vi (oImage S).1)) (I', A', D)) : Cm G (AM G m0 F n u) yX12_image cX12_image 2 (some .int) d [.ref m0] (I, A, D) post := by
  obtain ⟨tp, bx, hd, rf, il, ru, tl, s, ps, im⟩ := S
  obtain ⟨-, -, -, -, m1, -, -, m3, m4, m2⟩ := id hm
  obtain ⟨-, -, -, -, w1, -, w3, w4, w2⟩ := id hw
  refine Cm_intro (L := [some (.ref m0), none]) (by decide +kernel) (Nat.le_of_ble_eq_true rfl) rfl ?_
  have e17 : up I 0 0 17 = il := by rw [up_n (by decide)]; exact m1
  refine s_aload_n 1 dX12_image_0 rfl rfl ?_
  refine s_iconst 2 dX12_image_1 rfl ?_
  refine m_putI 5 0 dX12_image_2 rfl fl_X12_60 (by decide) rfl rfl rfl rfl ?_
  refine s_aload_n 6 dX12_image_5 rfl rfl ?_
  refine m_getI 9 17 dX12_image_6 rfl fl_X12_188 (by decide) rfl (fun hr6 => ?_)
  refine s_if_ne 12 14 dX12_image_9 rfl rfl (fun g => ?_) (fun g => ?_)
  rotate_left
  · refine s_iconst 13 dX12_image_12 rfl ?_
    refine s_ireturn rfl dX12_image_13 ?_
    rw [show oImage (tp, bx, hd, rf, il, ru, tl, s, ps, im) = (-1, tp, bx, hd, rf, il, ru, tl, s, ps, im) from if_pos (by omega)] at hp
    exact hp _ _ (hm.scr (frI.rf.up (by decide)) frA.rf)
  have hil : il = 1 := by omega
  subst hil
  rw [show oImage (tp, bx, hd, rf, 1, ru, tl, s, ps, im) = ((s.1.length : Int), tp, bx, hd, rf, 1, ru, tl, s, ps, some s) by rw [oImage]; exact if_neg (by decide)] at hp
  obtain ⟨hru, htl, hs, hps, him⟩ := m2 rfl
  obtain ⟨hwr, hwt, ⟨hws, hwc⟩, hwp, hwi⟩ := w2 rfl
  have h5 := hwr.2.2.2.2.2
  refine s_iconst 15 dX12_image_14 rfl ?_
  refine s_istore_n 16 dX12_image_15 rfl (Nat.le_of_ble_eq_true rfl) rfl ?_
  have key : ∀ (m k : Nat) (A2 : Nat → Int → Int), k + m = 9309 → frA [14] A A2 → (∀ i, 0 ≤ i → i < (k : Int) → A2 14 i = A 3 i) → V G (AM G m0 F n u) yX12_image cX12_image 2 (some .int) d (up I 0 0, A2, D) 16 [some (.ref m0), some (vi k)] [] post := by
    intro m
    induction m with
    | zero =>
      intro k A2 hk q1 q2
      refine s_iload_n 17 dX12_image_16 rfl rfl ?_
      refine s_sipush 20 dX12_image_17 rfl (k := ?_)
      refine s_icmp_ge 23 41 dX12_image_20 rfl rfl (fun g2 => ?_) (fun g2 => ?_)
      rotate_left
      · omega
      refine s_aload_n 42 dX12_image_41 rfl rfl ?_
      refine s_iconst 43 dX12_image_42 rfl ?_
      refine m_putI 46 43 dX12_image_43 rfl fl_X12_208 (by decide) rfl rfl rfl rfl ?_
      refine s_aload_n 47 dX12_image_46 rfl rfl ?_
      refine m_getV (k := 16) 50 dX12_image_47 rfl fl_X12_16 (by decide) rfl ?_
      refine s_iconst 51 dX12_image_50 rfl ?_
      refine m_ald 52 3 9309 dX12_image_51 rfl (by decide) rfl (fun hr51 => ?_)
      refine s_ireturn rfl dX12_image_52 ?_
      rw [q1 3 (by decide), hs.1]
      refine hp _ _ (hm.st ((frI.rf.up (by decide)).up (by decide)) (q1.wk (by decide)) ?_ ?_ ?_ ?_ ?_)
      · rw [up_n (by decide), up_n (by decide)]; exact m3
      · rw [up_s]; rfl
      · rw [q1 3 (by decide)]; exact hs
      · intro k9 hk9; rw [q1 8 (by decide)]; exact hps k9 hk9
      · intro x hx
        cases hx
        exact hs.congr hws (by omega) (fun i x y => q2 i x (by omega))
    | succ m ih =>
      intro k A2 hk q1 q2
      refine s_iload_n 17 dX12_image_16 rfl rfl ?_
      refine s_sipush 20 dX12_image_17 rfl (k := ?_)
      refine s_icmp_ge 23 41 dX12_image_20 rfl rfl (fun g2 => ?_) (fun g2 => ?_)
      · omega
      refine s_aload_n 24 dX12_image_23 rfl rfl ?_
      refine m_getV (k := 42) 27 dX12_image_24 rfl fl_X12_57 (by decide) rfl ?_
      refine s_iload_n 28 dX12_image_27 rfl rfl ?_
      refine s_aload_n 29 dX12_image_28 rfl rfl ?_
      refine m_getV (k := 16) 32 dX12_image_29 rfl fl_X12_16 (by decide) rfl ?_
      refine s_iload_n 33 dX12_image_32 rfl rfl ?_
      refine m_ald 34 3 9309 dX12_image_33 rfl (by decide) rfl (fun hr33 => ?_)
      refine m_ast 35 14 9309 dX12_image_34 rfl (by decide) rfl ?_
      refine s_iinc 38 dX12_image_35 rfl rfl (Nat.le_of_ble_eq_true rfl) rfl ?_
      refine s_goto 16 dX12_image_38 rfl ?_
      refine ih (k + 1) _ (by omega) (q1.up (by decide)) (fun i x y => ?_)
      rw [up_s]
      by_cases e : i = (k : Int)
      · subst e; rw [up_s, q1 3 (by decide)]
      · rw [up_n e]; exact q2 i x (by omega)
  exact key 9309 0 A (by omega) frA.rf (fun i x y => by omega)
theorem o_back (hm : RepM I A S) (hw : WfSy b S) (hp : ∀ I' A', RepM I' A' (oBack S).2 → post (some (vi (oBack S).1)) (I', A', D)) : Cm G (AM G m0 F n u) yX12_back cX12_back 2 (some .int) d [.ref m0] (I, A, D) post := by
  obtain ⟨tp, bx, hd, rf, il, ru, tl, s, ps, im⟩ := S
  obtain ⟨-, -, -, -, m1, -, -, m3, m4, m2⟩ := id hm
  obtain ⟨-, -, -, -, w1, -, w3, w4, w2⟩ := id hw
  refine Cm_intro (L := [some (.ref m0), none]) (by decide +kernel) (Nat.le_of_ble_eq_true rfl) rfl ?_
  have e43 : up I 0 0 43 = if im.isSome then 1 else 0 := by rw [up_n (by decide)]; exact m4
  refine s_aload_n 1 dX12_back_0 rfl rfl ?_
  refine s_iconst 2 dX12_back_1 rfl ?_
  refine m_putI 5 0 dX12_back_2 rfl fl_X12_60 (by decide) rfl rfl rfl rfl ?_
  refine s_aload_n 6 dX12_back_5 rfl rfl ?_
  refine m_getI 9 43 dX12_back_6 rfl fl_X12_208 (by decide) rfl (fun hr6 => ?_)
  refine s_if_ne 12 14 dX12_back_9 rfl rfl (fun g => ?_) (fun g => ?_)
  rotate_left
  · refine s_iconst 13 dX12_back_12 rfl ?_
    refine s_ireturn rfl dX12_back_13 ?_
    have hn : im = none := by
      cases im with
      | none => rfl
      | some x => rw [e43] at g; exact absurd (show (1 : Int) = 0 from g) (by decide)
    subst hn
    exact hp _ _ (hm.scr (frI.rf.up (by decide)) frA.rf)
  obtain ⟨si, rfl⟩ : ∃ si, im = some si := by
    cases im with
    | none => exact absurd e43 g
    | some x => exact ⟨x, rfl⟩
  have hil : il = 1 := by
    rcases w1 with h | h
    · exact absurd (w3 h).2.2.1 (by simp)
    · exact h
  subst hil
  have hp : ∀ I' A', RepM I' A' (tp, bx, hd, rf, 1, ru, tl, si, [], some si) → post (some (vi (si.1.length : Int))) (I', A', D) := hp
  obtain ⟨hru, htl, hs, hps, him⟩ := m2 rfl
  obtain ⟨hwr, hwt, ⟨hws, hwc⟩, hwp, hwi⟩ := w2 rfl
  have h5 := hwr.2.2.2.2.2
  have hsi := him si rfl
  have hwsi := (hwi si rfl).1
  refine s_iconst 15 dX12_back_14 rfl ?_
  refine s_istore_n 16 dX12_back_15 rfl (Nat.le_of_ble_eq_true rfl) rfl ?_
  have key : ∀ (m k : Nat) (A2 : Nat → Int → Int), k + m = 9309 → frA [3] A A2 → (∀ i, 0 ≤ i → i < (k : Int) → A2 3 i = A 14 i) → V G (AM G m0 F n u) yX12_back cX12_back 2 (some .int) d (up I 0 0, A2, D) 16 [some (.ref m0), some (vi k)] [] post := by
    intro m
    induction m with
    | zero =>
      intro k A2 hk q1 q2
      refine s_iload_n 17 dX12_back_16 rfl rfl ?_
      refine s_sipush 20 dX12_back_17 rfl (k := ?_)
      refine s_icmp_ge 23 41 dX12_back_20 rfl rfl (fun g2 => ?_) (fun g2 => ?_)
      rotate_left
      · omega
      refine s_aload_n 42 dX12_back_41 rfl rfl ?_
      refine s_iconst 43 dX12_back_42 rfl ?_
      refine m_putI 46 33 dX12_back_43 rfl fl_X12_205 (by decide) rfl rfl rfl rfl ?_
      refine s_aload_n 47 dX12_back_46 rfl rfl ?_
      refine m_getV (k := 16) 50 dX12_back_47 rfl fl_X12_16 (by decide) rfl ?_
      refine s_iconst 51 dX12_back_50 rfl ?_
      refine m_ald 52 3 9309 dX12_back_51 rfl (by decide) rfl (fun hr51 => ?_)
      refine s_ireturn rfl dX12_back_52 ?_
      rw [q2 0 (by decide) (by omega), hsi.1]
      refine hp _ _ (hm.st ((frI.rf.up (by decide)).up (by decide)) (q1.wk (by decide)) ?_ ?_ ?_ ?_ ?_)
      · rw [up_s]; rfl
      · rw [up_n (by decide), up_n (by decide)]; exact m4
      · exact hsi.congr hwsi (by omega) (fun i x y => q2 i x (by omega))
      · intro k9 hk9; exact absurd hk9 (by simp)
      · intro x hx; rw [q1 14 (by decide)]; exact him x hx
    | succ m ih =>
      intro k A2 hk q1 q2
      refine s_iload_n 17 dX12_back_16 rfl rfl ?_
      refine s_sipush 20 dX12_back_17 rfl (k := ?_)
      refine s_icmp_ge 23 41 dX12_back_20 rfl rfl (fun g2 => ?_) (fun g2 => ?_)
      · omega
      refine s_aload_n 24 dX12_back_23 rfl rfl ?_
      refine m_getV (k := 16) 27 dX12_back_24 rfl fl_X12_16 (by decide) rfl ?_
      refine s_iload_n 28 dX12_back_27 rfl rfl ?_
      refine s_aload_n 29 dX12_back_28 rfl rfl ?_
      refine m_getV (k := 42) 32 dX12_back_29 rfl fl_X12_57 (by decide) rfl ?_
      refine s_iload_n 33 dX12_back_32 rfl rfl ?_
      refine m_ald 34 14 9309 dX12_back_33 rfl (by decide) rfl (fun hr33 => ?_)
      refine m_ast 35 3 9309 dX12_back_34 rfl (by decide) rfl ?_
      refine s_iinc 38 dX12_back_35 rfl rfl (Nat.le_of_ble_eq_true rfl) rfl ?_
      refine s_goto 16 dX12_back_38 rfl ?_
      refine ih (k + 1) _ (by omega) (q1.up (by decide)) (fun i x y => ?_)
      rw [up_s]
      by_cases e : i = (k : Int)
      · subst e; rw [up_s, q1 14 (by decide)]
      · rw [up_n e]; exact q2 i x (by omega)
  exact key 9309 0 A (by omega) frA.rf (fun i x y => by omega)
theorem o_channel {z w : Int} (hz : rg z) (hv : rg w) (hm : RepM I A S) (hw : WfSy b S) (hb : b ≤ 90000000) (hp : ∀ I' A', RepM I' A' S → I' 0 = (if (aChan S z w).isSome then 0 else 1) → post (some (vi ((aChan S z w).getD 0))) (I', A', D)) : Cm G (AM G m0 F n u) yX12_channel cX12_channel 3 (some .int) (d + 2) [.ref m0, vi z, vi w] (I, A, D) post := by
  obtain ⟨tp, bx, hd, rf, il, ru, tl, s, ps, im⟩ := S
  obtain ⟨-, -, -, -, m1, -, m5, m3, m4, m2⟩ := id hm
  obtain ⟨-, -, -, -, w1, -, w3, w4, w2⟩ := id hw
  refine Cm_intro (L := [some (.ref m0), some (vi z), some (vi w)]) (by decide +kernel) (Nat.le_of_ble_eq_true rfl) rfl ?_
  have no : ¬ (il = 1 ∧ 0 ≤ z ∧ z < ru 5 ∧ 0 ≤ w ∧ w ≤ 11) → V G (AM G m0 F n u) yX12_channel cX12_channel 3 (some .int) (d + 2) (I, A, D) 25 [some (.ref m0), some (vi z), some (vi w)] [.ref m0] post := by
    intro hno
    refine s_iconst 26 dX12_channel_25 rfl ?_
    refine m_putI 29 0 dX12_channel_26 rfl fl_X12_60 (by decide) rfl rfl rfl rfl ?_
    refine s_aload_n 30 dX12_channel_29 rfl rfl ?_
    refine m_getI 33 0 dX12_channel_30 rfl fl_X12_60 (by decide) rfl (fun hr30 => ?_)
    refine s_iconst 34 dX12_channel_33 rfl ?_
    rw [up_s]
    refine s_icmp_ne 37 39 dX12_channel_34 rfl rfl (fun g => ?_) (fun g => ?_)
    · omega
    refine s_iconst 38 dX12_channel_37 rfl ?_
    refine s_ireturn rfl dX12_channel_38 ?_
    have e : aChan (tp, bx, hd, rf, il, ru, tl, s, ps, im) z w = none := if_neg hno
    rw [e] at hp
    exact hp _ _ (hm.scr (frI.rf.up (by decide)) frA.rf) (by rw [up_s]; rfl)
  refine s_aload_n 1 dX12_channel_0 rfl rfl ?_
  refine s_aload_n 2 dX12_channel_1 rfl rfl ?_
  refine s_iload_n 3 dX12_channel_2 rfl rfl ?_
  refine s_V1b 6 dX12_channel_3 rfl km_X12_isChannel ml_X12_283 ds_X12_isChannel (Nat.le_of_ble_eq_true rfl) m_rec rfl (c_isChannel hz (by rw [m1]; exact w1) m5 ?_)
  refine ⟨_, rfl, ?_⟩
  refine s_if_eqb 9 25 dX12_channel_6 rfl rfl (fun g1 => ?_) (fun g1 => ?_)
  · have g1 := of_decide_eq_false g1
    refine no (fun h => g1 ⟨by omega, h.2.1, ?_⟩)
    have := (m2 h.1).1.2.2.2.2.2
    omega
  have g1 := of_decide_eq_true g1
  have hil : il = 1 := by omega
  subst hil
  obtain ⟨hru, htl, hs, hps, him⟩ := m2 rfl
  obtain ⟨hwr, hwt, ⟨hws, hwc⟩, hwp, hwi⟩ := w2 rfl
  have h5 := hru.2.2.2.2.2
  have h6 := hwr.2.2.2.2.2
  refine s_iload_n 10 dX12_channel_9 rfl rfl ?_
  refine s_i2lz 11 dX12_channel_10 rfl ?_
  refine s_lconstz 12 dX12_channel_11 rfl ?_
  refine s_ldc2z 15 (11) dX12_channel_12 rfl kc_X12_381 rfl ?_
  refine s_S3b 18 dX12_channel_15 rfl km_X12_in rfl ml_X12_70 ds_X12_in (Nat.le_of_ble_eq_true rfl) (c_in hv (by decide) (by decide) ?_)
  refine ⟨_, rfl, ?_⟩
  refine s_if_eqb 21 25 dX12_channel_18 rfl rfl (fun g2 => ?_) (fun g2 => ?_)
  · have g2 := of_decide_eq_false g2
    exact no (fun h => g2 ⟨h.2.2.2.1, h.2.2.2.2⟩)
  have g2 := of_decide_eq_true g2
  have g3 : 0 ≤ w := g2.1
  have g4 : w ≤ 11 := g2.2
  obtain ⟨c, rfl⟩ := Int.eq_ofNat_of_zero_le g1.2.1
  have hcc : c < (ru 5).toNat := by omega
  have hx := hs.2.2.2.2.2.2.2.2 c hcc
  have hwx := hws.2.2.2.2.2.2.2.2.2.2 c hcc
  have ht1 := htl c hcc
  have hp := hp (up I 0 0) A (hm.scr (frI.rf.up (by decide)) frA.rf)
  have e : aChan (tp, bx, hd, rf, 1, ru, tl, s, ps, im) (c : Int) w = some (if w = 0 then (s.2.2.2.2 c).1 0 else if w = 1 then tl c else if w = 2 then ((s.2.2.2.2 c).2.1.length : Int) else if w = 3 then (s.2.2.2.2 c).1 1 else if w = 4 then (s.2.2.2.2 c).1 2 else if w = 5 then (s.2.2.2.2 c).1 3 else if w = 6 then (s.2.2.2.2 c).1 4 else if w = 7 then (s.2.2.2.2 c).1 5 else if w = 8 then ((s.2.2.2.2 c).2.2.1.length : Int) else if w = 9 then (s.2.2.2.2 c).1 6 else if w = 10 then ((s.2.2.2.2 c).2.2.2.length : Int) else (s.2.2.2.2 c).1 7) := if_pos ⟨rfl, by omega, by omega, g3, g4⟩
  rw [e] at hp
  have hp := hp (by rw [up_s]; rfl)
  generalize s.2.2.2.2 c = x at *
  obtain ⟨⟨a0, a1, a2, a3, a4, a5, a6, a7, a8, a9, a10, a11⟩, hW, hS, hT⟩ := id hx
  have hp : post (some (vi (if w = 0 then x.1 0 else if w = 1 then tl c else if w = 2 then (x.2.1.length : Int) else if w = 3 then x.1 1 else if w = 4 then x.1 2 else if w = 5 then x.1 3 else if w = 6 then x.1 4 else if w = 7 then x.1 5 else if w = 8 then (x.2.2.1.length : Int) else if w = 9 then x.1 6 else if w = 10 then (x.2.2.2.length : Int) else x.1 7))) (up I 0 0, A, D) := hp
  refine s_iconst 22 dX12_channel_21 rfl ?_
  refine s_goto 26 dX12_channel_22 rfl ?_
  refine m_putI 29 0 dX12_channel_26 rfl fl_X12_60 (by decide) rfl rfl rfl rfl ?_
  refine s_aload_n 30 dX12_channel_29 rfl rfl ?_
  refine m_getI 33 0 dX12_channel_30 rfl fl_X12_60 (by decide) rfl (fun hr30 => ?_)
  refine s_iconst 34 dX12_channel_33 rfl ?_
  rw [up_s]
  refine s_icmp_ne 37 39 dX12_channel_34 rfl rfl (fun g5 => ?_) (fun g5 => ?_)
  rotate_left
  · omega
  refine s_iload_n 40 dX12_channel_39 rfl rfl ?_
  refine s_tabL [100, 107, 114, 121, 128, 135, 142, 149, 157, 165, 173] 181 dX12_channel_40 rfl rfl rfl (by decide) ⟨fun hc => ?_, fun hc => ?_, fun hc => ?_, fun hc => ?_, fun hc => ?_, fun hc => ?_, fun hc => ?_, fun hc => ?_, fun hc => ?_, fun hc => ?_, fun hc => ?_, trivial⟩ (fun hc => ?_)
  · refine s_aload_n 101 dX12_channel_100 rfl rfl ?_
    refine s_iload_n 102 dX12_channel_101 rfl rfl ?_
    refine s_iconst 103 dX12_channel_102 rfl ?_
    refine s_V2i 106 dX12_channel_103 rfl km_X12_its ml_X12_286 ds_X12_its (Nat.le_of_ble_eq_true rfl) m_rec rfl (c_itsP (by omega) (by omega) (fun hr => ?_))
    refine ⟨_, rfl, ?_⟩
    rw [a0]
    refine s_ireturn rfl dX12_channel_106 ?_
    rw [if_pos (by omega)] at hp
    exact hp
  · refine s_aload_n 108 dX12_channel_107 rfl rfl ?_
    refine m_getV (k := 24) 111 dX12_channel_108 rfl fl_X12_26 (by decide) rfl ?_
    refine s_iload_n 112 dX12_channel_111 rfl rfl ?_
    refine m_ald 113 4 4 dX12_channel_112 rfl (by decide) rfl (fun hr112 => ?_)
    refine s_ireturn rfl dX12_channel_113 ?_
    rw [ht1]
    rw [if_neg (by omega), if_pos (by omega)] at hp
    exact hp
  · refine s_aload_n 115 dX12_channel_114 rfl rfl ?_
    refine s_iload_n 116 dX12_channel_115 rfl rfl ?_
    refine s_iconst 117 dX12_channel_116 rfl ?_
    refine s_V2i 120 dX12_channel_117 rfl km_X12_its ml_X12_286 ds_X12_its (Nat.le_of_ble_eq_true rfl) m_rec rfl (c_itsP (by omega) (by omega) (fun hr => ?_))
    refine ⟨_, rfl, ?_⟩
    rw [a1]
    refine s_ireturn rfl dX12_channel_120 ?_
    rw [if_neg (by omega), if_neg (by omega), if_pos (by omega)] at hp
    exact hp
  · refine s_aload_n 122 dX12_channel_121 rfl rfl ?_
    refine s_iload_n 123 dX12_channel_122 rfl rfl ?_
    refine s_iconst 124 dX12_channel_123 rfl ?_
    refine s_V2i 127 dX12_channel_124 rfl km_X12_its ml_X12_286 ds_X12_its (Nat.le_of_ble_eq_true rfl) m_rec rfl (c_itsP (by omega) (by omega) (fun hr => ?_))
    refine ⟨_, rfl, ?_⟩
    rw [a2]
    refine s_ireturn rfl dX12_channel_127 ?_
    rw [if_neg (by omega), if_neg (by omega), if_neg (by omega), if_pos (by omega)] at hp
    exact hp
  · refine s_aload_n 129 dX12_channel_128 rfl rfl ?_
    refine s_iload_n 130 dX12_channel_129 rfl rfl ?_
    refine s_iconst 131 dX12_channel_130 rfl ?_
    refine s_V2i 134 dX12_channel_131 rfl km_X12_its ml_X12_286 ds_X12_its (Nat.le_of_ble_eq_true rfl) m_rec rfl (c_itsP (by omega) (by omega) (fun hr => ?_))
    refine ⟨_, rfl, ?_⟩
    rw [a3]
    refine s_ireturn rfl dX12_channel_134 ?_
    rw [if_neg (by omega), if_neg (by omega), if_neg (by omega), if_neg (by omega), if_pos (by omega)] at hp
    exact hp
  · refine s_aload_n 136 dX12_channel_135 rfl rfl ?_
    refine s_iload_n 137 dX12_channel_136 rfl rfl ?_
    refine s_iconst 138 dX12_channel_137 rfl ?_
    refine s_V2i 141 dX12_channel_138 rfl km_X12_its ml_X12_286 ds_X12_its (Nat.le_of_ble_eq_true rfl) m_rec rfl (c_itsP (by omega) (by omega) (fun hr => ?_))
    refine ⟨_, rfl, ?_⟩
    rw [a4]
    refine s_ireturn rfl dX12_channel_141 ?_
    rw [if_neg (by omega), if_neg (by omega), if_neg (by omega), if_neg (by omega), if_neg (by omega), if_pos (by omega)] at hp
    exact hp
  · refine s_aload_n 143 dX12_channel_142 rfl rfl ?_
    refine s_iload_n 144 dX12_channel_143 rfl rfl ?_
    refine s_iconst 145 dX12_channel_144 rfl ?_
    refine s_V2i 148 dX12_channel_145 rfl km_X12_its ml_X12_286 ds_X12_its (Nat.le_of_ble_eq_true rfl) m_rec rfl (c_itsP (by omega) (by omega) (fun hr => ?_))
    refine ⟨_, rfl, ?_⟩
    rw [a5]
    refine s_ireturn rfl dX12_channel_148 ?_
    rw [if_neg (by omega), if_neg (by omega), if_neg (by omega), if_neg (by omega), if_neg (by omega), if_neg (by omega), if_pos (by omega)] at hp
    exact hp
  · refine s_aload_n 150 dX12_channel_149 rfl rfl ?_
    refine s_iload_n 151 dX12_channel_150 rfl rfl ?_
    refine s_bipush 153 dX12_channel_151 rfl (k := ?_)
    refine s_V2i 156 dX12_channel_153 rfl km_X12_its ml_X12_286 ds_X12_its (Nat.le_of_ble_eq_true rfl) m_rec rfl (c_itsP (by omega) (by omega) (fun hr => ?_))
    refine ⟨_, rfl, ?_⟩
    rw [a6]
    refine s_ireturn rfl dX12_channel_156 ?_
    rw [if_neg (by omega), if_neg (by omega), if_neg (by omega), if_neg (by omega), if_neg (by omega), if_neg (by omega), if_neg (by omega), if_pos (by omega)] at hp
    exact hp
  · refine s_aload_n 158 dX12_channel_157 rfl rfl ?_
    refine s_iload_n 159 dX12_channel_158 rfl rfl ?_
    refine s_bipush 161 dX12_channel_159 rfl (k := ?_)
    refine s_V2i 164 dX12_channel_161 rfl km_X12_its ml_X12_286 ds_X12_its (Nat.le_of_ble_eq_true rfl) m_rec rfl (c_itsP (by omega) (by omega) (fun hr => ?_))
    refine ⟨_, rfl, ?_⟩
    rw [a7]
    refine s_ireturn rfl dX12_channel_164 ?_
    rw [if_neg (by omega), if_neg (by omega), if_neg (by omega), if_neg (by omega), if_neg (by omega), if_neg (by omega), if_neg (by omega), if_neg (by omega), if_pos (by omega)] at hp
    exact hp
  · refine s_aload_n 166 dX12_channel_165 rfl rfl ?_
    refine s_iload_n 167 dX12_channel_166 rfl rfl ?_
    refine s_bipush 169 dX12_channel_167 rfl (k := ?_)
    refine s_V2i 172 dX12_channel_169 rfl km_X12_its ml_X12_286 ds_X12_its (Nat.le_of_ble_eq_true rfl) m_rec rfl (c_itsP (by omega) (by omega) (fun hr => ?_))
    refine ⟨_, rfl, ?_⟩
    rw [a8]
    refine s_ireturn rfl dX12_channel_172 ?_
    rw [if_neg (by omega), if_neg (by omega), if_neg (by omega), if_neg (by omega), if_neg (by omega), if_neg (by omega), if_neg (by omega), if_neg (by omega), if_neg (by omega), if_pos (by omega)] at hp
    exact hp
  · refine s_aload_n 174 dX12_channel_173 rfl rfl ?_
    refine s_iload_n 175 dX12_channel_174 rfl rfl ?_
    refine s_bipush 177 dX12_channel_175 rfl (k := ?_)
    refine s_V2i 180 dX12_channel_177 rfl km_X12_its ml_X12_286 ds_X12_its (Nat.le_of_ble_eq_true rfl) m_rec rfl (c_itsP (by omega) (by omega) (fun hr => ?_))
    refine ⟨_, rfl, ?_⟩
    rw [a9]
    refine s_ireturn rfl dX12_channel_180 ?_
    rw [if_neg (by omega), if_neg (by omega), if_neg (by omega), if_neg (by omega), if_neg (by omega), if_neg (by omega), if_neg (by omega), if_neg (by omega), if_neg (by omega), if_neg (by omega), if_pos (by omega)] at hp
    exact hp
  · refine s_aload_n 182 dX12_channel_181 rfl rfl ?_
    refine s_iload_n 183 dX12_channel_182 rfl rfl ?_
    refine s_bipush 185 dX12_channel_183 rfl (k := ?_)
    refine s_V2i 188 dX12_channel_185 rfl km_X12_its ml_X12_286 ds_X12_its (Nat.le_of_ble_eq_true rfl) m_rec rfl (c_itsP (by omega) (by omega) (fun hr => ?_))
    refine ⟨_, rfl, ?_⟩
    rw [a10]
    refine s_ireturn rfl dX12_channel_188 ?_
    rw [if_neg (by omega), if_neg (by omega), if_neg (by omega), if_neg (by omega), if_neg (by omega), if_neg (by omega), if_neg (by omega), if_neg (by omega), if_neg (by omega), if_neg (by omega), if_neg (by omega)] at hp
    exact hp
end M36
