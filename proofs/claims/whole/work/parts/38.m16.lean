section M16
variable {G : GT} {m0 n u : Nat} {F : HS} {d : Nat} {I : Nat → Int} {A : Nat → Int → Int} {D : Int64} {post : Option Value → MT → Prop} {ru : RU}
theorem badF_rg (l : List (List Int)) : 0 ≤ badF l ∧ badF l ≤ l.length := by
  have key : ∀ (l : List (List Int)) (z : Int), z ≤ l.foldl (fun n e => n + badE e) z ∧ l.foldl (fun n e => n + badE e) z ≤ z + l.length := by
    intro l
    induction l with
    | nil => intro z; exact ⟨by show z ≤ z; omega, by show z ≤ z + 0; omega⟩
    | cons e l ih =>
      intro z
      have h := ih (z + badE e)
      have hb : 0 ≤ badE e ∧ badE e ≤ 1 := by unfold badE; split <;> omega
      rw [List.foldl_cons, List.length_cons]
      omega
  have h := key l 0
  unfold badF
  omega
theorem c_broken {s : ST} {b : Int} {ch : Nat} (hs : RepSt ch (A 3) s) (hw : WfSt b ch s) (hb : b ≤ 99000000) (hp : post (some (vi (badF s.2.2.2.1))) (I, A, D)) : Cm G (AM G m0 F n u) yX12_broken cX12_broken 3 (some .int) (d + 1) [.ref m0] (I, A, D) post := by
  refine Cm_intro (L := [some (.ref m0), none, none]) (by decide +kernel) (Nat.le_of_ble_eq_true rfl) rfl ?_
  obtain ⟨a0, a1, a2, a3, a4, a5, a6, a7, a8⟩ := id hs
  obtain ⟨w0, w1, w2, w3, w4, w5, w6, w7, w8, w9, w10⟩ := id hw
  refine s_iconst 1 dX12_broken_0 rfl ?_
  refine s_istore_n 2 dX12_broken_1 rfl (Nat.le_of_ble_eq_true rfl) rfl ?_
  refine s_iconst 3 dX12_broken_2 rfl ?_
  refine s_istore_n 4 dX12_broken_3 rfl (Nat.le_of_ble_eq_true rfl) rfl ?_
  have key : ∀ (m k : Nat), k + m = s.2.2.2.1.length → V G (AM G m0 F n u) yX12_broken cX12_broken 3 (some .int) (d + 1) (I, A, D) 4 [some (.ref m0), some (vi (badF (s.2.2.2.1.take k))), some (vi k)] [] post := by
    intro m
    induction m with
    | zero =>
      intro k hk
      refine s_iload_n 5 dX12_broken_4 rfl rfl ?_
      refine s_bipush 7 dX12_broken_5 rfl (k := ?_)
      refine s_aload_n 8 dX12_broken_7 rfl rfl ?_
      refine m_getV (k := 16) 11 dX12_broken_8 rfl fl_X12_16 (by decide) rfl ?_
      refine s_sipush 14 dX12_broken_11 rfl (k := ?_)
      refine m_ald 15 3 9309 dX12_broken_14 rfl (by decide) rfl (fun hr14 => ?_)
      refine s_min (q := 18) (hd := dX12_broken_15) (hq := rfl) (hw := ml_X12_97) (hrest := Nat.le_of_ble_eq_true rfl) (k := ?_)
      refine s_icmp_ge 21 67 dX12_broken_18 rfl rfl (fun g => ?_) (fun g => ?_)
      · refine s_iload_n 68 dX12_broken_67 rfl rfl ?_
        refine s_ireturn rfl dX12_broken_68 ?_
        rw [List.take_of_length_le (by omega)]
        exact hp
      · omega
    | succ m ih =>
      intro k hk
      have h5 := (w9 _ (getD_mem (x := []) (show k < s.2.2.2.1.length by omega))).1
      have e0 : A 3 (805 + 5 * (k : Int)) = (s.2.2.2.1.getD k []).getD 0 0 := by
        have := a7 k (by omega) 0 (by omega)
        rw [← this]
        congr 1 <;> omega
      have hs1 : badF (s.2.2.2.1.take (k + 1)) = badF (s.2.2.2.1.take k) + badE (s.2.2.2.1.getD k []) := foldl_snoc _ _ _ _ _ (by omega)
      refine s_iload_n 5 dX12_broken_4 rfl rfl ?_
      refine s_bipush 7 dX12_broken_5 rfl (k := ?_)
      refine s_aload_n 8 dX12_broken_7 rfl rfl ?_
      refine m_getV (k := 16) 11 dX12_broken_8 rfl fl_X12_16 (by decide) rfl ?_
      refine s_sipush 14 dX12_broken_11 rfl (k := ?_)
      refine m_ald 15 3 9309 dX12_broken_14 rfl (by decide) rfl (fun hr14 => ?_)
      refine s_min (q := 18) (hd := dX12_broken_15) (hq := rfl) (hw := ml_X12_97) (hrest := Nat.le_of_ble_eq_true rfl) (k := ?_)
      refine s_icmp_ge 21 67 dX12_broken_18 rfl rfl (fun g => ?_) (fun g => ?_)
      · omega
      refine s_iload_n 22 dX12_broken_21 rfl rfl ?_
      refine s_aload_n 23 dX12_broken_22 rfl rfl ?_
      refine m_getV (k := 16) 26 dX12_broken_23 rfl fl_X12_16 (by decide) rfl ?_
      refine s_sipush 29 dX12_broken_26 rfl (k := ?_)
      refine s_iconst 30 dX12_broken_29 rfl ?_
      refine s_iload_n 31 dX12_broken_30 rfl rfl ?_
      refine s_imul 32 dX12_broken_31 rfl ?_
      refine s_iadd 33 dX12_broken_32 rfl ?_
      refine m_ald 34 3 9309 dX12_broken_33 rfl (by decide) rfl (fun hr33 => ?_)
      refine s_iconst 35 dX12_broken_34 rfl ?_
      rw [e0]
      have j59 : ∀ v : Int, v = badE (s.2.2.2.1.getD k []) → V G (AM G m0 F n u) yX12_broken cX12_broken 3 (some .int) (d + 1) (I, A, D) 59 [some (.ref m0), some (vi (badF (s.2.2.2.1.take k))), some (vi k)] [vi v, vi (badF (s.2.2.2.1.take k))] post := by
        intro v hv
        refine s_iadd 60 dX12_broken_59 rfl ?_
        refine s_istore_n 61 dX12_broken_60 rfl (Nat.le_of_ble_eq_true rfl) rfl ?_
        refine s_iinc 64 dX12_broken_61 rfl rfl (Nat.le_of_ble_eq_true rfl) rfl ?_
        refine s_goto 4 dX12_broken_64 rfl ?_
        rw [hv, ← hs1]
        exact ih (k + 1) (by omega)
      have hr9 : rg ((s.2.2.2.1.getD k []).getD 0 0) := by rw [← e0]; exact hr33
      refine s_icmp_eq 38 54 dX12_broken_35 rfl rfl (fun g2 => ?_) (fun g2 => ?_)
      · refine s_iconst 55 dX12_broken_54 rfl ?_
        refine s_goto 59 dX12_broken_55 rfl ?_
        exact j59 1 (by unfold badE; rw [if_pos (Or.inl g2)])
      refine s_aload_n 39 dX12_broken_38 rfl rfl ?_
      refine m_getV (k := 16) 42 dX12_broken_39 rfl fl_X12_16 (by decide) rfl ?_
      refine s_sipush 45 dX12_broken_42 rfl (k := ?_)
      refine s_iconst 46 dX12_broken_45 rfl ?_
      refine s_iload_n 47 dX12_broken_46 rfl rfl ?_
      refine s_imul 48 dX12_broken_47 rfl ?_
      refine s_iadd 49 dX12_broken_48 rfl ?_
      refine m_ald 50 3 9309 dX12_broken_49 rfl (by decide) rfl (fun hr49 => ?_)
      refine s_iconst 51 dX12_broken_50 rfl ?_
      rw [e0]
      refine s_icmp_ne 54 58 dX12_broken_51 rfl rfl (fun g3 => ?_) (fun g3 => ?_)
      · refine s_iconst 59 dX12_broken_58 rfl ?_
        exact j59 0 (by unfold badE; rw [if_neg (by omega)])
      · refine s_iconst 55 dX12_broken_54 rfl ?_
        refine s_goto 59 dX12_broken_55 rfl ?_
        exact j59 1 (by unfold badE; rw [if_pos (by omega)])
  exact key s.2.2.2.1.length 0 (by omega)
theorem lonF_rg {l : List (Nat × Nat)} (h : ∀ q ∈ l, q.1 < q.2 ∧ q.2 < 600) : 0 ≤ lonF l ∧ lonF l ≤ 600 := by
  have key : ∀ (l : List (Nat × Nat)) (z : Int), (∀ q ∈ l, q.1 < q.2 ∧ q.2 < 600) → 0 ≤ z ∧ z ≤ 600 → 0 ≤ l.foldl (fun n q => max n ((q.2 : Int) - q.1)) z ∧ l.foldl (fun n q => max n ((q.2 : Int) - q.1)) z ≤ 600 := by
    intro l
    induction l with
    | nil => intro z _ hz; exact hz
    | cons q l ih =>
      intro z hl hz
      have hq := hl q List.mem_cons_self
      exact ih _ (fun q hq => hl q (List.mem_cons_of_mem _ hq)) (by show 0 ≤ max z ((q.2 : Int) - q.1) ∧ max z ((q.2 : Int) - q.1) ≤ 600; omega)
  exact key l 0 h (by omega)
theorem c_longestFrame {s : ST} {b : Int} {ch : Nat} (hs : RepSt ch (A 3) s) (hw : WfSt b ch s) (hp : ∀ I' A', frI [41] I I' → frA [12, 13] A A' → post (some (vi (lonF (frs s.1)))) (I', A', D)) : Cm G (AM G m0 F n u) yX12_longestFrame cX12_longestFrame 3 (some .int) (d + 1) [.ref m0] (I, A, D) post := by
  refine Cm_intro (L := [some (.ref m0), none, none]) (by decide +kernel) (Nat.le_of_ble_eq_true rfl) rfl ?_
  have hw0 := hw.1
  obtain ⟨o1, o2⟩ := frs_ok s.1
  refine s_iconst 1 dX12_longestFrame_0 rfl ?_
  refine s_istore_n 2 dX12_longestFrame_1 rfl (Nat.le_of_ble_eq_true rfl) rfl ?_
  refine s_aload_n 3 dX12_longestFrame_2 rfl rfl ?_
  refine s_V0i 6 dX12_longestFrame_3 rfl km_X12_laysFrames ml_X12_386 ds_X12_laysFrames (Nat.le_of_ble_eq_true rfl) m_rec rfl (c_laysFrames hs hw (fun I1 A1 k1 k2 k3 k4 => ?_))
  refine ⟨_, rfl, ?_⟩
  refine s_pop (q := 7) (hd := dX12_longestFrame_6) (hq := rfl) (k := ?_)
  refine s_iconst 8 dX12_longestFrame_7 rfl ?_
  refine s_istore_n 9 dX12_longestFrame_8 rfl (Nat.le_of_ble_eq_true rfl) rfl ?_
  generalize frs s.1 = fs at *
  have o3 : ∀ q ∈ fs, q.1 < q.2 ∧ q.2 < 600 := fun q hq => by have := o2 q hq; omega
  have key : ∀ (m k : Nat), k + m = fs.length → V G (AM G m0 F n u) yX12_longestFrame cX12_longestFrame 3 (some .int) (d + 1) (I1, A1, D) 9 [some (.ref m0), some (vi (lonF (fs.take k))), some (vi k)] [] post := by
    intro m
    induction m with
    | zero =>
      intro k hk
      refine s_iload_n 10 dX12_longestFrame_9 rfl rfl ?_
      refine s_aload_n 11 dX12_longestFrame_10 rfl rfl ?_
      refine m_getI 14 41 dX12_longestFrame_11 rfl fl_X12_383 (by decide) rfl (fun hr11 => ?_)
      refine s_icmp_ge 17 41 dX12_longestFrame_14 rfl rfl (fun g => ?_) (fun g => ?_)
      · refine s_iload_n 42 dX12_longestFrame_41 rfl rfl ?_
        refine s_ireturn rfl dX12_longestFrame_42 ?_
        rw [List.take_of_length_le (by omega)]
        exact hp I1 A1 k1 k2
      · omega
    | succ m ih =>
      intro k hk
      obtain ⟨e1, e2⟩ := k4 k (by omega)
      have hq := o3 _ (getD_mem (x := (0, 0)) (show k < fs.length by omega))
      have hl := lonF_rg (l := fs.take k) (fun q hq => o3 q (List.mem_of_mem_take hq))
      refine s_iload_n 10 dX12_longestFrame_9 rfl rfl ?_
      refine s_aload_n 11 dX12_longestFrame_10 rfl rfl ?_
      refine m_getI 14 41 dX12_longestFrame_11 rfl fl_X12_383 (by decide) rfl (fun hr11 => ?_)
      refine s_icmp_ge 17 41 dX12_longestFrame_14 rfl rfl (fun g => ?_) (fun g => ?_)
      · omega
      refine s_iload_n 18 dX12_longestFrame_17 rfl rfl ?_
      refine s_aload_n 19 dX12_longestFrame_18 rfl rfl ?_
      refine m_getV (k := 40) 22 dX12_longestFrame_19 rfl fl_X12_54 (by decide) rfl ?_
      refine s_iload_n 23 dX12_longestFrame_22 rfl rfl ?_
      refine m_ald 24 13 600 dX12_longestFrame_23 rfl (by decide) rfl (fun hr23 => ?_)
      refine s_aload_n 25 dX12_longestFrame_24 rfl rfl ?_
      refine m_getV (k := 39) 28 dX12_longestFrame_25 rfl fl_X12_51 (by decide) rfl ?_
      refine s_iload_n 29 dX12_longestFrame_28 rfl rfl ?_
      refine m_ald 30 12 600 dX12_longestFrame_29 rfl (by decide) rfl (fun hr29 => ?_)
      refine s_isub 31 dX12_longestFrame_30 rfl ?_
      rw [e1, e2]
      refine s_max (q := 34) (hd := dX12_longestFrame_31) (hq := rfl) (hw := ml_X12_260) (hrest := Nat.le_of_ble_eq_true rfl) (k := ?_)
      refine s_istore_n 35 dX12_longestFrame_34 rfl (Nat.le_of_ble_eq_true rfl) rfl ?_
      refine s_iinc 38 dX12_longestFrame_35 rfl rfl (Nat.le_of_ble_eq_true rfl) rfl ?_
      refine s_goto 9 dX12_longestFrame_38 rfl ?_
      rw [← show lonF (fs.take (k + 1)) = max (lonF (fs.take k)) (((fs.getD k (0, 0)).2 : Int) - (fs.getD k (0, 0)).1) from foldl_snoc _ _ _ _ _ (by omega)]
      exact ih (k + 1) (by omega)
  exact key fs.length 0 (by omega)
theorem greF_rg {l : List Int} (h : byt l) : -1 ≤ greF l ∧ greF l ≤ 255 := by
  have key : ∀ (l : List Int) (z : Int), byt l → -1 ≤ z ∧ z ≤ 255 → -1 ≤ l.foldl max z ∧ l.foldl max z ≤ 255 := by
    intro l
    induction l with
    | nil => intro z _ hz; exact hz
    | cons q l ih => intro z hl hz; have hq := (byt_cons.mp hl).1; exact ih _ (byt_cons.mp hl).2 (by show -1 ≤ max z q ∧ max z q ≤ 255; omega)
  exact key l (-1) h (by omega)
theorem c_greatestByte {s : ST} {b : Int} {ch : Nat} (hs : RepSt ch (A 3) s) (hw : WfSt b ch s) (hp : post (some (vi (greF s.1))) (I, A, D)) : Cm G (AM G m0 F n u) yX12_greatestByte cX12_greatestByte 3 (some .int) (d + 1) [.ref m0] (I, A, D) post := by
  refine Cm_intro (L := [some (.ref m0), none, none]) (by decide +kernel) (Nat.le_of_ble_eq_true rfl) rfl ?_
  have hw0 := hw.1
  have a0 := hs.1
  refine s_iconst 1 dX12_greatestByte_0 rfl ?_
  refine s_istore_n 2 dX12_greatestByte_1 rfl (Nat.le_of_ble_eq_true rfl) rfl ?_
  refine s_iconst 3 dX12_greatestByte_2 rfl ?_
  refine s_istore_n 4 dX12_greatestByte_3 rfl (Nat.le_of_ble_eq_true rfl) rfl ?_
  have key : ∀ (m k : Nat), k + m = s.1.length → V G (AM G m0 F n u) yX12_greatestByte cX12_greatestByte 3 (some .int) (d + 1) (I, A, D) 4 [some (.ref m0), some (vi (greF (s.1.take k))), some (vi k)] [] post := by
    intro m
    induction m with
    | zero =>
      intro k hk
      refine s_iload_n 5 dX12_greatestByte_4 rfl rfl ?_
      refine s_aload_n 6 dX12_greatestByte_5 rfl rfl ?_
      refine m_getV (k := 16) 9 dX12_greatestByte_6 rfl fl_X12_16 (by decide) rfl ?_
      refine s_iconst 10 dX12_greatestByte_9 rfl ?_
      refine m_ald 11 3 9309 dX12_greatestByte_10 rfl (by decide) rfl (fun hr10 => ?_)
      refine s_icmp_ge 14 33 dX12_greatestByte_11 rfl rfl (fun g => ?_) (fun g => ?_)
      · refine s_iload_n 34 dX12_greatestByte_33 rfl rfl ?_
        refine s_ireturn rfl dX12_greatestByte_34 ?_
        rw [List.take_of_length_le (by omega)]
        exact hp
      · omega
    | succ m ih =>
      intro k hk
      have e1 : A 3 (1 + (k : Int)) = s.1.getD k 0 := hs.2.1 k (by omega)
      have hq := byt_at hw.2.1 k
      have hl := greF_rg (byt_take hw.2.1 k)
      refine s_iload_n 5 dX12_greatestByte_4 rfl rfl ?_
      refine s_aload_n 6 dX12_greatestByte_5 rfl rfl ?_
      refine m_getV (k := 16) 9 dX12_greatestByte_6 rfl fl_X12_16 (by decide) rfl ?_
      refine s_iconst 10 dX12_greatestByte_9 rfl ?_
      refine m_ald 11 3 9309 dX12_greatestByte_10 rfl (by decide) rfl (fun hr10 => ?_)
      refine s_icmp_ge 14 33 dX12_greatestByte_11 rfl rfl (fun g => ?_) (fun g => ?_)
      · omega
      refine s_iload_n 15 dX12_greatestByte_14 rfl rfl ?_
      refine s_aload_n 16 dX12_greatestByte_15 rfl rfl ?_
      refine m_getV (k := 16) 19 dX12_greatestByte_16 rfl fl_X12_16 (by decide) rfl ?_
      refine s_iconst 20 dX12_greatestByte_19 rfl ?_
      refine s_iload_n 21 dX12_greatestByte_20 rfl rfl ?_
      refine s_iadd 22 dX12_greatestByte_21 rfl ?_
      refine m_ald 23 3 9309 dX12_greatestByte_22 rfl (by decide) rfl (fun hr22 => ?_)
      rw [e1]
      refine s_max (q := 26) (hd := dX12_greatestByte_23) (hq := rfl) (hw := ml_X12_260) (hrest := Nat.le_of_ble_eq_true rfl) (k := ?_)
      refine s_istore_n 27 dX12_greatestByte_26 rfl (Nat.le_of_ble_eq_true rfl) rfl ?_
      refine s_iinc 30 dX12_greatestByte_27 rfl rfl (Nat.le_of_ble_eq_true rfl) rfl ?_
      refine s_goto 4 dX12_greatestByte_30 rfl ?_
      rw [← show greF (s.1.take (k + 1)) = max (greF (s.1.take k)) (s.1.getD k 0) from foldl_snoc _ _ _ _ _ (by omega)]
      exact ih (k + 1) (by omega)
  exact key s.1.length 0 (by omega)
/-- the most bytes of n stuffed -/
def mstF (L n : Int) : Int := n + max 1 ((n + L - 1) / L)
theorem c_mostOf {k : Int} (hk : 0 ≤ k ∧ k ≤ 100000) (hL : 1 ≤ I 19 ∧ I 19 ≤ 60) (hp : post (some (vi (mstF (I 19) k))) (I, A, D)) : Cm G (AM G m0 F n u) yX12_mostOf cX12_mostOf 2 (some .int) (d + 1) [.ref m0, vi k] (I, A, D) post := by
  refine Cm_intro (L := [some (.ref m0), some (vi k)]) (by decide +kernel) (Nat.le_of_ble_eq_true rfl) rfl ?_
  refine s_iload_n 1 dX12_mostOf_0 rfl rfl ?_
  refine s_iconst 2 dX12_mostOf_1 rfl ?_
  refine s_iload_n 3 dX12_mostOf_2 rfl rfl ?_
  refine s_aload_n 4 dX12_mostOf_3 rfl rfl ?_
  refine m_getI 7 19 dX12_mostOf_4 rfl fl_X12_19 (by decide) rfl (fun hr4 => ?_)
  refine s_iadd 8 dX12_mostOf_7 rfl ?_
  refine s_iconst 9 dX12_mostOf_8 rfl ?_
  refine s_isub 10 dX12_mostOf_9 rfl ?_
  refine s_aload_n 11 dX12_mostOf_10 rfl rfl ?_
  refine m_getI 14 19 dX12_mostOf_11 rfl fl_X12_19 (by decide) rfl (fun hr11 => ?_)
  refine s_idiv (q := 15) (hd := dX12_mostOf_14) (hq := rfl) (k := ?_)
  have h1 : 0 ≤ (k + I 19 - 1) / I 19 := Int.ediv_nonneg (by omega) (by omega)
  have h2 : (k + I 19 - 1) / I 19 ≤ k + I 19 - 1 := Int.ediv_le_self _ (by omega)
  refine s_max (q := 18) (hd := dX12_mostOf_15) (hq := rfl) (hw := ml_X12_260) (hrest := Nat.le_of_ble_eq_true rfl) (k := ?_)
  refine s_iadd 19 dX12_mostOf_18 rfl ?_
  refine s_ireturn rfl dX12_mostOf_19 ?_
  exact hp
theorem c_isByte {s : ST} {b : Int} {ch : Nat} {z : Int} (hz : rg z) (hi : I 17 = 0 ∨ I 17 = 1) (hs : I 17 = 1 → RepSt ch (A 3) s ∧ WfSt b ch s) (hp : post (some (vb (decide (I 17 = 1 ∧ 0 ≤ z ∧ z < s.1.length)))) (I, A, D)) : Cm G (AM G m0 F n u) yX12_isByte cX12_isByte 2 (some .boolean) (d + 1) [.ref m0, vi z] (I, A, D) post := by
  refine Cm_intro (L := [some (.ref m0), some (vi z)]) (by decide +kernel) (Nat.le_of_ble_eq_true rfl) rfl ?_
  refine s_aload_n 1 dX12_isByte_0 rfl rfl ?_
  refine m_getI 4 17 dX12_isByte_1 rfl fl_X12_188 (by decide) rfl (fun hr1 => ?_)
  refine s_if_eq 7 29 dX12_isByte_4 rfl rfl (fun g => ?_) (fun g => ?_)
  · refine s_iconst 30 dX12_isByte_29 rfl ?_
    first | refine s_zreturn rfl dX12_isByte_30 ?_ | refine s_zreturn1 rfl dX12_isByte_30 ?_ | refine s_zreturn0 rfl dX12_isByte_30 ?_
    rw [decide_eq_false (by omega)] at hp
    exact hp
  have h1 : I 17 = 1 := by omega
  obtain ⟨hs, hw⟩ := hs h1
  have hw0 := hw.1
  have a0 := hs.1
  refine s_iload_n 8 dX12_isByte_7 rfl rfl ?_
  refine s_i2lz 9 dX12_isByte_8 rfl ?_
  refine s_lconstz 10 dX12_isByte_9 rfl ?_
  refine s_aload_n 11 dX12_isByte_10 rfl rfl ?_
  refine m_getV (k := 16) 14 dX12_isByte_11 rfl fl_X12_16 (by decide) rfl ?_
  refine s_iconst 15 dX12_isByte_14 rfl ?_
  refine m_ald 16 3 9309 dX12_isByte_15 rfl (by decide) rfl (fun hr15 => ?_)
  refine s_iconst 17 dX12_isByte_16 rfl ?_
  refine s_isub 18 dX12_isByte_17 rfl ?_
  refine s_i2lz 19 dX12_isByte_18 rfl ?_
  refine s_S3b 22 dX12_isByte_19 rfl km_X12_in rfl ml_X12_70 ds_X12_in (Nat.le_of_ble_eq_true rfl) (c_in hz (by decide) (by omega) ?_)
  refine ⟨_, rfl, ?_⟩
  rw [a0]
  refine s_if_eqb 25 29 dX12_isByte_22 rfl rfl (fun g2 => ?_) (fun g2 => ?_)
  · have g2 := of_decide_eq_false g2
    refine s_iconst 30 dX12_isByte_29 rfl ?_
    first | refine s_zreturn rfl dX12_isByte_30 ?_ | refine s_zreturn1 rfl dX12_isByte_30 ?_ | refine s_zreturn0 rfl dX12_isByte_30 ?_
    rw [decide_eq_false (fun h => g2 ⟨h.2.1, by omega⟩)] at hp
    exact hp
  · have g2 := of_decide_eq_true g2
    refine s_iconst 26 dX12_isByte_25 rfl ?_
    refine s_goto 30 dX12_isByte_26 rfl ?_
    first | refine s_zreturn rfl dX12_isByte_30 ?_ | refine s_zreturn1 rfl dX12_isByte_30 ?_ | refine s_zreturn0 rfl dX12_isByte_30 ?_
    rw [decide_eq_true ⟨h1, g2.1, by omega⟩] at hp
    exact hp
theorem c_isChannel {z : Int} (hz : rg z) (hi : I 17 = 0 ∨ I 17 = 1) (hc : 0 ≤ I 23 ∧ I 23 ≤ 4) (hp : post (some (vb (decide (I 17 = 1 ∧ 0 ≤ z ∧ z < I 23)))) (I, A, D)) : Cm G (AM G m0 F n u) yX12_isChannel cX12_isChannel 2 (some .boolean) (d + 1) [.ref m0, vi z] (I, A, D) post := by
  refine Cm_intro (L := [some (.ref m0), some (vi z)]) (by decide +kernel) (Nat.le_of_ble_eq_true rfl) rfl ?_
  refine s_aload_n 1 dX12_isChannel_0 rfl rfl ?_
  refine m_getI 4 17 dX12_isChannel_1 rfl fl_X12_188 (by decide) rfl (fun hr1 => ?_)
  refine s_if_eq 7 27 dX12_isChannel_4 rfl rfl (fun g => ?_) (fun g => ?_)
  · refine s_iconst 28 dX12_isChannel_27 rfl ?_
    first | refine s_zreturn rfl dX12_isChannel_28 ?_ | refine s_zreturn1 rfl dX12_isChannel_28 ?_ | refine s_zreturn0 rfl dX12_isChannel_28 ?_
    rw [decide_eq_false (by omega)] at hp
    exact hp
  have h1 : I 17 = 1 := by omega
  refine s_iload_n 8 dX12_isChannel_7 rfl rfl ?_
  refine s_i2lz 9 dX12_isChannel_8 rfl ?_
  refine s_lconstz 10 dX12_isChannel_9 rfl ?_
  refine s_aload_n 11 dX12_isChannel_10 rfl rfl ?_
  refine m_getI 14 23 dX12_isChannel_11 rfl fl_X12_198 (by decide) rfl (fun hr11 => ?_)
  refine s_iconst 15 dX12_isChannel_14 rfl ?_
  refine s_isub 16 dX12_isChannel_15 rfl ?_
  refine s_i2lz 17 dX12_isChannel_16 rfl ?_
  refine s_S3b 20 dX12_isChannel_17 rfl km_X12_in rfl ml_X12_70 ds_X12_in (Nat.le_of_ble_eq_true rfl) (c_in hz (by decide) (by omega) ?_)
  refine ⟨_, rfl, ?_⟩
  refine s_if_eqb 23 27 dX12_isChannel_20 rfl rfl (fun g2 => ?_) (fun g2 => ?_)
  · have g2 := of_decide_eq_false g2
    refine s_iconst 28 dX12_isChannel_27 rfl ?_
    first | refine s_zreturn rfl dX12_isChannel_28 ?_ | refine s_zreturn1 rfl dX12_isChannel_28 ?_ | refine s_zreturn0 rfl dX12_isChannel_28 ?_
    rw [decide_eq_false (fun h => g2 ⟨h.2.1, by show z ≤ I 23 - 1; omega⟩)] at hp
    exact hp
  · have g2 := of_decide_eq_true g2
    have g3 : z ≤ I 23 - 1 := g2.2
    refine s_iconst 24 dX12_isChannel_23 rfl ?_
    refine s_goto 28 dX12_isChannel_24 rfl ?_
    first | refine s_zreturn rfl dX12_isChannel_28 ?_ | refine s_zreturn1 rfl dX12_isChannel_28 ?_ | refine s_zreturn0 rfl dX12_isChannel_28 ?_
    rw [decide_eq_true ⟨h1, g2.1, by omega⟩] at hp
    exact hp
theorem c_refuses {z : Int} (hz : 0 ≤ z ∧ z ≤ 3) (hr : rg (A 10 z + 1)) (hp : post (some (vi (-1))) (I, up A 10 (up (A 10) z (A 10 z + 1)), D)) : Cm G (AM G m0 F n u) yX12_refuses cX12_refuses 2 (some .int) d [.ref m0, vi z] (I, A, D) post := by
  refine Cm_intro (L := [some (.ref m0), some (vi z)]) (by decide +kernel) (Nat.le_of_ble_eq_true rfl) rfl ?_
  refine s_aload_n 1 dX12_refuses_0 rfl rfl ?_
  refine m_getV (k := 35) 4 dX12_refuses_1 rfl fl_X12_45 (by decide) rfl ?_
  refine s_iload_n 5 dX12_refuses_4 rfl rfl ?_
  refine s_dup2 (q := 6) (hd := dX12_refuses_5) (hq := rfl) (k := ?_)
  refine m_ald 7 10 4 dX12_refuses_6 rfl (by decide) rfl (fun hr6 => ?_)
  refine s_iconst 8 dX12_refuses_7 rfl ?_
  refine s_iadd 9 dX12_refuses_8 rfl ?_
  refine m_ast 10 10 4 dX12_refuses_9 rfl (by decide) rfl ?_
  refine s_iconst 11 dX12_refuses_10 rfl ?_
  refine s_ireturn rfl dX12_refuses_11 ?_
  exact hp
theorem c_lettersPlain {tp : List Int} (ht : I 2 = tp.length) (hs : sg (A 1) 0 tp) (hl : tp.length ≤ 300) (hp : ∀ A', frA [5] A A' → sg (A' 5) 0 tp → post none (up I 26 tp.length, A', D)) : Cm G (AM G m0 F n u) yX12_lettersPlain cX12_lettersPlain 2 none d [.ref m0] (I, A, D) post := by
  refine Cm_intro (L := [some (.ref m0), none]) (by decide +kernel) (Nat.le_of_ble_eq_true rfl) rfl ?_
  refine s_iconst 1 dX12_lettersPlain_0 rfl ?_
  refine s_istore_n 2 dX12_lettersPlain_1 rfl (Nat.le_of_ble_eq_true rfl) rfl ?_
  have key : ∀ (m k : Nat) (A' : Nat → Int → Int), k + m = tp.length → frA [5] A A' → sg (A' 5) 0 (tp.take k) → V G (AM G m0 F n u) yX12_lettersPlain cX12_lettersPlain 2 none d (I, A', D) 2 [some (.ref m0), some (vi k)] [] post := by
    intro m
    induction m with
    | zero =>
      intro k A' hk f1 f2
      refine s_iload_n 3 dX12_lettersPlain_2 rfl rfl ?_
      refine s_aload_n 4 dX12_lettersPlain_3 rfl rfl ?_
      refine m_getI 7 2 dX12_lettersPlain_4 rfl fl_X12_63 (by decide) rfl (fun hr4 => ?_)
      refine s_icmp_ge 10 28 dX12_lettersPlain_7 rfl rfl (fun g => ?_) (fun g => ?_)
      rotate_left
      · omega
      refine s_aload_n 29 dX12_lettersPlain_28 rfl rfl ?_
      refine s_aload_n 30 dX12_lettersPlain_29 rfl rfl ?_
      refine m_getI 33 2 dX12_lettersPlain_30 rfl fl_X12_63 (by decide) rfl (fun hr30 => ?_)
      refine m_putI 36 26 dX12_lettersPlain_33 rfl fl_X12_217 (by decide) rfl rfl rfl rfl ?_
      refine s_return rfl dX12_lettersPlain_36 ?_
      rw [ht]
      rw [List.take_of_length_le (by omega)] at f2
      exact hp A' f1 f2
    | succ m ih =>
      intro k A' hk f1 f2
      have ev : A' 1 (k : Int) = tp.getD k 0 := by rw [f1 1 (by decide)]; exact sg_slice hs (by omega)
      refine s_iload_n 3 dX12_lettersPlain_2 rfl rfl ?_
      refine s_aload_n 4 dX12_lettersPlain_3 rfl rfl ?_
      refine m_getI 7 2 dX12_lettersPlain_4 rfl fl_X12_63 (by decide) rfl (fun hr4 => ?_)
      refine s_icmp_ge 10 28 dX12_lettersPlain_7 rfl rfl (fun g => ?_) (fun g => ?_)
      · omega
      refine s_aload_n 11 dX12_lettersPlain_10 rfl rfl ?_
      refine m_getV (k := 25) 14 dX12_lettersPlain_11 rfl fl_X12_29 (by decide) rfl ?_
      refine s_iload_n 15 dX12_lettersPlain_14 rfl rfl ?_
      refine s_aload_n 16 dX12_lettersPlain_15 rfl rfl ?_
      refine m_getV (k := 1) 19 dX12_lettersPlain_16 rfl fl_X12_9 (by decide) rfl ?_
      refine s_iload_n 20 dX12_lettersPlain_19 rfl rfl ?_
      refine m_ald 21 1 300 dX12_lettersPlain_20 rfl (by decide) rfl (fun hr20 => ?_)
      refine m_ast 22 5 1400 dX12_lettersPlain_21 rfl (by decide) rfl ?_
      refine s_iinc 25 dX12_lettersPlain_22 rfl rfl (Nat.le_of_ble_eq_true rfl) rfl ?_
      refine s_goto 2 dX12_lettersPlain_25 rfl ?_
      refine ih (k + 1) _ (by omega) (f1.up (by decide)) ?_
      have et : tp.take (k + 1) = tp.take k ++ [tp.getD k 0] := by
        have := take_snoc (bs := tp) (p := 0) (r := k) (by omega)
        rw [List.drop_zero, Nat.zero_add] at this
        exact this
      rw [up_s, et, ev]
      exact sg_snoc' f2 (by rw [List.length_take_of_le (by omega)]; omega)
  exact key tp.length 0 A (by omega) frA.rf (by rw [List.take_zero]; exact sg_nil _ _)
end M16
