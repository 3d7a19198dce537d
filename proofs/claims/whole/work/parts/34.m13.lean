section M13
variable {G : GT} {m0 n u : Nat} {F : HS} {d : Nat} {I : Nat → Int} {A : Nat → Int → Int} {D : Int64} {post : Option Value → MT → Prop} {ru : RU}
theorem c_putAside (hp : ∀ A', frA [9] A A' → (∀ i, 0 ≤ i → i < 9309 → A' 9 i = A 3 i) → post none (I, A', D)) : Cm G (AM G m0 F n u) yX12_putAside cX12_putAside 2 none d [.ref m0] (I, A, D) post := by
  refine Cm_intro (L := [some (.ref m0), none]) (by decide +kernel) (Nat.le_of_ble_eq_true rfl) rfl ?_
  refine s_iconst 1 dX12_putAside_0 rfl ?_
  refine s_istore_n 2 dX12_putAside_1 rfl (Nat.le_of_ble_eq_true rfl) rfl ?_
  have key : ∀ (k j : Nat) (A' : Nat → Int → Int), j + k = 9309 → frA [9] A A' → (∀ i, 0 ≤ i → i < (j : Int) → A' 9 i = A 3 i) → V G (AM G m0 F n u) yX12_putAside cX12_putAside 2 none d (I, A', D) 2 [some (.ref m0), some (vi j)] [] post := by
    intro k
    induction k with
    | zero =>
      intro j A' hj f1 f2
      refine s_iload_n 3 dX12_putAside_2 rfl rfl ?_
      refine s_sipush 6 dX12_putAside_3 rfl (k := ?_)
      refine s_icmp_ge 9 27 dX12_putAside_6 rfl rfl (fun g => ?_) (fun g => ?_)
      · refine s_return rfl dX12_putAside_27 ?_
        exact hp A' f1 (fun i h1 h2 => f2 i h1 (by omega))
      · omega
    | succ k ih =>
      intro j A' hj f1 f2
      refine s_iload_n 3 dX12_putAside_2 rfl rfl ?_
      refine s_sipush 6 dX12_putAside_3 rfl (k := ?_)
      refine s_icmp_ge 9 27 dX12_putAside_6 rfl rfl (fun g => ?_) (fun g => ?_)
      · omega
      refine s_aload_n 10 dX12_putAside_9 rfl rfl ?_
      refine m_getV (k := 34) 13 dX12_putAside_10 rfl fl_X12_42 (by decide) rfl ?_
      refine s_iload_n 14 dX12_putAside_13 rfl rfl ?_
      refine s_aload_n 15 dX12_putAside_14 rfl rfl ?_
      refine m_getV (k := 16) 18 dX12_putAside_15 rfl fl_X12_16 (by decide) rfl ?_
      refine s_iload_n 19 dX12_putAside_18 rfl rfl ?_
      refine m_ald 20 3 9309 dX12_putAside_19 rfl (by decide) rfl (fun hr19 => ?_)
      refine m_ast 21 9 9309 dX12_putAside_20 rfl (by decide) rfl ?_
      refine s_iinc 24 dX12_putAside_21 rfl rfl (Nat.le_of_ble_eq_true rfl) rfl ?_
      refine s_goto 2 dX12_putAside_24 rfl ?_
      refine ih (j + 1) _ (by omega) (f1.up (by decide)) (fun i h1 h2 => ?_)
      rw [up_s]
      by_cases e : i = (j : Int)
      · subst e; rw [up_s, f1 3 (by decide)]
      · rw [up_n e]; exact f2 i h1 (by omega)
  exact key 9309 0 A (by omega) frA.rf (fun i h1 h2 => by omega)
theorem c_takeBack (hp : ∀ A', frA [3] A A' → (∀ i, 0 ≤ i → i < 9309 → A' 3 i = A 9 i) → post none (I, A', D)) : Cm G (AM G m0 F n u) yX12_takeBack cX12_takeBack 2 none d [.ref m0] (I, A, D) post := by
  refine Cm_intro (L := [some (.ref m0), none]) (by decide +kernel) (Nat.le_of_ble_eq_true rfl) rfl ?_
  refine s_iconst 1 dX12_takeBack_0 rfl ?_
  refine s_istore_n 2 dX12_takeBack_1 rfl (Nat.le_of_ble_eq_true rfl) rfl ?_
  have key : ∀ (k j : Nat) (A' : Nat → Int → Int), j + k = 9309 → frA [3] A A' → (∀ i, 0 ≤ i → i < (j : Int) → A' 3 i = A 9 i) → V G (AM G m0 F n u) yX12_takeBack cX12_takeBack 2 none d (I, A', D) 2 [some (.ref m0), some (vi j)] [] post := by
    intro k
    induction k with
    | zero =>
      intro j A' hj f1 f2
      refine s_iload_n 3 dX12_takeBack_2 rfl rfl ?_
      refine s_sipush 6 dX12_takeBack_3 rfl (k := ?_)
      refine s_icmp_ge 9 27 dX12_takeBack_6 rfl rfl (fun g => ?_) (fun g => ?_)
      · refine s_return rfl dX12_takeBack_27 ?_
        exact hp A' f1 (fun i h1 h2 => f2 i h1 (by omega))
      · omega
    | succ k ih =>
      intro j A' hj f1 f2
      refine s_iload_n 3 dX12_takeBack_2 rfl rfl ?_
      refine s_sipush 6 dX12_takeBack_3 rfl (k := ?_)
      refine s_icmp_ge 9 27 dX12_takeBack_6 rfl rfl (fun g => ?_) (fun g => ?_)
      · omega
      refine s_aload_n 10 dX12_takeBack_9 rfl rfl ?_
      refine m_getV (k := 16) 13 dX12_takeBack_10 rfl fl_X12_16 (by decide) rfl ?_
      refine s_iload_n 14 dX12_takeBack_13 rfl rfl ?_
      refine s_aload_n 15 dX12_takeBack_14 rfl rfl ?_
      refine m_getV (k := 34) 18 dX12_takeBack_15 rfl fl_X12_42 (by decide) rfl ?_
      refine s_iload_n 19 dX12_takeBack_18 rfl rfl ?_
      refine m_ald 20 9 9309 dX12_takeBack_19 rfl (by decide) rfl (fun hr19 => ?_)
      refine m_ast 21 3 9309 dX12_takeBack_20 rfl (by decide) rfl ?_
      refine s_iinc 24 dX12_takeBack_21 rfl rfl (Nat.le_of_ble_eq_true rfl) rfl ?_
      refine s_goto 2 dX12_takeBack_24 rfl ?_
      refine ih (j + 1) _ (by omega) (f1.up (by decide)) (fun i h1 h2 => ?_)
      rw [up_s]
      by_cases e : i = (j : Int)
      · subst e; rw [up_s, f1 9 (by decide)]
      · rw [up_n e]; exact f2 i h1 (by omega)
  exact key 9309 0 A (by omega) frA.rf (fun i h1 h2 => by omega)
theorem c_keepsRow {j0 a : Nat} (hj0 : j0 = 3 ∨ j0 = 9) (ha : I 33 = a) (ha2 : a ≤ 12) (hp : ∀ A', frA [8] A A' → (∀ i : Int, 0 ≤ i → i < 9309 * ((min a 11 : Nat) : Int) → A' 8 i = A 8 (if a = 12 then i + 9309 else i)) → (∀ i, 0 ≤ i → i < 9309 → A' 8 (9309 * ((min a 11 : Nat) : Int) + i) = A j0 i) → post none (up I 33 ((min a 11 : Nat) + 1), A', D)) : Cm G (AM G m0 F n u) yX12_keepsRow cX12_keepsRow 3 none d [.ref m0, .ref (m0 + j0)] (I, A, D) post := by
  refine Cm_intro (L := [some (.ref m0), some (.ref (m0 + j0)), none]) (by decide +kernel) (Nat.le_of_ble_eq_true rfl) rfl ?_
  have hml : ml j0 = 9309 := by rcases hj0 with rfl | rfl <;> rfl
  have hj9 : 1 ≤ j0 ∧ j0 ≤ 14 := by omega
  have j51 : ∀ (I1 : Nat → Int) (B : Nat → Int → Int), frA [8] A B → I1 33 = (min a 11 : Nat) → (up I1 33 ((min a 11 : Nat) + 1) = up I 33 ((min a 11 : Nat) + 1)) → (∀ i : Int, 0 ≤ i → i < 9309 * ((min a 11 : Nat) : Int) → B 8 i = A 8 (if a = 12 then i + 9309 else i)) → V G (AM G m0 F n u) yX12_keepsRow cX12_keepsRow 3 none d (I1, B, D) 51 [some (.ref m0), some (.ref (m0 + j0)), none] [] post := by
    intro I1 B e1 e2 e3 e4
    refine s_iconst 52 dX12_keepsRow_51 rfl ?_
    refine s_istore_n 53 dX12_keepsRow_52 rfl (Nat.le_of_ble_eq_true rfl) rfl ?_
    have key : ∀ (k j : Nat) (A' : Nat → Int → Int), j + k = 9309 → frA [8] A A' → (∀ i : Int, i < 9309 * ((min a 11 : Nat) : Int) → A' 8 i = B 8 i) → (∀ i, 0 ≤ i → i < (j : Int) → A' 8 (9309 * ((min a 11 : Nat) : Int) + i) = A j0 i) → V G (AM G m0 F n u) yX12_keepsRow cX12_keepsRow 3 none d (I1, A', D) 53 [some (.ref m0), some (.ref (m0 + j0)), some (vi j)] [] post := by
      intro k
      induction k with
      | zero =>
        intro j A' hj f1 f2 f3
        refine s_iload_n 54 dX12_keepsRow_53 rfl rfl ?_
        refine s_sipush 57 dX12_keepsRow_54 rfl (k := ?_)
        refine s_icmp_ge 60 84 dX12_keepsRow_57 rfl rfl (fun g => ?_) (fun g => ?_)
        rotate_left
        · omega
        refine s_aload_n 85 dX12_keepsRow_84 rfl rfl ?_
        refine s_dup (q := 86) (hd := dX12_keepsRow_85) (hq := rfl) (k := ?_)
        refine m_getI 89 33 dX12_keepsRow_86 rfl fl_X12_205 (by decide) rfl (fun hr86 => ?_)
        refine s_iconst 90 dX12_keepsRow_89 rfl ?_
        refine s_iadd 91 dX12_keepsRow_90 rfl ?_
        refine m_putI 94 33 dX12_keepsRow_91 rfl fl_X12_205 (by decide) rfl rfl rfl rfl ?_
        refine s_return rfl dX12_keepsRow_94 ?_
        rw [e2, e3]
        exact hp A' f1 (fun i h1 h2 => (f2 i h2).trans (e4 i h1 h2)) (fun i h1 h2 => f3 i h1 (by omega))
      | succ k ih =>
        intro j A' hj f1 f2 f3
        refine s_iload_n 54 dX12_keepsRow_53 rfl rfl ?_
        refine s_sipush 57 dX12_keepsRow_54 rfl (k := ?_)
        refine s_icmp_ge 60 84 dX12_keepsRow_57 rfl rfl (fun g => ?_) (fun g => ?_)
        · omega
        refine s_aload_n 61 dX12_keepsRow_60 rfl rfl ?_
        refine m_getV (k := 32) 64 dX12_keepsRow_61 rfl fl_X12_39 (by decide) rfl ?_
        refine s_sipush 67 dX12_keepsRow_64 rfl (k := ?_)
        refine s_aload_n 68 dX12_keepsRow_67 rfl rfl ?_
        refine m_getI 71 33 dX12_keepsRow_68 rfl fl_X12_205 (by decide) rfl (fun hr68 => ?_)
        refine s_imul 72 dX12_keepsRow_71 rfl ?_
        refine s_iload_n 73 dX12_keepsRow_72 rfl rfl ?_
        refine s_iadd 74 dX12_keepsRow_73 rfl ?_
        refine s_aload_n 75 dX12_keepsRow_74 rfl rfl ?_
        refine s_iload_n 76 dX12_keepsRow_75 rfl rfl ?_
        refine m_ald 77 j0 9309 dX12_keepsRow_76 rfl hj9 hml (fun hr76 => ?_)
        refine m_ast 78 8 111708 dX12_keepsRow_77 rfl (by decide) rfl ?_
        refine s_iinc 81 dX12_keepsRow_78 rfl rfl (Nat.le_of_ble_eq_true rfl) rfl ?_
        refine s_goto 53 dX12_keepsRow_81 rfl ?_
        rw [e2]
        refine ih (j + 1) _ (by omega) (f1.up (by decide)) (fun i h1 => ?_) (fun i h1 h2 => ?_)
        · rw [up_s, up_n (by omega)]
          exact f2 i h1
        · rw [up_s]
          by_cases e : i = (j : Int)
          · subst e
            rw [up_s, f1 j0 (by rcases hj0 with rfl | rfl <;> decide)]
          · rw [up_n (by omega)]
            exact f3 i h1 (by omega)
    exact key 9309 0 B (by omega) e1 (fun _ _ => rfl) (fun i h1 h2 => by omega)
  refine s_aload_n 1 dX12_keepsRow_0 rfl rfl ?_
  refine m_getI 4 33 dX12_keepsRow_1 rfl fl_X12_205 (by decide) rfl (fun hr1 => ?_)
  refine s_bipush 6 dX12_keepsRow_4 rfl (k := ?_)
  refine s_icmp_ne 9 51 dX12_keepsRow_6 rfl rfl (fun g => ?_) (fun g => ?_)
  · exact j51 I A frA.rf (by rw [ha]; omega) rfl (fun i h1 h2 => by rw [if_neg (by omega)])
  obtain rfl : a = 12 := by omega
  refine s_sipush 12 dX12_keepsRow_9 rfl (k := ?_)
  refine s_istore_n 13 dX12_keepsRow_12 rfl (Nat.le_of_ble_eq_true rfl) rfl ?_
  have key : ∀ (k j : Nat) (A' : Nat → Int → Int), j + k = 111708 → 9309 ≤ j → frA [8] A A' → (∀ i, (j : Int) - 9309 ≤ i → A' 8 i = A 8 i) → (∀ i, 0 ≤ i → i < (j : Int) - 9309 → A' 8 i = A 8 (i + 9309)) → V G (AM G m0 F n u) yX12_keepsRow cX12_keepsRow 3 none d (I, A', D) 13 [some (.ref m0), some (.ref (m0 + j0)), some (vi j)] [] post := by
    intro k
    induction k with
    | zero =>
      intro j A' hj hj2 f1 f2 f3
      refine s_iload_n 14 dX12_keepsRow_13 rfl rfl ?_
      refine s_ldc (111708) 16 dX12_keepsRow_14 rfl kc_X12_38 rfl ?_
      refine s_icmp_ge 19 41 dX12_keepsRow_16 rfl rfl (fun g => ?_) (fun g => ?_)
      rotate_left
      · omega
      refine s_aload_n 42 dX12_keepsRow_41 rfl rfl ?_
      refine s_dup (q := 43) (hd := dX12_keepsRow_42) (hq := rfl) (k := ?_)
      refine m_getI 46 33 dX12_keepsRow_43 rfl fl_X12_205 (by decide) rfl (fun hr43 => ?_)
      refine s_iconst 47 dX12_keepsRow_46 rfl ?_
      refine s_isub 48 dX12_keepsRow_47 rfl ?_
      refine m_putI 51 33 dX12_keepsRow_48 rfl fl_X12_205 (by decide) rfl rfl rfl rfl ?_
      refine V_kill 2 ?_
      refine j51 _ A' f1 (by rw [up_s, ha]; decide) (by rw [up_up]) (fun i h1 h2 => ?_)
      rw [if_pos rfl]
      exact f3 i h1 (by omega)
    | succ k ih =>
      intro j A' hj hj2 f1 f2 f3
      refine s_iload_n 14 dX12_keepsRow_13 rfl rfl ?_
      refine s_ldc (111708) 16 dX12_keepsRow_14 rfl kc_X12_38 rfl ?_
      refine s_icmp_ge 19 41 dX12_keepsRow_16 rfl rfl (fun g => ?_) (fun g => ?_)
      · omega
      refine s_aload_n 20 dX12_keepsRow_19 rfl rfl ?_
      refine m_getV (k := 32) 23 dX12_keepsRow_20 rfl fl_X12_39 (by decide) rfl ?_
      refine s_iload_n 24 dX12_keepsRow_23 rfl rfl ?_
      refine s_sipush 27 dX12_keepsRow_24 rfl (k := ?_)
      refine s_isub 28 dX12_keepsRow_27 rfl ?_
      refine s_aload_n 29 dX12_keepsRow_28 rfl rfl ?_
      refine m_getV (k := 32) 32 dX12_keepsRow_29 rfl fl_X12_39 (by decide) rfl ?_
      refine s_iload_n 33 dX12_keepsRow_32 rfl rfl ?_
      refine m_ald 34 8 111708 dX12_keepsRow_33 rfl (by decide) rfl (fun hr33 => ?_)
      refine m_ast 35 8 111708 dX12_keepsRow_34 rfl (by decide) rfl ?_
      refine s_iinc 38 dX12_keepsRow_35 rfl rfl (Nat.le_of_ble_eq_true rfl) rfl ?_
      refine s_goto 13 dX12_keepsRow_38 rfl ?_
      refine ih (j + 1) _ (by omega) (by omega) (f1.up (by decide)) (fun i h1 => ?_) (fun i h1 h2 => ?_)
      · rw [up_s, up_n (by omega)]
        exact f2 i (by omega)
      · rw [up_s]
        by_cases e : i = (j : Int) - 9309
        · subst e
          rw [up_s, f2 _ (by omega)]
          congr 1 <;> omega
        · rw [up_n e]
          exact f3 i h1 (by omega)
  exact key 102399 9309 A (by omega) (by omega) frA.rf (fun _ _ => rfl) (fun i h1 h2 => by omega)
theorem c_keeps {a : Nat} (ha : I 33 = a) (ha2 : a ≤ 12) (hp : ∀ A', frA [8] A A' → (∀ i : Int, 0 ≤ i → i < 9309 * ((min a 11 : Nat) : Int) → A' 8 i = A 8 (if a = 12 then i + 9309 else i)) → (∀ i, 0 ≤ i → i < 9309 → A' 8 (9309 * ((min a 11 : Nat) : Int) + i) = A 3 i) → post none (up I 33 ((min a 11 : Nat) + 1), A', D)) : Cm G (AM G m0 F n u) yX12_keeps cX12_keeps 1 none (d + 1) [.ref m0] (I, A, D) post := by
  refine Cm_intro (L := [some (.ref m0)]) (by decide +kernel) (Nat.le_of_ble_eq_true rfl) rfl ?_
  refine s_aload_n 1 dX12_keeps_0 rfl rfl ?_
  refine s_aload_n 2 dX12_keeps_1 rfl rfl ?_
  refine m_getV (k := 16) 5 dX12_keeps_2 rfl fl_X12_16 (by decide) rfl ?_
  refine s_V1v 8 dX12_keeps_5 rfl km_X12_keepsRow ml_X12_274 ds_X12_keepsRow (Nat.le_of_ble_eq_true rfl) m_rec rfl (c_keepsRow (j0 := 3) (Or.inl rfl) ha ha2 (fun A1 k1 k2 k3 => ?_))
  refine ⟨rfl, ?_⟩
  refine s_return rfl dX12_keeps_8 ?_
  exact hp A1 k1 k2 k3
theorem c_draw {m : Int} (hm : 1 ≤ m ∧ m ≤ 1000) (hp : post (some (vi (dv (dn D) m))) (I, A, dn D)) : Cm G (AM G m0 F n u) yX12_draw cX12_draw 2 (some .int) d [.ref m0, vi m] (I, A, D) post := by
  refine Cm_intro (L := [some (.ref m0), some (vi m)]) (by decide +kernel) (Nat.le_of_ble_eq_true rfl) rfl ?_
  refine s_aload_n 1 dX12_draw_0 rfl rfl ?_
  refine s_aload_n 2 dX12_draw_1 rfl rfl ?_
  refine m_getV (k := 36) 5 dX12_draw_2 rfl fl_X12_327 (by decide) rfl ?_
  refine s_ldc2 8 dX12_draw_5 rfl kc_X12_331 ?_
  refine s_lmul 9 dX12_draw_8 rfl ?_
  refine s_ldc2 12 dX12_draw_9 rfl kc_X12_333 ?_
  refine s_ladd 13 dX12_draw_12 rfl ?_
  refine m_putV (k := 36) 16 dX12_draw_13 rfl fl_X12_327 (by decide) rfl rfl rfl rfl (fun h => h) ?_
  refine s_aload_n 17 dX12_draw_16 rfl rfl ?_
  refine m_getV (k := 36) 20 dX12_draw_17 rfl fl_X12_327 (by decide) rfl ?_
  refine s_bipush 22 dX12_draw_20 rfl (k := ?_)
  refine s_lushr 23 _ dX12_draw_22 rfl rfl ?_
  refine s_iload_n 24 dX12_draw_23 rfl rfl ?_
  refine s_i2lz 25 dX12_draw_24 rfl ?_
  refine s_lrem 26 dX12_draw_25 rfl (fun h => ?_) ?_
  · have := congrArg Int64.toInt h
    rw [rL (by omega)] at this
    have h0 : m = 0 := this
    omega
  refine s_l2i 27 (dv (dn D) m) dX12_draw_26 rfl ?_ ?_
  · show (dvx (dn D) m).toInt32 = _
    unfold dv
    rw [Int32.ofInt_toInt]
  refine s_ireturn rfl dX12_draw_27 ?_
  exact hp
end M13
