section M2
variable {G : GT} {m0 n u : Nat} {F : HS} {d : Nat} {I : Nat → Int} {A : Nat → Int → Int} {D : Int64} {post : Option Value → MT → Prop}
theorem c_puts {v : Int} (hz : 0 ≤ I 28 ∧ I 28 < 1400) (hv : rg v) (hp : post none (up I 28 (I 28 + 1), up A 6 (up (A 6) (I 28) v), D)) : Cm G (AM G m0 F n u) yX12_puts cX12_puts 2 none d [.ref m0, vi v] (I, A, D) post := by
  refine Cm_intro (L := [some (.ref m0), some (vi v)]) (by decide +kernel) (Nat.le_of_ble_eq_true rfl) rfl ?_
  refine s_aload_n 1 dX12_puts_0 rfl rfl ?_
  refine m_getV (k := 27) 4 dX12_puts_1 rfl fl_X12_32 (by decide) rfl ?_
  refine s_aload_n 5 dX12_puts_4 rfl rfl ?_
  refine m_getI 8 28 dX12_puts_5 rfl fl_X12_214 (by decide) rfl (fun hr5 => ?_)
  refine s_iload_n 9 dX12_puts_8 rfl rfl ?_
  refine m_ast 10 6 1400 dX12_puts_9 rfl (by decide) rfl ?_
  refine s_aload_n 11 dX12_puts_10 rfl rfl ?_
  refine s_dup (q := 12) (hd := dX12_puts_11) (hq := rfl) (k := ?_)
  refine m_getI 15 28 dX12_puts_12 rfl fl_X12_214 (by decide) rfl (fun hr12 => ?_)
  refine s_iconst 16 dX12_puts_15 rfl ?_
  refine s_iadd 17 dX12_puts_16 rfl ?_
  refine m_putI 20 28 dX12_puts_17 rfl fl_X12_214 (by decide) rfl rfl rfl rfl ?_
  refine s_return rfl dX12_puts_20 ?_
  exact hp
theorem c_plainly {v : Int} (hz : 0 ≤ I 26 ∧ I 26 < 1400) (hv : rg v) (hp : post none (up I 26 (I 26 + 1), up A 5 (up (A 5) (I 26) v), D)) : Cm G (AM G m0 F n u) yX12_plainly cX12_plainly 2 none d [.ref m0, vi v] (I, A, D) post := by
  refine Cm_intro (L := [some (.ref m0), some (vi v)]) (by decide +kernel) (Nat.le_of_ble_eq_true rfl) rfl ?_
  refine s_aload_n 1 dX12_plainly_0 rfl rfl ?_
  refine m_getV (k := 25) 4 dX12_plainly_1 rfl fl_X12_29 (by decide) rfl ?_
  refine s_aload_n 5 dX12_plainly_4 rfl rfl ?_
  refine m_getI 8 26 dX12_plainly_5 rfl fl_X12_217 (by decide) rfl (fun hr5 => ?_)
  refine s_iload_n 9 dX12_plainly_8 rfl rfl ?_
  refine m_ast 10 5 1400 dX12_plainly_9 rfl (by decide) rfl ?_
  refine s_aload_n 11 dX12_plainly_10 rfl rfl ?_
  refine s_dup (q := 12) (hd := dX12_plainly_11) (hq := rfl) (k := ?_)
  refine m_getI 15 26 dX12_plainly_12 rfl fl_X12_217 (by decide) rfl (fun hr12 => ?_)
  refine s_iconst 16 dX12_plainly_15 rfl ?_
  refine s_iadd 17 dX12_plainly_16 rfl ?_
  refine m_putI 20 26 dX12_plainly_17 rfl fl_X12_217 (by decide) rfl rfl rfl rfl ?_
  refine s_return rfl dX12_plainly_20 ?_
  exact hp
theorem c_runFrom {p Ln : Nat} {bs : List Int} (h26 : I 26 = bs.length) (hN : bs.length ≤ 1300) (hbs : sg (A 5) 0 bs) (hL : I 19 = Ln) (hpl : p ≤ bs.length) (hp : post (some (vi (rln Ln (bs.drop p) : Nat))) (I, A, D)) : Cm G (AM G m0 F n u) yX12_runFrom cX12_runFrom 3 (some .int) d [.ref m0, vi p] (I, A, D) post := by
  refine Cm_intro (L := [some (.ref m0), some (vi p), none]) (by decide +kernel) (Nat.le_of_ble_eq_true rfl) rfl ?_
  refine s_iconst 1 dX12_runFrom_0 rfl ?_
  refine s_istore_n 2 dX12_runFrom_1 rfl (Nat.le_of_ble_eq_true rfl) rfl ?_
  have key : ∀ (k r : Nat), p + r + k = bs.length → r ≤ Ln → rln Ln (bs.drop p) = r + rln (Ln - r) (bs.drop (p + r)) → V G (AM G m0 F n u) yX12_runFrom cX12_runFrom 3 (some .int) d (I, A, D) 2 [some (.ref m0), some (vi p), some (vi r)] [] post := by
    intro k
    induction k with
    | zero =>
      intro r hk hr he
      refine s_iload_n 3 dX12_runFrom_2 rfl rfl ?_
      refine s_iload_n 4 dX12_runFrom_3 rfl rfl ?_
      refine s_iadd 5 dX12_runFrom_4 rfl ?_
      refine s_aload_n 6 dX12_runFrom_5 rfl rfl ?_
      refine m_getI 9 26 dX12_runFrom_6 rfl fl_X12_217 (by decide) rfl (fun hr6 => ?_)
      refine s_icmp_ge 12 37 dX12_runFrom_9 rfl rfl (fun h => ?_) (fun h => ?_)
      · refine s_iload_n 38 dX12_runFrom_37 rfl rfl ?_
        refine s_ireturn rfl dX12_runFrom_38 ?_
        rw [show bs.drop (p + r) = [] from List.drop_eq_nil_of_le (by omega), rln_nil, Nat.add_zero] at he
        rw [he] at hp
        exact hp
      · omega
    | succ k ih =>
      intro r hk hr he
      refine s_iload_n 3 dX12_runFrom_2 rfl rfl ?_
      refine s_iload_n 4 dX12_runFrom_3 rfl rfl ?_
      refine s_iadd 5 dX12_runFrom_4 rfl ?_
      refine s_aload_n 6 dX12_runFrom_5 rfl rfl ?_
      refine m_getI 9 26 dX12_runFrom_6 rfl fl_X12_217 (by decide) rfl (fun hr6 => ?_)
      refine s_icmp_ge 12 37 dX12_runFrom_9 rfl rfl (fun h => ?_) (fun h => ?_)
      · omega
      refine s_aload_n 13 dX12_runFrom_12 rfl rfl ?_
      refine m_getV (k := 25) 16 dX12_runFrom_13 rfl fl_X12_29 (by decide) rfl ?_
      refine s_iload_n 17 dX12_runFrom_16 rfl rfl ?_
      refine s_iload_n 18 dX12_runFrom_17 rfl rfl ?_
      refine s_iadd 19 dX12_runFrom_18 rfl ?_
      refine m_ald 20 5 1400 dX12_runFrom_19 rfl (by decide) rfl (fun hr19 => ?_)
      have h19 : A 5 ((p : Int) + (r : Int)) = bs.getD (p + r) 0 := by rw [← hbs (p + r) (by omega)]; congr 1; omega
      refine s_if_eq 23 37 dX12_runFrom_20 rfl rfl (fun h2 => ?_) (fun h2 => ?_)
      · refine s_iload_n 38 dX12_runFrom_37 rfl rfl ?_
        refine s_ireturn rfl dX12_runFrom_38 ?_
        rw [drop_cons (k := p + r) (by omega), show bs.getD (p + r) 0 = 0 by omega, rln_zero, Nat.add_zero] at he
        rw [he] at hp
        exact hp
      refine s_iload_n 24 dX12_runFrom_23 rfl rfl ?_
      refine s_aload_n 25 dX12_runFrom_24 rfl rfl ?_
      refine m_getI 28 19 dX12_runFrom_25 rfl fl_X12_19 (by decide) rfl (fun hr25 => ?_)
      refine s_icmp_ge 31 37 dX12_runFrom_28 rfl rfl (fun h3 => ?_) (fun h3 => ?_)
      · refine s_iload_n 38 dX12_runFrom_37 rfl rfl ?_
        refine s_ireturn rfl dX12_runFrom_38 ?_
        rw [show Ln - r = 0 by omega, rln_0, Nat.add_zero] at he
        rw [he] at hp
        exact hp
      refine s_iinc 34 dX12_runFrom_31 rfl rfl (Nat.le_of_ble_eq_true rfl) rfl ?_
      refine s_goto 2 dX12_runFrom_34 rfl ?_
      refine ih (r + 1) (by omega) (by omega) ?_
      rw [he, drop_cons (k := p + r) (by omega), show Ln - r = (Ln - (r + 1)) + 1 by omega, rln_succ (by omega), show p + (r + 1) = p + r + 1 by omega]
      omega
  exact key (bs.length - p) 0 (by omega) (by omega) (by simp)
theorem c_block {cd : Int} {p run : Nat} {bs out : List Int} (hbs : sg (A 5) 0 bs) (hN : bs.length ≤ 1300) (hpr : p + run ≤ bs.length) (h28 : I 28 = out.length) (ho : sg (A 6) 0 out) (hc : out.length + 1 + run ≤ 1400) (hcd : rg cd) (hp : ∀ I' A', frI [28, 29] I I' → I' 28 = out.length + 1 + run → I' 29 = out.length → frA [6] A A' → sg (A' 6) 0 (out ++ cd :: (bs.drop p).take run) → post none (I', A', D)) : Cm G (AM G m0 F n u) yX12_block cX12_block 5 none (d + 1) [.ref m0, vi cd, vi p, vi run] (I, A, D) post := by
  refine Cm_intro (L := [some (.ref m0), some (vi cd), some (vi p), some (vi run), none]) (by decide +kernel) (Nat.le_of_ble_eq_true rfl) rfl ?_
  refine s_aload_n 1 dX12_block_0 rfl rfl ?_
  refine s_aload_n 2 dX12_block_1 rfl rfl ?_
  refine m_getI 5 28 dX12_block_2 rfl fl_X12_214 (by decide) rfl (fun hr2 => ?_)
  refine m_putI 8 29 dX12_block_5 rfl fl_X12_220 (by decide) rfl rfl rfl rfl ?_
  refine s_aload_n 9 dX12_block_8 rfl rfl ?_
  refine s_iload_n 10 dX12_block_9 rfl rfl ?_
  refine s_V1v 13 dX12_block_10 rfl km_X12_puts ml_X12_223 ds_X12_puts (Nat.le_of_ble_eq_true rfl) m_rec rfl (c_puts (by show 0 ≤ I 28 ∧ I 28 < 1400; omega) hcd ?_)
  refine ⟨rfl, ?_⟩
  refine s_iconst 14 dX12_block_13 rfl ?_
  refine s_istore 16 dX12_block_14 rfl (Nat.le_of_ble_eq_true rfl) rfl ?_
  have key : ∀ (k r : Nat) (I' : Nat → Int) (A' : Nat → Int → Int), r + k = run → frI [28, 29] I I' → I' 28 = out.length + 1 + r → I' 29 = out.length → frA [6] A A' → sg (A' 6) 0 (out ++ cd :: (bs.drop p).take r) → V G (AM G m0 F n u) yX12_block cX12_block 5 none (d + 1) (I', A', D) 16 [some (.ref m0), some (vi cd), some (vi p), some (vi run), some (vi r)] [] post := by
    intro k
    induction k with
    | zero =>
      intro r I' A' hk f1 f2 f3 f4 f5
      refine s_iload 18 dX12_block_16 rfl rfl ?_
      refine s_iload_n 19 dX12_block_18 rfl rfl ?_
      refine s_icmp_ge 22 41 dX12_block_19 rfl rfl (fun h => ?_) (fun h => ?_)
      · refine s_return rfl dX12_block_41 ?_
        obtain rfl : r = run := by omega
        exact hp I' A' f1 f2 f3 f4 f5
      · omega
    | succ k ih =>
      intro r I' A' hk f1 f2 f3 f4 f5
      refine s_iload 18 dX12_block_16 rfl rfl ?_
      refine s_iload_n 19 dX12_block_18 rfl rfl ?_
      refine s_icmp_ge 22 41 dX12_block_19 rfl rfl (fun h => ?_) (fun h => ?_)
      · omega
      have e5 : A' 5 = A 5 := f4 5 (by decide)
      have hlen : (out ++ cd :: (bs.drop p).take r).length = out.length + 1 + r := by
        rw [List.length_append, List.length_cons, List.length_take_of_le (by rw [List.length_drop]; omega)]
        omega
      refine s_aload_n 23 dX12_block_22 rfl rfl ?_
      refine s_aload_n 24 dX12_block_23 rfl rfl ?_
      refine m_getV (k := 25) 27 dX12_block_24 rfl fl_X12_29 (by decide) rfl ?_
      refine s_iload_n 28 dX12_block_27 rfl rfl ?_
      refine s_iload 30 dX12_block_28 rfl rfl ?_
      refine s_iadd 31 dX12_block_30 rfl ?_
      refine m_ald 32 5 1400 dX12_block_31 rfl (by decide) rfl (fun hr31 => ?_)
      refine s_V1v 35 dX12_block_32 rfl km_X12_puts ml_X12_223 ds_X12_puts (Nat.le_of_ble_eq_true rfl) m_rec rfl (c_puts (by omega) hr31 ?_)
      refine ⟨rfl, ?_⟩
      refine s_iinc 38 dX12_block_35 rfl rfl (Nat.le_of_ble_eq_true rfl) rfl ?_
      refine s_goto 16 dX12_block_38 rfl ?_
      refine ih (r + 1) _ _ (by omega) (f1.up (by decide)) (by rw [up_s, f2]; omega) (by rw [up_n (by decide)]; exact f3) (f4.up (by decide)) ?_
      rw [up_s]
      have e9 : (bs.drop p).take (r + 1) = (bs.drop p).take r ++ [A' 5 ((p : Int) + (r : Int))] := by
        rw [e5, show (p : Int) + (r : Int) = 0 + ((p + r : Nat) : Int) by omega, hbs (p + r) (by omega), List.take_add_one]
        congr 1
        rw [List.getElem?_drop, List.getD_eq_getElem?_getD, List.getElem?_eq_getElem (by omega)]
        rfl
      rw [e9, ← List.cons_append, ← List.append_assoc]
      exact sg_snoc' f5 (by rw [hlen, f2]; omega)
  refine key run 0 _ _ (by omega) ((frI.rf.up (by decide)).up (by decide)) (by rw [up_s]; show I 28 + 1 = _; omega) (by show I 28 = _; omega) (frA.rf.up (by decide)) ?_
  rw [up_s, List.take_zero]
  exact sg_snoc' ho (by show I 28 = _; omega)
theorem c_isPair {p : Nat} {bs : List Int} (h26 : I 26 = bs.length) (hN : bs.length ≤ 1300) (hbs : sg (A 5) 0 bs) (hpl : p ≤ bs.length) (hp : post (some (vb (decide (p + 1 < bs.length ∧ bs.getD p 0 = 0 ∧ bs.getD (p + 1) 0 = 0)))) (I, A, D)) : Cm G (AM G m0 F n u) yX12_isPair cX12_isPair 2 (some .boolean) d [.ref m0, vi p] (I, A, D) post := by
  refine Cm_intro (L := [some (.ref m0), some (vi p)]) (by decide +kernel) (Nat.le_of_ble_eq_true rfl) rfl ?_
  refine s_iload_n 1 dX12_isPair_0 rfl rfl ?_
  refine s_iconst 2 dX12_isPair_1 rfl ?_
  refine s_iadd 3 dX12_isPair_2 rfl ?_
  refine s_aload_n 4 dX12_isPair_3 rfl rfl ?_
  refine m_getI 7 26 dX12_isPair_4 rfl fl_X12_217 (by decide) rfl (fun hr4 => ?_)
  refine s_icmp_ge 10 34 dX12_isPair_7 rfl rfl (fun h => ?_) (fun h => ?_)
  · refine s_iconst 35 dX12_isPair_34 rfl ?_
    first | refine s_zreturn rfl dX12_isPair_35 ?_ | refine s_zreturn1 rfl dX12_isPair_35 ?_ | refine s_zreturn0 rfl dX12_isPair_35 ?_
    rw [show decide (p + 1 < bs.length ∧ bs.getD p 0 = 0 ∧ bs.getD (p + 1) 0 = 0) = false from decide_eq_false (by omega)] at hp
    exact hp
  have e0 : A 5 (p : Int) = bs.getD p 0 := by rw [← hbs p (by omega)]; congr 1; omega
  have e1 : A 5 ((p : Int) + 1) = bs.getD (p + 1) 0 := by rw [← hbs (p + 1) (by omega)]; congr 1; omega
  refine s_aload_n 11 dX12_isPair_10 rfl rfl ?_
  refine m_getV (k := 25) 14 dX12_isPair_11 rfl fl_X12_29 (by decide) rfl ?_
  refine s_iload_n 15 dX12_isPair_14 rfl rfl ?_
  refine m_ald 16 5 1400 dX12_isPair_15 rfl (by decide) rfl (fun hr15 => ?_)
  refine s_if_ne 19 34 dX12_isPair_16 rfl rfl (fun h2 => ?_) (fun h2 => ?_)
  · refine s_iconst 35 dX12_isPair_34 rfl ?_
    first | refine s_zreturn rfl dX12_isPair_35 ?_ | refine s_zreturn1 rfl dX12_isPair_35 ?_ | refine s_zreturn0 rfl dX12_isPair_35 ?_
    rw [show decide (p + 1 < bs.length ∧ bs.getD p 0 = 0 ∧ bs.getD (p + 1) 0 = 0) = false from decide_eq_false (by omega)] at hp
    exact hp
  refine s_aload_n 20 dX12_isPair_19 rfl rfl ?_
  refine m_getV (k := 25) 23 dX12_isPair_20 rfl fl_X12_29 (by decide) rfl ?_
  refine s_iload_n 24 dX12_isPair_23 rfl rfl ?_
  refine s_iconst 25 dX12_isPair_24 rfl ?_
  refine s_iadd 26 dX12_isPair_25 rfl ?_
  refine m_ald 27 5 1400 dX12_isPair_26 rfl (by decide) rfl (fun hr26 => ?_)
  refine s_if_ne 30 34 dX12_isPair_27 rfl rfl (fun h3 => ?_) (fun h3 => ?_)
  · refine s_iconst 35 dX12_isPair_34 rfl ?_
    first | refine s_zreturn rfl dX12_isPair_35 ?_ | refine s_zreturn1 rfl dX12_isPair_35 ?_ | refine s_zreturn0 rfl dX12_isPair_35 ?_
    rw [show decide (p + 1 < bs.length ∧ bs.getD p 0 = 0 ∧ bs.getD (p + 1) 0 = 0) = false from decide_eq_false (by omega)] at hp
    exact hp
  refine s_iconst 31 dX12_isPair_30 rfl ?_
  refine s_goto 35 dX12_isPair_31 rfl ?_
  first | refine s_zreturn rfl dX12_isPair_35 ?_ | refine s_zreturn1 rfl dX12_isPair_35 ?_ | refine s_zreturn0 rfl dX12_isPair_35 ?_
  rw [show decide (p + 1 < bs.length ∧ bs.getD p 0 = 0 ∧ bs.getD (p + 1) 0 = 0) = true from decide_eq_true (by omega)] at hp
  exact hp
end M2
