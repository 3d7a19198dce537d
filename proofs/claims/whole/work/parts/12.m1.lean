/-! ===== the reference's small methods ===== -/
section M1
variable {G : GT} {m0 n u : Nat} {F : HS} {d : Nat} {I : Nat → Int} {A : Nat → Int → Int} {D : Int64} {post : Option Value → MT → Prop}
theorem c_in {x l h : Int} (hx : rg x) (hl : rg l) (hh : rg h) (hp : post (some (vb (decide (l ≤ x ∧ x ≤ h)))) (I, A, D)) : Cm G (AM G m0 F n u) yX12_in cX12_in 6 (some .boolean) d [vl x, vl l, vl h] (I, A, D) post := by
  refine Cm_intro (L := [some (vl x), none, some (vl l), none, some (vl h), none]) (by decide +kernel) (Nat.le_of_ble_eq_true rfl) rfl ?_
  refine s_lload_n 1 dX12_in_0 rfl rfl ?_
  refine s_lload_n 2 dX12_in_1 rfl rfl ?_
  refine s_lcmp_lt 6 17 dX12_in_2 dX12_in_3 rfl rfl (fun h2 => ?_) (fun h2 => ?_)
  · refine s_iconst 18 dX12_in_17 rfl ?_
    first | refine s_zreturn rfl dX12_in_18 ?_ | refine s_zreturn1 rfl dX12_in_18 ?_ | refine s_zreturn0 rfl dX12_in_18 ?_
    rw [show decide (l ≤ x ∧ x ≤ h) = false by simp; omega] at hp
    exact hp
  refine s_lload_n 7 dX12_in_6 rfl rfl ?_
  refine s_lload 9 dX12_in_7 rfl rfl ?_
  refine s_lcmp_gt 13 17 dX12_in_9 dX12_in_10 rfl rfl (fun h9 => ?_) (fun h9 => ?_)
  · refine s_iconst 18 dX12_in_17 rfl ?_
    first | refine s_zreturn rfl dX12_in_18 ?_ | refine s_zreturn1 rfl dX12_in_18 ?_ | refine s_zreturn0 rfl dX12_in_18 ?_
    rw [show decide (l ≤ x ∧ x ≤ h) = false by simp; omega] at hp
    exact hp
  refine s_iconst 14 dX12_in_13 rfl ?_
  refine s_goto 18 dX12_in_14 rfl ?_
  first | refine s_zreturn rfl dX12_in_18 ?_ | refine s_zreturn1 rfl dX12_in_18 ?_ | refine s_zreturn0 rfl dX12_in_18 ?_
  rw [show decide (l ≤ x ∧ x ≤ h) = true by simp; omega] at hp
  exact hp
theorem c_ofChannel {c w : Int} (hp : post (some (vi (1005 + 2076 * c + w))) (I, A, D)) : Cm G (AM G m0 F n u) yX12_ofChannel cX12_ofChannel 2 (some .int) d [vi c, vi w] (I, A, D) post := by
  refine Cm_intro (L := [some (vi c), some (vi w)]) (by decide +kernel) (Nat.le_of_ble_eq_true rfl) rfl ?_
  refine s_sipush 3 dX12_ofChannel_0 rfl (k := ?_)
  refine s_sipush 6 dX12_ofChannel_3 rfl (k := ?_)
  refine s_iload_n 7 dX12_ofChannel_6 rfl rfl ?_
  refine s_imul 8 dX12_ofChannel_7 rfl ?_
  refine s_iadd 9 dX12_ofChannel_8 rfl ?_
  refine s_iload_n 10 dX12_ofChannel_9 rfl rfl ?_
  refine s_iadd 11 dX12_ofChannel_10 rfl ?_
  refine s_ireturn rfl dX12_ofChannel_11 ?_
  exact hp
theorem c_its {c w : Int} (hz : 0 ≤ 1005 + 2076 * c + w ∧ 1005 + 2076 * c + w < 9309) (hp : rg (A 3 (1005 + 2076 * c + w)) → post (some (vi (A 3 (1005 + 2076 * c + w)))) (I, A, D)) : Cm G (AM G m0 F n u) yX12_its cX12_its 3 (some .int) (d + 1) [.ref m0, vi c, vi w] (I, A, D) post := by
  refine Cm_intro (L := [some (.ref m0), some (vi c), some (vi w)]) (by decide +kernel) (Nat.le_of_ble_eq_true rfl) rfl ?_
  refine s_aload_n 1 dX12_its_0 rfl rfl ?_
  refine m_getV (k := 16) 4 dX12_its_1 rfl fl_X12_16 (by decide) rfl ?_
  refine s_iload_n 5 dX12_its_4 rfl rfl ?_
  refine s_iload_n 6 dX12_its_5 rfl rfl ?_
  refine s_S2i 9 dX12_its_6 rfl km_X12_ofChannel rfl ml_X12_185 ds_X12_ofChannel (Nat.le_of_ble_eq_true rfl) (c_ofChannel ?_)
  refine ⟨_, rfl, ?_⟩
  refine m_ald 10 3 9309 dX12_its_9 rfl (by decide) rfl (fun hr9 => ?_)
  refine s_ireturn rfl dX12_its_10 ?_
  exact hp hr9
theorem c_lay {c w v : Int} (hz : 0 ≤ 1005 + 2076 * c + w ∧ 1005 + 2076 * c + w < 9309) (hv : rg v) (hp : post none (I, up A 3 (up (A 3) (1005 + 2076 * c + w) v), D)) : Cm G (AM G m0 F n u) yX12_lay cX12_lay 4 none (d + 1) [.ref m0, vi c, vi w, vi v] (I, A, D) post := by
  refine Cm_intro (L := [some (.ref m0), some (vi c), some (vi w), some (vi v)]) (by decide +kernel) (Nat.le_of_ble_eq_true rfl) rfl ?_
  refine s_aload_n 1 dX12_lay_0 rfl rfl ?_
  refine m_getV (k := 16) 4 dX12_lay_1 rfl fl_X12_16 (by decide) rfl ?_
  refine s_iload_n 5 dX12_lay_4 rfl rfl ?_
  refine s_iload_n 6 dX12_lay_5 rfl rfl ?_
  refine s_S2i 9 dX12_lay_6 rfl km_X12_ofChannel rfl ml_X12_185 ds_X12_ofChannel (Nat.le_of_ble_eq_true rfl) (c_ofChannel ?_)
  refine ⟨_, rfl, ?_⟩
  refine s_iload_n 10 dX12_lay_9 rfl rfl ?_
  refine m_ast 11 3 9309 dX12_lay_10 rfl (by decide) rfl ?_
  refine s_return rfl dX12_lay_11 ?_
  exact hp
theorem c_more {c w v : Int} (hz : 0 ≤ 1005 + 2076 * c + w ∧ 1005 + 2076 * c + w < 9309) (hv : rg (A 3 (1005 + 2076 * c + w) + v)) (hp : post none (I, up A 3 (up (A 3) (1005 + 2076 * c + w) (A 3 (1005 + 2076 * c + w) + v)), D)) : Cm G (AM G m0 F n u) yX12_more cX12_more 4 none (d + 1) [.ref m0, vi c, vi w, vi v] (I, A, D) post := by
  refine Cm_intro (L := [some (.ref m0), some (vi c), some (vi w), some (vi v)]) (by decide +kernel) (Nat.le_of_ble_eq_true rfl) rfl ?_
  refine s_aload_n 1 dX12_more_0 rfl rfl ?_
  refine m_getV (k := 16) 4 dX12_more_1 rfl fl_X12_16 (by decide) rfl ?_
  refine s_iload_n 5 dX12_more_4 rfl rfl ?_
  refine s_iload_n 6 dX12_more_5 rfl rfl ?_
  refine s_S2i 9 dX12_more_6 rfl km_X12_ofChannel rfl ml_X12_185 ds_X12_ofChannel (Nat.le_of_ble_eq_true rfl) (c_ofChannel ?_)
  refine ⟨_, rfl, ?_⟩
  refine s_dup2 (q := 10) (hd := dX12_more_9) (hq := rfl) (k := ?_)
  refine m_ald 11 3 9309 dX12_more_10 rfl (by decide) rfl (fun hr10 => ?_)
  refine s_iload_n 12 dX12_more_11 rfl rfl ?_
  refine s_iadd 13 dX12_more_12 rfl ?_
  refine m_ast 14 3 9309 dX12_more_13 rfl (by decide) rfl ?_
  refine s_return rfl dX12_more_14 ?_
  exact hp
end M1
