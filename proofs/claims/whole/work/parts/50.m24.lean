section M24
variable {G : GT} {m0 n u : Nat} {F : HS} {d : Nat} {I : Nat → Int} {A : Nat → Int → Int} {D : Int64} {post : Option Value → MT → Prop} {S : SY} {b : Int}
theorem o_count {z : Int} (hz : rg z) (hm : RepM I A S) (hp : ∀ I' A', RepM I' A' S → post (some (vi (aCount S z))) (I', A', D)) : Cm G (AM G m0 F n u) yX12_count cX12_count 2 (some .int) d [.ref m0, vi z] (I, A, D) post := by
  obtain ⟨tp, bx, hd, rf, il, ru, tl, s, ps, im⟩ := S
  have hp := hp (up I 0 0) A (hm.scr (frI.rf.up (by decide)) frA.rf)
  obtain ⟨⟨m1, -⟩, ⟨m2, -⟩, ⟨m3, -⟩, -, -, -, -, m4, -⟩ := hm
  refine Cm_intro (L := [some (.ref m0), some (vi z)]) (by decide +kernel) (Nat.le_of_ble_eq_true rfl) rfl ?_
  have eo : aCount (tp, bx, hd, rf, il, ru, tl, s, ps, im) z = if z = 0 then (tp.length : Int) else if z = 1 then (ps.length : Int) else if z = 2 then (bx.length : Int) else if z = 3 then (hd.length : Int) else -1 := rfl
  rw [eo] at hp
  refine s_aload_n 1 dX12_count_0 rfl rfl ?_
  refine s_iconst 2 dX12_count_1 rfl ?_
  refine m_putI 5 0 dX12_count_2 rfl fl_X12_60 (by decide) rfl rfl rfl rfl ?_
  refine s_iload_n 6 dX12_count_5 rfl rfl ?_
  refine s_tabL [36, 41, 46, 51] 56 dX12_count_6 rfl rfl rfl (by decide) ⟨fun hc => ?_, fun hc => ?_, fun hc => ?_, fun hc => ?_, trivial⟩ (fun hc => ?_)
  · refine s_aload_n 37 dX12_count_36 rfl rfl ?_
    refine m_getI 40 2 dX12_count_37 rfl fl_X12_63 (by decide) rfl (fun hr37 => ?_)
    refine s_ireturn rfl dX12_count_40 ?_
    rw [if_pos (by omega)] at hp
    rw [up_n (by decide), m1]
    exact hp
  · refine s_aload_n 42 dX12_count_41 rfl rfl ?_
    refine m_getI 45 33 dX12_count_42 rfl fl_X12_205 (by decide) rfl (fun hr42 => ?_)
    refine s_ireturn rfl dX12_count_45 ?_
    rw [if_neg (by omega), if_pos (by omega)] at hp
    rw [up_n (by decide), m4]
    exact hp
  · refine s_aload_n 47 dX12_count_46 rfl rfl ?_
    refine m_getI 50 31 dX12_count_47 rfl fl_X12_254 (by decide) rfl (fun hr47 => ?_)
    refine s_ireturn rfl dX12_count_50 ?_
    rw [if_neg (by omega), if_neg (by omega), if_pos (by omega)] at hp
    rw [up_n (by decide), m2]
    exact hp
  · refine s_aload_n 52 dX12_count_51 rfl rfl ?_
    refine m_getI 55 38 dX12_count_52 rfl fl_X12_211 (by decide) rfl (fun hr52 => ?_)
    refine s_ireturn rfl dX12_count_55 ?_
    rw [if_neg (by omega), if_neg (by omega), if_neg (by omega), if_pos (by omega)] at hp
    rw [up_n (by decide), m3]
    exact hp
  · refine s_iconst 57 dX12_count_56 rfl ?_
    refine s_ireturn rfl dX12_count_57 ?_
    rw [if_neg (by omega), if_neg (by omega), if_neg (by omega), if_neg (by omega)] at hp
    exact hp
end M24
