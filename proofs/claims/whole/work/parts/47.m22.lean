section M22
variable {G : GT} {m0 n u : Nat} {F : HS} {d : Nat} {I : Nat → Int} {A : Nat → Int → Int} {D : Int64} {post : Option Value → MT → Prop} {S : SY} {b : Int}
/-- what is only scratch may change -/
theorem RepM.scr {I I' : Nat → Int} {A A' : Nat → Int → Int} {S : SY} (h : RepM I A S) (f1 : frI [0, 3, 4, 5, 6, 7, 8, 9, 10, 11, 12, 13, 14, 26, 28, 29, 41] I I') (f2 : frA [2, 5, 6, 9, 12, 13] A A') : RepM I' A' S := by
  obtain ⟨tp, bx, hd, rf, il, ru, tl, s, ps, im⟩ := S
  obtain ⟨⟨a1, a2⟩, ⟨a3, a4⟩, ⟨a5, a6⟩, a7, a8, ⟨a9, a10⟩, a11, a12, a13, a14⟩ := h
  refine ⟨⟨(f1 2 (by decide)).trans a1, by rw [f2 1 (by decide)]; exact a2⟩, ⟨(f1 31 (by decide)).trans a3, by rw [f2 7 (by decide)]; exact a4⟩, ⟨(f1 38 (by decide)).trans a5, by rw [f2 11 (by decide)]; exact a6⟩, fun k hk => by rw [f2 10 (by decide)]; exact a7 k hk, (f1 17 (by decide)).trans a8, ⟨(f1 19 (by decide)).trans a9, (f1 20 (by decide)).trans a10⟩, by rw [f1 23 (by decide)]; exact a11, (f1 33 (by decide)).trans a12, (f1 43 (by decide)).trans a13, fun hi => ?_⟩
  obtain ⟨b1, b2, b3, b4, b5⟩ := a14 hi
  refine ⟨b1.fr f1 (by decide), fun c hc => by rw [f2 4 (by decide)]; exact b2 c hc, by rw [f2 3 (by decide)]; exact b3, fun k hk => by rw [f2 8 (by decide)]; exact b4 k hk, fun x hx => by rw [f2 14 (by decide)]; exact b5 x hx⟩
/-- another TAPE, another BOX -/
theorem RepM.tb {I I' : Nat → Int} {A A' : Nat → Int → Int} {tp bx tp' bx' hd : List Int} {rf : Nat → Int} {il : Int} {ru : RU} {tl : Nat → Int} {s : ST} {ps : List ST} {im : Option ST} (h : RepM I A (tp, bx, hd, rf, il, ru, tl, s, ps, im)) (f1 : frI [0, 2, 3, 4, 5, 6, 7, 8, 9, 10, 11, 12, 13, 14, 26, 28, 29, 31, 41] I I') (f2 : frA [1, 2, 5, 6, 7, 9, 12, 13] A A') (h1 : I' 2 = tp'.length) (h2 : sg (A' 1) 0 tp') (h3 : I' 31 = bx'.length) (h4 : sg (A' 7) 0 bx') : RepM I' A' (tp', bx', hd, rf, il, ru, tl, s, ps, im) := by
  obtain ⟨⟨a1, a2⟩, ⟨a3, a4⟩, ⟨a5, a6⟩, a7, a8, ⟨a9, a10⟩, a11, a12, a13, a14⟩ := h
  refine ⟨⟨h1, h2⟩, ⟨h3, h4⟩, ⟨(f1 38 (by decide)).trans a5, by rw [f2 11 (by decide)]; exact a6⟩, fun k hk => by rw [f2 10 (by decide)]; exact a7 k hk, (f1 17 (by decide)).trans a8, ⟨(f1 19 (by decide)).trans a9, (f1 20 (by decide)).trans a10⟩, by rw [f1 23 (by decide)]; exact a11, (f1 33 (by decide)).trans a12, (f1 43 (by decide)).trans a13, fun hi => ?_⟩
  obtain ⟨b1, b2, b3, b4, b5⟩ := a14 hi
  refine ⟨b1.fr f1 (by decide), fun c hc => by rw [f2 4 (by decide)]; exact b2 c hc, by rw [f2 3 (by decide)]; exact b3, fun k hk => by rw [f2 8 (by decide)]; exact b4 k hk, fun x hx => by rw [f2 14 (by decide)]; exact b5 x hx⟩
theorem c_four {tp : List Int} {v : Int} (hv : rg v) (h2 : I 2 = tp.length) (ht : sg (A 1) 0 tp) (hl : tp.length ≤ 296) (hp : ∀ A', frA [1] A A' → sg (A' 1) 0 (tp ++ fouF v) → post none (up I 2 ((tp ++ fouF v).length), A', D)) : Cm G (AM G m0 F n u) yX12_four cX12_four 3 none d [.ref m0, vi v] (I, A, D) post := by
  refine Cm_intro (L := [some (.ref m0), some (vi v), none]) (by decide +kernel) (Nat.le_of_ble_eq_true rfl) rfl ?_
  have st : ∀ (k : Nat) (out : List Int) (I1 : Nat → Int) (A1 : Nat → Int → Int) (z : Int), (k = 24 ∨ k = 16 ∨ k = 8 ∨ k = 0) → I1 = up I 2 (out.length : Int) → frA [1] A A1 → sg (A1 1) 0 out → out.length < 300 → v / ((2 ^ k : Nat) : Int) % 256 = z → (∀ A2, frA [1] A A2 → sg (A2 1) 0 (out ++ [z]) → V G (AM G m0 F n u) yX12_four cX12_four 3 none d (up I 2 ((out ++ [z]).length : Int), A2, D) 3 [some (.ref m0), some (vi v), some (vi ((k : Int) - 8))] [] post) → V G (AM G m0 F n u) yX12_four cX12_four 3 none d (I1, A1, D) 3 [some (.ref m0), some (vi v), some (vi k)] [] post := by
    intro k out I1 A1 z hk hI hA ho hlen hz kk
    subst hI
    have e2 : up I 2 (out.length : Int) 2 = out.length := by rw [up_s]
    have hkk : ((Int32.ofInt (k : Int) &&& 31).toBitVec.smod 32).toNat = k := by rcases hk with rfl | rfl | rfl | rfl <;> decide
    refine s_iload_n 4 dX12_four_3 rfl rfl ?_
    refine s_if_lt 7 39 dX12_four_4 rfl rfl (fun g => ?_) (fun g => ?_)
    · omega
    refine s_aload_n 8 dX12_four_7 rfl rfl ?_
    refine m_getV (k := 1) 11 dX12_four_8 rfl fl_X12_9 (by decide) rfl ?_
    refine s_aload_n 12 dX12_four_11 rfl rfl ?_
    refine m_getI 15 2 dX12_four_12 rfl fl_X12_63 (by decide) rfl (fun hr12 => ?_)
    refine s_iload_n 16 dX12_four_15 rfl rfl ?_
    refine s_iload_n 17 dX12_four_16 rfl rfl ?_
    refine s_ishr 18 (v / ((2 ^ k : Nat) : Int)) dX12_four_17 rfl ((shr_k hv k hkk)) ?_
    refine s_sipush 21 dX12_four_18 rfl (k := ?_)
    refine s_iand 22 (z) dX12_four_21 rfl ((by rw [and_255, hz])) ?_
    refine m_ast 23 1 300 dX12_four_22 rfl (by decide) rfl ?_
    refine s_aload_n 24 dX12_four_23 rfl rfl ?_
    refine s_dup (q := 25) (hd := dX12_four_24) (hq := rfl) (k := ?_)
    refine m_getI 28 2 dX12_four_25 rfl fl_X12_63 (by decide) rfl (fun hr25 => ?_)
    refine s_iconst 29 dX12_four_28 rfl ?_
    refine s_iadd 30 dX12_four_29 rfl ?_
    refine m_putI 33 2 dX12_four_30 rfl fl_X12_63 (by decide) rfl rfl rfl rfl ?_
    refine s_iinc 36 dX12_four_33 rfl rfl (Nat.le_of_ble_eq_true rfl) rfl ?_
    refine s_goto 3 dX12_four_36 rfl ?_
    have := kk (up A1 1 (up (A1 1) (up I 2 (out.length : Int) 2) z)) (hA.up (by decide)) (by rw [up_s, e2]; exact sg_snoc' ho (by omega))
    rw [List.length_append, List.length_singleton] at this
    rw [e2, up_up]
    rw [e2] at this
    exact_mod_cast this
  refine s_bipush 2 dX12_four_0 rfl (k := ?_)
  refine s_istore_n 3 dX12_four_2 rfl (Nat.le_of_ble_eq_true rfl) rfl ?_
  refine st 24 tp I A _ (by omega) (up_self h2).symm frA.rf ht (by omega) rfl (fun A1 f1 s1 => ?_)
  refine st 16 _ _ A1 _ (by omega) rfl f1 s1 (by rw [List.length_append, List.length_singleton]; omega) rfl (fun A2 f2 s2 => ?_)
  refine st 8 _ _ A2 _ (by omega) rfl f2 s2 (by rw [List.length_append, List.length_append, List.length_singleton, List.length_singleton]; omega) rfl (fun A3 f3 s3 => ?_)
  refine st 0 _ _ A3 _ (by omega) rfl f3 s3 (by rw [List.length_append, List.length_append, List.length_append, List.length_singleton, List.length_singleton, List.length_singleton]; omega) rfl (fun A4 f4 s4 => ?_)
  refine s_iload_n 4 dX12_four_3 rfl rfl ?_
  refine s_if_lt 7 39 dX12_four_4 rfl rfl (fun g => ?_) (fun g => ?_)
  · refine s_return rfl dX12_four_39 ?_
    have e : tp ++ [v / ((2 ^ 24 : Nat) : Int) % 256] ++ [v / ((2 ^ 16 : Nat) : Int) % 256] ++ [v / ((2 ^ 8 : Nat) : Int) % 256] ++ [v / ((2 ^ 0 : Nat) : Int) % 256] = tp ++ fouF v := by
      unfold fouF
      simp
    rw [e] at s4 ⊢
    exact hp A4 f4 s4
  · omega
theorem o_feed {a1 a2 a3 a4 a5 : Int} (h1 : rg a1) (h2 : rg a2) (h3 : rg a3) (h4 : rg a4) (h5 : rg a5) (hm : RepM I A S) (hw : WfSy b S) (hp : ∀ I' A', RepM I' A' (oFeed S a1 a2 a3 a4 a5).2 → post (some (vi (oFeed S a1 a2 a3 a4 a5).1)) (I', A', D)) : Cm G (AM G m0 F n u) yX12_feed cX12_feed 6 (some .int) (d + 1) [.ref m0, vi a1, vi a2, vi a3, vi a4, vi a5] (I, A, D) post := by
  obtain ⟨tp, bx, hd, rf, il, ru, tl, s, ps, im⟩ := S
  have hm0 := hm
  obtain ⟨⟨m1, m2⟩, -⟩ := hm0
  obtain ⟨⟨w1, w2⟩, -⟩ := hw
  refine Cm_intro (L := [some (.ref m0), some (vi a1), some (vi a2), some (vi a3), some (vi a4), some (vi a5)]) (by decide +kernel) (Nat.le_of_ble_eq_true rfl) rfl ?_
  refine s_aload_n 1 dX12_feed_0 rfl rfl ?_
  refine s_iconst 2 dX12_feed_1 rfl ?_
  refine m_putI 5 0 dX12_feed_2 rfl fl_X12_60 (by decide) rfl rfl rfl rfl ?_
  refine s_aload_n 6 dX12_feed_5 rfl rfl ?_
  refine m_getI 9 2 dX12_feed_6 rfl fl_X12_63 (by decide) rfl (fun hr6 => ?_)
  refine s_bipush 11 dX12_feed_9 rfl (k := ?_)
  refine s_iadd 12 dX12_feed_11 rfl ?_
  refine s_sipush 15 dX12_feed_12 rfl (k := ?_)
  have e2 : up I 0 0 2 = tp.length := by rw [up_n (by decide)]; exact m1
  refine s_icmp_le 18 20 dX12_feed_15 rfl rfl (fun g => ?_) (fun g => ?_)
  rotate_left
  · refine s_iconst 19 dX12_feed_18 rfl ?_
    refine s_ireturn rfl dX12_feed_19 ?_
    have eo : oFeed (tp, bx, hd, rf, il, ru, tl, s, ps, im) a1 a2 a3 a4 a5 = (-1, tp, bx, hd, rf, il, ru, tl, s, ps, im) := if_pos (by omega)
    rw [eo] at hp
    exact hp _ A (hm.scr (frI.rf.up (by decide)) frA.rf)
  have l4 : ∀ v, (fouF v).length = 4 := fun v => rfl
  refine s_aload_n 21 dX12_feed_20 rfl rfl ?_
  refine s_iload_n 22 dX12_feed_21 rfl rfl ?_
  refine s_V1v 25 dX12_feed_22 rfl km_X12_four ml_X12_66 ds_X12_four (Nat.le_of_ble_eq_true rfl) m_rec rfl (c_four h1 e2 m2 (by omega) (fun A1 f1 s1 => ?_))
  refine ⟨rfl, ?_⟩
  refine s_aload_n 26 dX12_feed_25 rfl rfl ?_
  refine s_iload_n 27 dX12_feed_26 rfl rfl ?_
  refine s_V1v 30 dX12_feed_27 rfl km_X12_four ml_X12_66 ds_X12_four (Nat.le_of_ble_eq_true rfl) m_rec rfl (c_four h2 (by rw [up_s]) s1 (by rw [List.length_append, l4]; omega) (fun A2 f2 s2 => ?_))
  refine ⟨rfl, ?_⟩
  refine s_aload_n 31 dX12_feed_30 rfl rfl ?_
  refine s_iload_n 32 dX12_feed_31 rfl rfl ?_
  refine s_V1v 35 dX12_feed_32 rfl km_X12_four ml_X12_66 ds_X12_four (Nat.le_of_ble_eq_true rfl) m_rec rfl (c_four h3 (by rw [up_s]) s2 (by rw [List.length_append, List.length_append, l4, l4]; omega) (fun A3 f3 s3 => ?_))
  refine ⟨rfl, ?_⟩
  refine s_aload_n 36 dX12_feed_35 rfl rfl ?_
  refine s_iload 38 dX12_feed_36 rfl rfl ?_
  refine s_V1v 41 dX12_feed_38 rfl km_X12_four ml_X12_66 ds_X12_four (Nat.le_of_ble_eq_true rfl) m_rec rfl (c_four h4 (by rw [up_s]) s3 (by rw [List.length_append, List.length_append, List.length_append, l4, l4, l4]; omega) (fun A4 f4 s4 => ?_))
  refine ⟨rfl, ?_⟩
  refine s_aload_n 42 dX12_feed_41 rfl rfl ?_
  refine s_iload 44 dX12_feed_42 rfl rfl ?_
  refine s_V1v 47 dX12_feed_44 rfl km_X12_four ml_X12_66 ds_X12_four (Nat.le_of_ble_eq_true rfl) m_rec rfl (c_four h5 (by rw [up_s]) s4 (by rw [List.length_append, List.length_append, List.length_append, List.length_append, l4, l4, l4, l4]; omega) (fun A5 f5 s5 => ?_))
  refine ⟨rfl, ?_⟩
  have el : (tp ++ fouF a1 ++ fouF a2 ++ fouF a3 ++ fouF a4 ++ fouF a5).length = tp.length + 20 := by
    rw [List.length_append, List.length_append, List.length_append, List.length_append, List.length_append, l4, l4, l4, l4, l4]
  have eo : oFeed (tp, bx, hd, rf, il, ru, tl, s, ps, im) a1 a2 a3 a4 a5 = ((tp.length : Int) + 20, tp ++ fouF a1 ++ fouF a2 ++ fouF a3 ++ fouF a4 ++ fouF a5, bx, hd, rf, il, ru, tl, s, ps, im) := if_neg (by omega)
  rw [eo] at hp
  have fA : frA [1] A A5 := (((f1.trans f2 (by decide)).trans f3 (by decide)).trans f4 (by decide)).trans f5 (by decide)
  rw [up_up, up_up, up_up, up_up]
  refine s_aload_n 48 dX12_feed_47 rfl rfl ?_
  refine m_getI 51 2 dX12_feed_48 rfl fl_X12_63 (by decide) rfl (fun hr48 => ?_)
  refine s_ireturn rfl dX12_feed_51 ?_
  rw [up_s, el]
  have := hp (up (up I 0 0) 2 (((tp ++ fouF a1 ++ fouF a2 ++ fouF a3 ++ fouF a4 ++ fouF a5).length : Nat) : Int)) A5 (hm.tb ((frI.rf.up (by decide)).up (by decide)) (fA.wk (by decide)) (by rw [up_s]) s5 (by rw [up_n (by decide), up_n (by decide)]; exact hm.2.1.1) (by rw [fA 7 (by decide)]; exact hm.2.1.2))
  rw [el] at this
  exact_mod_cast this
end M22
