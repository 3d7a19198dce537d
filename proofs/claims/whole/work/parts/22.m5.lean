section M5
variable {G : GT} {m0 n u : Nat} {F : HS} {d : Nat} {I : Nat → Int} {A : Nat → Int → Int} {D : Int64} {post : Option Value → MT → Prop}
theorem RepCh.hdr {g g' : Int → Int} {b : Int} {c : CH} (h : RepCh g c) (hw : WfCh b c) (he : ∀ k, 12 ≤ k → k < 2076 → g' k = g k) {i : Nat → Int} (hH : RepH g' (i, c.2)) : RepCh g' (i, c.2) := by
  obtain ⟨w0, w1, w2, w3, w4, w5, w6, w7, w8, w9, w10, w11, w12, w13, w14⟩ := hw
  exact ⟨hH, h.2.1.congr w8 w9 fun k x y => he k (by omega) (by omega), show sg g' 980 c.2.2.2 from sg_congr h.2.2.1 fun k x y => he k (by omega) (by omega), h.2.2.2.congr w10 w11 fun k x y => he k (by omega) (by omega)⟩
theorem RepCh.hdr0 {g g' : Int → Int} {b : Int} {c : CH} (h : RepCh g c) (hw : WfCh b c) (he : ∀ k, 12 ≤ k → k < 2076 → g' k = g k) {i : Nat → Int} (hH : RepH g' (i, c.2.1, c.2.2.1, [])) : RepCh g' (i, c.2.1, c.2.2.1, []) := by
  obtain ⟨w0, w1, w2, w3, w4, w5, w6, w7, w8, w9, w10, w11, w12, w13, w14⟩ := hw
  exact ⟨hH, h.2.1.congr w8 w9 fun k x y => he k (by omega) (by omega), sg_nil _ _, h.2.2.2.congr w10 w11 fun k x y => he k (by omega) (by omega)⟩
theorem c_itsP {c : Nat} {w : Int} (hw : 0 ≤ w ∧ w < 2076) (hc : c < 4) (hp : rg (atc (A 3) c w) → post (some (vi (atc (A 3) c w))) (I, A, D)) : Cm G (AM G m0 F n u) yX12_its cX12_its 3 (some .int) (d + 1) [.ref m0, vi c, vi w] (I, A, D) post := c_its (by omega) hp
theorem c_layP {c : Nat} {w v : Int} (hw : 0 ≤ w ∧ w < 2076) (hc : c < 4) (hv : rg v) (hp : ∀ A', frA [3] A A' → frP c (A 3) (A' 3) → atc (A' 3) c = up (atc (A 3) c) w v → post none (I, A', D)) : Cm G (AM G m0 F n u) yX12_lay cX12_lay 4 none (d + 1) [.ref m0, vi c, vi w, vi v] (I, A, D) post := c_lay (by omega) hv (hp _ (frA.rf.up (by decide)) (by rw [up_s]; exact frP.rf.up hw) (by rw [up_s]; exact atc_up))
theorem c_moreP {c : Nat} {w v : Int} (hw : 0 ≤ w ∧ w < 2076) (hc : c < 4) (hv : rg (atc (A 3) c w + v)) (hp : ∀ A', frA [3] A A' → frP c (A 3) (A' 3) → atc (A' 3) c = up (atc (A 3) c) w (atc (A 3) c w + v) → post none (I, A', D)) : Cm G (AM G m0 F n u) yX12_more cX12_more 4 none (d + 1) [.ref m0, vi c, vi w, vi v] (I, A, D) post := c_more (by omega) hv (hp _ (frA.rf.up (by decide)) (by rw [up_s]; exact frP.rf.up hw) (by rw [up_s]; exact atc_up))
theorem c_torn {c : Nat} {x : CH} {b : Int} (hc : c < 4) (hx : RepCh (atc (A 3) c) x) (hw : WfCh b x) (hb : b ≤ 100000000) (hp : ∀ A', frA [3] A A' → frP c (A 3) (A' 3) → RepCh (atc (A' 3) c) (tearF x) → post none (I, A', D)) : Cm G (AM G m0 F n u) yX12_torn cX12_torn 2 none (d + 2) [.ref m0, vi c] (I, A, D) post := by
  refine Cm_intro (L := [some (.ref m0), some (vi c)]) (by decide +kernel) (Nat.le_of_ble_eq_true rfl) rfl ?_
  obtain ⟨⟨a0, a1, a2, a3, a4, a5, a6, a7, a8, a9, a10, a11⟩, hW, hS, hT⟩ := id hx
  obtain ⟨w0, w1, w2, w3, w4, w5, w6, w7, w8, w9, w10, w11, w12, w13, w14⟩ := id hw
  have rest : ∀ v : Int, v = (if 0 < x.1 6 then 1 else 0) → V G (AM G m0 F n u) yX12_torn cX12_torn 2 none (d + 2) (I, A, D) 19 [some (.ref m0), some (vi c)] [vi v, vi 6, vi c, .ref m0] post := by
    intro v hv
    have hv9 : 0 ≤ v ∧ v ≤ 1 := by split at hv <;> omega
    refine s_V3v 22 dX12_torn_19 rfl km_X12_more ml_X12_295 ds_X12_more (Nat.le_of_ble_eq_true rfl) m_rec rfl (c_moreP (by decide) hc (by omega) (fun A1 p1 p2 p3 => ?_))
    refine ⟨rfl, ?_⟩
    refine s_aload_n 23 dX12_torn_22 rfl rfl ?_
    refine s_iload_n 24 dX12_torn_23 rfl rfl ?_
    refine s_bipush 26 dX12_torn_24 rfl (k := ?_)
    refine s_iconst 27 dX12_torn_26 rfl ?_
    refine s_V3v 30 dX12_torn_27 rfl km_X12_lay ml_X12_201 ds_X12_lay (Nat.le_of_ble_eq_true rfl) m_rec rfl (c_layP (by decide) hc (by decide) (fun A2 q1 q2 q3 => ?_))
    refine ⟨rfl, ?_⟩
    refine s_aload_n 31 dX12_torn_30 rfl rfl ?_
    refine s_iload_n 32 dX12_torn_31 rfl rfl ?_
    refine s_bipush 34 dX12_torn_32 rfl (k := ?_)
    refine s_iconst 35 dX12_torn_34 rfl ?_
    refine s_V3v 38 dX12_torn_35 rfl km_X12_lay ml_X12_201 ds_X12_lay (Nat.le_of_ble_eq_true rfl) m_rec rfl (c_layP (by decide) hc (by decide) (fun A3 r1 r2 r3 => ?_))
    refine ⟨rfl, ?_⟩
    refine s_aload_n 39 dX12_torn_38 rfl rfl ?_
    refine s_iload_n 40 dX12_torn_39 rfl rfl ?_
    refine s_bipush 42 dX12_torn_40 rfl (k := ?_)
    refine s_iconst 43 dX12_torn_42 rfl ?_
    refine s_V3v 46 dX12_torn_43 rfl km_X12_lay ml_X12_201 ds_X12_lay (Nat.le_of_ble_eq_true rfl) m_rec rfl (c_layP (by decide) hc (by decide) (fun A4 s1 s2 s3 => ?_))
    refine ⟨rfl, ?_⟩
    refine s_return rfl dX12_torn_46 ?_
    rw [r3, q3, p3, a6, hv] at s3
    refine hp A4 (((p1.trans q1 (fun _ h => h)).trans r1 (fun _ h => h)).trans s1 (fun _ h => h)) (((p2.trans q2).trans r2).trans s2) ?_
    refine RepCh.hdr0 hx hw (fun k h1 h2 => ?_) ?_
    · rw [s3, up_n (by omega), up_n (by omega), up_n (by omega), up_n (by omega)]
    · rw [s3]
      exact ⟨a0, a1, a2, a3, a4, a5, rfl, a7, rfl, rfl, a10, rfl⟩
  refine s_aload_n 1 dX12_torn_0 rfl rfl ?_
  refine s_iload_n 2 dX12_torn_1 rfl rfl ?_
  refine s_bipush 4 dX12_torn_2 rfl (k := ?_)
  refine s_aload_n 5 dX12_torn_4 rfl rfl ?_
  refine s_iload_n 6 dX12_torn_5 rfl rfl ?_
  refine s_bipush 8 dX12_torn_6 rfl (k := ?_)
  refine s_V2i 11 dX12_torn_8 rfl km_X12_its ml_X12_286 ds_X12_its (Nat.le_of_ble_eq_true rfl) m_rec rfl (c_itsP (by decide) hc (fun hr => ?_))
  refine ⟨_, rfl, ?_⟩
  refine s_if_le 14 18 dX12_torn_11 rfl rfl (fun h => ?_) (fun h => ?_)
  · refine s_iconst 19 dX12_torn_18 rfl ?_
    exact rest 0 (by rw [if_neg (by omega)])
  · refine s_iconst 15 dX12_torn_14 rfl ?_
    refine s_goto 19 dX12_torn_15 rfl ?_
    exact rest 1 (by rw [if_pos (by omega)])
end M5
