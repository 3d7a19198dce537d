section M12
variable {G : GT} {m0 n u : Nat} {F : HS} {d : Nat} {I : Nat → Int} {A : Nat → Int → Int} {D : Int64} {post : Option Value → MT → Prop} {ru : RU}
theorem fold_1 (ru : RU) : ∀ (l : List Int) (s : ST), (l.foldl (byteF ru) s).1 = s.1 := by
  intro l
  induction l with
  | nil => intro s; rfl
  | cons x l ih => intro s; exact (ih _).trans (byteF_1 ru s x)
theorem fold_wf {b : Int} {ch : Nat} {ru : RU} (hwr : WfRu ru) (hch : ch = (ru 5).toNat) : ∀ (l : List Int) (s : ST) (b : Int), byt l → WfSt b ch s → WfSt (b + 20 * l.length) ch (l.foldl (byteF ru) s) := by
  intro l
  induction l with
  | nil => intro s b _ h; exact h.mono (by simp)
  | cons x l ih =>
    intro s b hl h
    have h1 := ih (byteF ru s x) (b + 20) (byt_cons.mp hl).2 (byteF_wf h hwr hch (byt_cons.mp hl).1)
    exact h1.mono (by rw [List.length_cons]; omega)
theorem readF_wf {b : Int} {ch : Nat} {s : ST} {ru : RU} {k : Nat} (hw : WfSt b ch s) (hwr : WfRu ru) (hch : ch = (ru 5).toNat) : WfSt (b + 12000) ch (readF ru s k) := by
  have h := fold_wf (b := b) hwr hch (s.1.take k) s b (byt_take hw.2.1 k) hw
  have h2 := h.mono (b' := b + 12000) (by have := hw.1; rw [List.length_take]; omega)
  obtain ⟨w0, w1, w2, w3, w4, w5, w6, w7, w8, w9, w10⟩ := h2
  refine ⟨?_, byt_drop hw.2.1 k, w2, w3, w4, w5, w6, w7, w8, w9, w10⟩
  show (s.1.drop k).length ≤ 600
  rw [List.length_drop]
  have := hw.1
  omega
theorem c_readsBytes {s : ST} {b : Int} {ch k0 : Nat} (hch : ch = (ru 5).toNat) (hs : RepSt ch (A 3) s) (hw : WfSt b ch s) (hb : b ≤ 98000000) (hru : RuM I ru) (hwr : WfRu ru) (hk : k0 ≤ s.1.length) (hp : ∀ I' A', frI [26, 28] I I' → frA [3, 5, 6] A A' → RepSt ch (A' 3) (readF ru s k0) → post none (I', A', D)) : Cm G (AM G m0 F n u) yX12_readsBytes cX12_readsBytes 3 none (d + 7) [.ref m0, vi k0] (I, A, D) post := by
  refine Cm_intro (L := [some (.ref m0), some (vi k0), none]) (by decide +kernel) (Nat.le_of_ble_eq_true rfl) rfl ?_
  have hw0 := hw.1
  refine s_iconst 1 dX12_readsBytes_0 rfl ?_
  refine s_istore_n 2 dX12_readsBytes_1 rfl (Nat.le_of_ble_eq_true rfl) rfl ?_
  have shift : ∀ (m j : Nat) (I1 : Nat → Int) (A1 A' : Nat → Int → Int) (s1 : ST) (b1 : Int), s1.1 = s.1 → readF ru s k0 = (s.1.drop k0, s1.2) → RepSt ch (A1 3) s1 → WfSt b1 ch s1 → frI [26, 28] I I1 → frA [3, 5, 6] A A' → j + m = s.1.length → k0 ≤ j → (∀ i, i < 1 ∨ 1 + (j : Int) - k0 ≤ i → A' 3 i = A1 3 i) → (∀ i, 1 ≤ i → i < 1 + (j : Int) - k0 → A' 3 i = A1 3 (i + k0)) → V G (AM G m0 F n u) yX12_readsBytes cX12_readsBytes 3 none (d + 7) (I1, A', D) 27 [some (.ref m0), some (vi k0), some (vi j)] [] post := by
    intro m
    induction m with
    | zero =>
      intro j I1 A1 A' s1 b1 z1 z2 z3 z4 z5 z6 z7 z8 z9 z10
      have f0 : A' 3 0 = s.1.length := by rw [z9 0 (by omega), z3.1, z1]
      refine s_iload_n 28 dX12_readsBytes_27 rfl rfl ?_
      refine s_aload_n 29 dX12_readsBytes_28 rfl rfl ?_
      refine m_getV (k := 16) 32 dX12_readsBytes_29 rfl fl_X12_16 (by decide) rfl ?_
      refine s_iconst 33 dX12_readsBytes_32 rfl ?_
      refine m_ald 34 3 9309 dX12_readsBytes_33 rfl (by decide) rfl (fun hr33 => ?_)
      refine s_icmp_ge 37 61 dX12_readsBytes_34 rfl rfl (fun g => ?_) (fun g => ?_)
      rotate_left
      · omega
      refine s_aload_n 62 dX12_readsBytes_61 rfl rfl ?_
      refine m_getV (k := 16) 65 dX12_readsBytes_62 rfl fl_X12_16 (by decide) rfl ?_
      refine s_iconst 66 dX12_readsBytes_65 rfl ?_
      refine s_dup2 (q := 67) (hd := dX12_readsBytes_66) (hq := rfl) (k := ?_)
      refine m_ald 68 3 9309 dX12_readsBytes_67 rfl (by decide) rfl (fun hr67 => ?_)
      refine s_iload_n 69 dX12_readsBytes_68 rfl rfl ?_
      refine s_isub 70 dX12_readsBytes_69 rfl ?_
      refine m_ast 71 3 9309 dX12_readsBytes_70 rfl (by decide) rfl ?_
      refine s_return rfl dX12_readsBytes_71 ?_
      rw [f0]
      refine hp _ _ z5 (z6.up (by decide)) ?_
      rw [z2, up_s]
      obtain ⟨a0, a1, a2, a3, a4, a5, a6, a7, a8⟩ := z3
      obtain ⟨w0, w1, w2, w3, w4, w5, w6, w7, w8, w9, w10⟩ := z4
      have ag : ∀ i, 600 < i → up (A' 3) 0 ((s.1.length : Int) - k0) i = A1 3 i := fun i hi => by rw [up_n (by omega)]; exact z9 i (by omega)
      refine ⟨?_, ?_, by rw [ag _ (by omega)]; exact a2, by rw [ag _ (by omega)]; exact a3, show sg _ 603 s1.2.1 from sg_congr a4 fun i y1 y2 => ag i (by omega), by rw [ag _ (by omega)]; exact a5, by rw [ag _ (by omega)]; exact a6, fun i hi => ?_, fun c2 hc2 => (a8 c2 hc2).congr (w10 c2 hc2) fun i y1 y2 => ag _ (by omega)⟩
      · rw [up_s]
        show _ = ((s.1.drop k0).length : Int)
        rw [List.length_drop]
        omega
      · show sg _ 1 (s.1.drop k0)
        rw [z1] at a1
        have h1 := sg_drop a1 hk
        intro i hi
        rw [← h1 i hi, up_n (by omega)]
        rw [List.length_drop] at hi
        rw [z10 _ (by omega) (by omega)]
        congr 1 <;> omega
      · have hi : i < s1.2.2.2.1.length := hi
        show sg _ (805 + 5 * (i : Int)) (s1.2.2.2.1.getD i [])
        exact sg_congr (a7 i hi) fun i y1 y2 => ag i (by omega)
    | succ m ih =>
      intro j I1 A1 A' s1 b1 z1 z2 z3 z4 z5 z6 z7 z8 z9 z10
      have f0 : A' 3 0 = s.1.length := by rw [z9 0 (by omega), z3.1, z1]
      refine s_iload_n 28 dX12_readsBytes_27 rfl rfl ?_
      refine s_aload_n 29 dX12_readsBytes_28 rfl rfl ?_
      refine m_getV (k := 16) 32 dX12_readsBytes_29 rfl fl_X12_16 (by decide) rfl ?_
      refine s_iconst 33 dX12_readsBytes_32 rfl ?_
      refine m_ald 34 3 9309 dX12_readsBytes_33 rfl (by decide) rfl (fun hr33 => ?_)
      refine s_icmp_ge 37 61 dX12_readsBytes_34 rfl rfl (fun g => ?_) (fun g => ?_)
      · omega
      refine s_aload_n 38 dX12_readsBytes_37 rfl rfl ?_
      refine m_getV (k := 16) 41 dX12_readsBytes_38 rfl fl_X12_16 (by decide) rfl ?_
      refine s_iconst 42 dX12_readsBytes_41 rfl ?_
      refine s_iload_n 43 dX12_readsBytes_42 rfl rfl ?_
      refine s_iadd 44 dX12_readsBytes_43 rfl ?_
      refine s_iload_n 45 dX12_readsBytes_44 rfl rfl ?_
      refine s_isub 46 dX12_readsBytes_45 rfl ?_
      refine s_aload_n 47 dX12_readsBytes_46 rfl rfl ?_
      refine m_getV (k := 16) 50 dX12_readsBytes_47 rfl fl_X12_16 (by decide) rfl ?_
      refine s_iconst 51 dX12_readsBytes_50 rfl ?_
      refine s_iload_n 52 dX12_readsBytes_51 rfl rfl ?_
      refine s_iadd 53 dX12_readsBytes_52 rfl ?_
      refine m_ald 54 3 9309 dX12_readsBytes_53 rfl (by decide) rfl (fun hr53 => ?_)
      refine m_ast 55 3 9309 dX12_readsBytes_54 rfl (by decide) rfl ?_
      refine s_iinc 58 dX12_readsBytes_55 rfl rfl (Nat.le_of_ble_eq_true rfl) rfl ?_
      refine s_goto 27 dX12_readsBytes_58 rfl ?_
      refine ih (j + 1) I1 A1 _ s1 b1 z1 z2 z3 z4 z5 (z6.up (by decide)) (by omega) (by omega) (fun i hi => ?_) (fun i h1 h2 => ?_)
      · rw [up_s, up_n (by omega)]
        exact z9 i (by omega)
      · rw [up_s]
        by_cases e : i = 1 + (j : Int) - k0
        · subst e
          rw [up_s, z9 _ (by omega)]
          congr 1 <;> omega
        · rw [up_n e]
          exact z10 i h1 (by omega)
  have key : ∀ (m j : Nat) (I' : Nat → Int) (A' : Nat → Int → Int), j + m = k0 → frI [26, 28] I I' → frA [3, 5, 6] A A' → RepSt ch (A' 3) ((s.1.take j).foldl (byteF ru) s) → V G (AM G m0 F n u) yX12_readsBytes cX12_readsBytes 3 none (d + 7) (I', A', D) 2 [some (.ref m0), some (vi k0), some (vi j)] [] post := by
    intro m
    induction m with
    | zero =>
      intro j I' A' hj f1 f2 f3
      obtain rfl : j = k0 := by omega
      have hwj := fold_wf (b := b) hwr hch (s.1.take j) s b (byt_take hw.2.1 j) hw
      refine s_iload_n 3 dX12_readsBytes_2 rfl rfl ?_
      refine s_iload_n 4 dX12_readsBytes_3 rfl rfl ?_
      refine s_icmp_ge 7 25 dX12_readsBytes_4 rfl rfl (fun g => ?_) (fun g => ?_)
      rotate_left
      · omega
      refine s_iload_n 26 dX12_readsBytes_25 rfl rfl ?_
      refine s_istore_n 27 dX12_readsBytes_26 rfl (Nat.le_of_ble_eq_true rfl) rfl ?_
      exact shift (s.1.length - j) j I' A' A' _ _ (fold_1 ru _ s) rfl f3 hwj f1 f2 (by omega) (Nat.le_refl _) (fun _ _ => rfl) (fun i h1 h2 => by omega)
    | succ m ih =>
      intro j I' A' hj f1 f2 f3
      have hwj := fold_wf (b := b) hwr hch (s.1.take j) s b (byt_take hw.2.1 j) hw
      rw [List.length_take_of_le (by omega)] at hwj
      have hv := byt_at hw.2.1 j
      have ev : A' 3 (1 + (j : Int)) = s.1.getD j 0 := by
        have := f3.2.1
        rw [fold_1] at this
        exact this j (by omega)
      refine s_iload_n 3 dX12_readsBytes_2 rfl rfl ?_
      refine s_iload_n 4 dX12_readsBytes_3 rfl rfl ?_
      refine s_icmp_ge 7 25 dX12_readsBytes_4 rfl rfl (fun g => ?_) (fun g => ?_)
      · omega
      refine s_aload_n 8 dX12_readsBytes_7 rfl rfl ?_
      refine s_aload_n 9 dX12_readsBytes_8 rfl rfl ?_
      refine m_getV (k := 16) 12 dX12_readsBytes_9 rfl fl_X12_16 (by decide) rfl ?_
      refine s_iconst 13 dX12_readsBytes_12 rfl ?_
      refine s_iload_n 14 dX12_readsBytes_13 rfl rfl ?_
      refine s_iadd 15 dX12_readsBytes_14 rfl ?_
      refine m_ald 16 3 9309 dX12_readsBytes_15 rfl (by decide) rfl (fun hr15 => ?_)
      rw [ev]
      refine s_V1v 19 dX12_readsBytes_16 rfl km_X12_readsByte ml_X12_371 ds_X12_readsByte (Nat.le_of_ble_eq_true rfl) m_rec rfl (c_readsByte hch f3 hwj (by omega) (hru.fr f1 (by decide)) hwr hv (fun I2 A2 k1 k2 k3 => ?_))
      refine ⟨rfl, ?_⟩
      refine s_iinc 22 dX12_readsBytes_19 rfl rfl (Nat.le_of_ble_eq_true rfl) rfl ?_
      refine s_goto 2 dX12_readsBytes_22 rfl ?_
      refine ih (j + 1) I2 A2 (by omega) (f1.trans k1 (fun _ h => h)) (f2.trans k2 (fun _ h => h)) ?_
      have et : s.1.take (j + 1) = s.1.take j ++ [s.1.getD j 0] := by
        have := take_snoc (bs := s.1) (p := 0) (r := j) (by omega)
        rw [List.drop_zero, Nat.zero_add] at this
        exact this
      rw [et, List.foldl_append]
      exact k3
  exact key k0 0 I A (by omega) frI.rf frA.rf (by rw [List.take_zero]; exact hs)
end M12
