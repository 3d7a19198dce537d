section M7
variable {G : GT} {m0 n u : Nat} {F : HS} {d : Nat} {I : Nat → Int} {A : Nat → Int → Int} {D : Int64} {post : Option Value → MT → Prop} {ru : RU}
theorem RepT.snoc {g : Int → Int} {ts : List (List Int × Int)} {w : List Int × Int} (h : RepT g ts) (h1 : g (1100 + 122 * (ts.length : Int)) = w.1.length) (h2 : g (1100 + 122 * (ts.length : Int) + 1) = w.2) (h3 : sg g (1100 + 122 * (ts.length : Int) + 2) w.1) : RepT g (ts ++ [w]) := fun k hk => by
  rw [List.length_append, List.length_singleton] at hk
  by_cases e : k = ts.length
  · subst e
    rw [show (ts ++ [w]).getD ts.length ([], 0) = w by rw [List.getD_eq_getElem?_getD, List.getElem?_append_right (Nat.le_refl _)]; simp]
    exact ⟨h1, h2, h3⟩
  · rw [show (ts ++ [w]).getD k ([], 0) = ts.getD k ([], 0) by rw [List.getD_eq_getElem?_getD, List.getD_eq_getElem?_getD, List.getElem?_append_left (by omega)]]
    exact h k (by omega)
theorem c_ends {c : Nat} {y : CH} {b : Int} (hc : c < 4) (hx : RepCh (atc (A 3) c) y) (hw : WfCh b y) (hb : b ≤ 100000000) (hp : ∀ A', frA [3] A A' → frP c (A 3) (A' 3) → RepCh (atc (A' 3) c) (endF y).2 → post (some (vi (endF y).1)) (I, A', D)) : Cm G (AM G m0 F n u) yX12_ends cX12_ends 4 (some .int) (d + 3) [.ref m0, vi c] (I, A, D) post := by
  refine Cm_intro (L := [some (.ref m0), some (vi c), none, none]) (by decide +kernel) (Nat.le_of_ble_eq_true rfl) rfl ?_
  obtain ⟨⟨a0, a1, a2, a3, a4, a5, a6, a7, a8, a9, a10, a11⟩, hW, hS, hT⟩ := id hx
  obtain ⟨w0, w1, w2, w3, w4, w5, w6, w7, w8, w9, w10, w11, w12, w13, w14⟩ := id hw
  refine s_aload_n 1 dX12_ends_0 rfl rfl ?_
  refine s_iload_n 2 dX12_ends_1 rfl rfl ?_
  refine s_bipush 4 dX12_ends_2 rfl (k := ?_)
  refine s_V2i 7 dX12_ends_4 rfl km_X12_its ml_X12_286 ds_X12_its (Nat.le_of_ble_eq_true rfl) m_rec rfl (c_itsP (by decide) hc (fun hr => ?_))
  refine ⟨_, rfl, ?_⟩
  refine s_bipush 9 dX12_ends_7 rfl (k := ?_)
  rw [a7]
  refine s_icmp_ne 12 20 dX12_ends_9 rfl rfl (fun h => ?_) (fun h => ?_)
  rotate_left
  · rw [show endF y = (6, tearF y) from if_pos (by omega)] at hp
    refine s_aload_n 13 dX12_ends_12 rfl rfl ?_
    refine s_iload_n 14 dX12_ends_13 rfl rfl ?_
    refine s_V1v 17 dX12_ends_14 rfl km_X12_torn ml_X12_346 ds_X12_torn (Nat.le_of_ble_eq_true rfl) m_rec rfl (c_torn hc hx hw hb (fun A1 p1 p2 p3 => ?_))
    refine ⟨rfl, ?_⟩
    refine s_bipush 19 dX12_ends_17 rfl (k := ?_)
    refine s_ireturn rfl dX12_ends_19 ?_
    exact hp A1 p1 p2 p3
  rw [show endF y = (1, up y.1 6 0, y.2.1, y.2.2.1 ++ [(y.2.2.2, y.1 6)], []) from if_neg (by omega)] at hp
  generalize hTl : y.2.2.1.length = T at *
  refine s_aload_n 21 dX12_ends_20 rfl rfl ?_
  refine s_iload_n 22 dX12_ends_21 rfl rfl ?_
  refine s_bipush 24 dX12_ends_22 rfl (k := ?_)
  refine s_V2i 27 dX12_ends_24 rfl km_X12_its ml_X12_286 ds_X12_its (Nat.le_of_ble_eq_true rfl) m_rec rfl (c_itsP (by decide) hc (fun hr => ?_))
  refine ⟨_, rfl, ?_⟩
  refine s_S1i 30 dX12_ends_27 rfl km_X12_hereAt rfl ml_X12_349 ds_X12_hereAt (Nat.le_of_ble_eq_true rfl) (c_hereAt ?_)
  refine ⟨_, rfl, ?_⟩
  refine s_istore_n 31 dX12_ends_30 rfl (Nat.le_of_ble_eq_true rfl) rfl ?_
  refine s_aload_n 32 dX12_ends_31 rfl rfl ?_
  refine s_iload_n 33 dX12_ends_32 rfl rfl ?_
  refine s_iload_n 34 dX12_ends_33 rfl rfl ?_
  refine s_aload_n 35 dX12_ends_34 rfl rfl ?_
  refine s_iload_n 36 dX12_ends_35 rfl rfl ?_
  refine s_bipush 38 dX12_ends_36 rfl (k := ?_)
  refine s_V2i 41 dX12_ends_38 rfl km_X12_its ml_X12_286 ds_X12_its (Nat.le_of_ble_eq_true rfl) m_rec rfl (c_itsP (by decide) hc (fun hr2 => ?_))
  refine ⟨_, rfl, ?_⟩
  refine s_V3v 44 dX12_ends_41 rfl km_X12_lay ml_X12_201 ds_X12_lay (Nat.le_of_ble_eq_true rfl) m_rec rfl (c_layP (by rw [a7]; omega) hc hr2 (fun A1 p1 p2 p3 => ?_))
  refine ⟨rfl, ?_⟩
  refine s_aload_n 45 dX12_ends_44 rfl rfl ?_
  refine s_iload_n 46 dX12_ends_45 rfl rfl ?_
  refine s_iload_n 47 dX12_ends_46 rfl rfl ?_
  refine s_iconst 48 dX12_ends_47 rfl ?_
  refine s_iadd 49 dX12_ends_48 rfl ?_
  refine s_aload_n 50 dX12_ends_49 rfl rfl ?_
  refine s_iload_n 51 dX12_ends_50 rfl rfl ?_
  refine s_bipush 53 dX12_ends_51 rfl (k := ?_)
  refine s_V2i 56 dX12_ends_53 rfl km_X12_its ml_X12_286 ds_X12_its (Nat.le_of_ble_eq_true rfl) m_rec rfl (c_itsP (by decide) hc (fun hr3 => ?_))
  refine ⟨_, rfl, ?_⟩
  refine s_V3v 59 dX12_ends_56 rfl km_X12_lay ml_X12_201 ds_X12_lay (Nat.le_of_ble_eq_true rfl) m_rec rfl (c_layP (by rw [a7]; omega) hc hr3 (fun A2 q1 q2 q3 => ?_))
  refine ⟨rfl, ?_⟩
  refine s_iconst 60 dX12_ends_59 rfl ?_
  refine s_istore_n 61 dX12_ends_60 rfl (Nat.le_of_ble_eq_true rfl) rfl ?_
  rw [a7, a9] at p3
  have e8 : atc (A1 3) c 8 = y.1 6 := by rw [p3, up_n (by omega)]; exact a8
  rw [a7, e8, p3] at q3
  rw [a7]
  have key : ∀ (k j : Nat) (A' : Nat → Int → Int), j + k = y.2.2.2.length → frA [3] A A' → frP c (A 3) (A' 3) → (∀ i, (i < 1100 + 122 * (T : Int) + 2 ∨ 1100 + 122 * (T : Int) + 2 + (j : Int) ≤ i) → atc (A' 3) c i = atc (A2 3) c i) → sg (atc (A' 3) c) (1100 + 122 * (T : Int) + 2) (y.2.2.2.take j) → V G (AM G m0 F n u) yX12_ends cX12_ends 4 (some .int) (d + 3) (I, A', D) 61 [some (.ref m0), some (vi c), some (vi (1100 + 122 * (T : Int))), some (vi j)] [] post := by
    intro k
    induction k with
    | zero =>
      intro j A' hj f1 f2 f3 f4
      have f9 : atc (A' 3) c 9 = y.2.2.2.length := by rw [f3 9 (by omega), q3, up_n (by omega), up_n (by omega)]; exact a9
      have f7 : atc (A' 3) c 7 = T := by rw [f3 7 (by omega), q3, up_n (by omega), up_n (by omega)]; exact a7
      refine s_iload_n 62 dX12_ends_61 rfl rfl ?_
      refine s_aload_n 63 dX12_ends_62 rfl rfl ?_
      refine s_iload_n 64 dX12_ends_63 rfl rfl ?_
      refine s_bipush 66 dX12_ends_64 rfl (k := ?_)
      refine s_V2i 69 dX12_ends_66 rfl km_X12_its ml_X12_286 ds_X12_its (Nat.le_of_ble_eq_true rfl) m_rec rfl (c_itsP (by decide) hc (fun hr => ?_))
      refine ⟨_, rfl, ?_⟩
      refine s_icmp_ge 72 98 dX12_ends_69 rfl rfl (fun g => ?_) (fun g => ?_)
      rotate_left
      · omega
      refine s_aload_n 99 dX12_ends_98 rfl rfl ?_
      refine s_iload_n 100 dX12_ends_99 rfl rfl ?_
      refine s_bipush 102 dX12_ends_100 rfl (k := ?_)
      refine s_iconst 103 dX12_ends_102 rfl ?_
      refine s_V3v 106 dX12_ends_103 rfl km_X12_more ml_X12_295 ds_X12_more (Nat.le_of_ble_eq_true rfl) m_rec rfl (c_moreP (by decide) hc (by omega) (fun B1 r1 r2 r3 => ?_))
      refine ⟨rfl, ?_⟩
      refine s_aload_n 107 dX12_ends_106 rfl rfl ?_
      refine s_iload_n 108 dX12_ends_107 rfl rfl ?_
      refine s_bipush 110 dX12_ends_108 rfl (k := ?_)
      refine s_iconst 111 dX12_ends_110 rfl ?_
      refine s_V3v 114 dX12_ends_111 rfl km_X12_lay ml_X12_201 ds_X12_lay (Nat.le_of_ble_eq_true rfl) m_rec rfl (c_layP (by decide) hc (by decide) (fun B2 s1 s2 s3 => ?_))
      refine ⟨rfl, ?_⟩
      refine s_aload_n 115 dX12_ends_114 rfl rfl ?_
      refine s_iload_n 116 dX12_ends_115 rfl rfl ?_
      refine s_bipush 118 dX12_ends_116 rfl (k := ?_)
      refine s_iconst 119 dX12_ends_118 rfl ?_
      refine s_V3v 122 dX12_ends_119 rfl km_X12_lay ml_X12_201 ds_X12_lay (Nat.le_of_ble_eq_true rfl) m_rec rfl (c_layP (by decide) hc (by decide) (fun B3 t1 t2 t3 => ?_))
      refine ⟨rfl, ?_⟩
      refine s_aload_n 123 dX12_ends_122 rfl rfl ?_
      refine s_iload_n 124 dX12_ends_123 rfl rfl ?_
      refine s_bipush 126 dX12_ends_124 rfl (k := ?_)
      refine s_iconst 127 dX12_ends_126 rfl ?_
      refine s_V3v 130 dX12_ends_127 rfl km_X12_lay ml_X12_201 ds_X12_lay (Nat.le_of_ble_eq_true rfl) m_rec rfl (c_layP (by decide) hc (by decide) (fun B4 u1 u2 u3 => ?_))
      refine ⟨rfl, ?_⟩
      refine s_iconst 131 dX12_ends_130 rfl ?_
      refine s_ireturn rfl dX12_ends_131 ?_
      rw [t3, s3, r3, f7] at u3
      refine hp B4 ((((f1.trans r1 (fun _ h => h)).trans s1 (fun _ h => h)).trans t1 (fun _ h => h)).trans u1 (fun _ h => h)) ((((f2.trans r2).trans s2).trans t2).trans u2) ?_
      have hi : ∀ i, 12 ≤ i → atc (B4 3) c i = atc (A' 3) c i := fun i hi => by rw [u3, up_n (by omega), up_n (by omega), up_n (by omega), up_n (by omega)]
      have hlow : ∀ i, i < 12 → atc (A' 3) c i = atc (A 3) c i := fun i hi => by rw [f3 i (by omega), q3, up_n (by omega), up_n (by omega)]
      have hj2 : j = y.2.2.2.length := by omega
      subst hj2
      rw [List.take_length] at f4
      refine ⟨⟨?_, ?_, ?_, ?_, ?_, ?_, ?_, ?_, ?_, ?_, ?_, ?_⟩, ?_, sg_nil _ _, ?_⟩
      · rw [u3]; exact (hlow 0 (by omega)).trans a0
      · rw [u3]; exact (hlow 1 (by omega)).trans a1
      · rw [u3]; exact (hlow 2 (by omega)).trans a2
      · rw [u3]; exact (hlow 3 (by omega)).trans a3
      · rw [u3]; exact (hlow 4 (by omega)).trans a4
      · rw [u3]; exact (hlow 5 (by omega)).trans a5
      · rw [u3]; exact (hlow 6 (by omega)).trans a6
      · rw [u3]; show (T : Int) + 1 = ((y.2.2.1 ++ [(y.2.2.2, y.1 6)]).length : Nat); rw [List.length_append, List.length_singleton, hTl]; omega
      · rw [u3]; rfl
      · rw [u3]; rfl
      · rw [u3]; exact (hlow 10 (by omega)).trans a10
      · rw [u3]; rfl
      · exact hW.congr w8 w9 fun i h1 h2 => by rw [hi i h1, f3 i (by omega), q3, up_n (by omega), up_n (by omega)]
      · have hT2 : RepT (atc (B4 3) c) y.2.2.1 := fun k2 hk2 => by
          obtain ⟨h1, h2, h3⟩ := hT k2 hk2
          have h4 := (w11 _ (getD_mem (x := ([], 0)) hk2)).1
          have ag : ∀ i, 1100 ≤ i → i < 1100 + 122 * (T : Int) → atc (B4 3) c i = atc (A 3) c i := fun i h1 h2 => by rw [hi i (by omega), f3 i (by omega), q3, up_n (by omega), up_n (by omega)]
          exact ⟨by rw [ag _ (by omega) (by omega)]; exact h1, by rw [ag _ (by omega) (by omega)]; exact h2, sg_congr h3 fun i x1 x2 => ag i (by omega) (by omega)⟩
        refine hT2.snoc ?_ ?_ ?_
        · rw [hTl, hi _ (by omega), f3 _ (by omega), q3, up_n (by omega), up_s]
        · rw [hTl, hi _ (by omega), f3 _ (by omega), q3, up_s]
        · rw [hTl]
          exact sg_congr f4 fun i x1 x2 => hi i (by omega)
    | succ k ih =>
      intro j A' hj f1 f2 f3 f4
      have f9 : atc (A' 3) c 9 = y.2.2.2.length := by rw [f3 9 (by omega), q3, up_n (by omega), up_n (by omega)]; exact a9
      have fv : atc (A' 3) c (980 + (j : Int)) = y.2.2.2.getD j 0 := by rw [f3 _ (by omega), q3, up_n (by omega), up_n (by omega)]; exact hS j (by omega)
      refine s_iload_n 62 dX12_ends_61 rfl rfl ?_
      refine s_aload_n 63 dX12_ends_62 rfl rfl ?_
      refine s_iload_n 64 dX12_ends_63 rfl rfl ?_
      refine s_bipush 66 dX12_ends_64 rfl (k := ?_)
      refine s_V2i 69 dX12_ends_66 rfl km_X12_its ml_X12_286 ds_X12_its (Nat.le_of_ble_eq_true rfl) m_rec rfl (c_itsP (by decide) hc (fun hr => ?_))
      refine ⟨_, rfl, ?_⟩
      refine s_icmp_ge 72 98 dX12_ends_69 rfl rfl (fun g => ?_) (fun g => ?_)
      · omega
      refine s_aload_n 73 dX12_ends_72 rfl rfl ?_
      refine s_iload_n 74 dX12_ends_73 rfl rfl ?_
      refine s_iload_n 75 dX12_ends_74 rfl rfl ?_
      refine s_iconst 76 dX12_ends_75 rfl ?_
      refine s_iadd 77 dX12_ends_76 rfl ?_
      refine s_iload_n 78 dX12_ends_77 rfl rfl ?_
      refine s_iadd 79 dX12_ends_78 rfl ?_
      refine s_aload_n 80 dX12_ends_79 rfl rfl ?_
      refine s_iload_n 81 dX12_ends_80 rfl rfl ?_
      refine s_sipush 84 dX12_ends_81 rfl (k := ?_)
      refine s_iload_n 85 dX12_ends_84 rfl rfl ?_
      refine s_iadd 86 dX12_ends_85 rfl ?_
      refine s_V2i 89 dX12_ends_86 rfl km_X12_its ml_X12_286 ds_X12_its (Nat.le_of_ble_eq_true rfl) m_rec rfl (c_itsP (by omega) hc (fun hr => ?_))
      refine ⟨_, rfl, ?_⟩
      refine s_V3v 92 dX12_ends_89 rfl km_X12_lay ml_X12_201 ds_X12_lay (Nat.le_of_ble_eq_true rfl) m_rec rfl (c_layP (by omega) hc hr (fun B1 r1 r2 r3 => ?_))
      refine ⟨rfl, ?_⟩
      refine s_iinc 95 dX12_ends_92 rfl rfl (Nat.le_of_ble_eq_true rfl) rfl ?_
      refine s_goto 61 dX12_ends_95 rfl ?_
      have et : y.2.2.2.take (j + 1) = y.2.2.2.take j ++ [y.2.2.2.getD j 0] := by
        have := take_snoc (bs := y.2.2.2) (p := 0) (r := j) (by omega)
        rw [List.drop_zero, Nat.zero_add] at this
        exact this
      refine ih (j + 1) B1 (by omega) (f1.trans r1 (fun _ h => h)) (f2.trans r2) (fun i hi => ?_) ?_
      · rw [r3, up_n (by omega)]
        exact f3 i (by omega)
      · rw [r3, et, fv]
        exact sg_snoc' f4 (by rw [List.length_take_of_le (by omega)])
  exact key y.2.2.2.length 0 A2 (by omega) (p1.trans q1 (fun _ h => h)) (p2.trans q2) (fun _ _ => rfl) (by rw [List.take_zero]; exact sg_nil _ _)
end M7
