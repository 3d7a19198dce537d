section M8
variable {G : GT} {m0 n u : Nat} {F : HS} {d : Nat} {I : Nat → Int} {A : Nat → Int → Int} {D : Int64} {post : Option Value → MT → Prop} {ru : RU}
/-- a message is begun, whatever is put together -/
def RepB (g : Int → Int) (c : CH) : Prop := g 11 = 1 ∧ ∃ g0, RepCh g0 c ∧ ∀ k, k ≠ 11 → g k = g0 k
theorem partF_len (ru : RU) (pl : List Int) : (partF ru pl).length = pl.length - 1 - ckl (ru 3) := by
  unfold partF
  rw [List.length_take, List.length_drop]
  omega
theorem partF_at {ru : RU} {pl : List Int} {k : Nat} (h : k < pl.length - 1 - ckl (ru 3)) : (partF ru pl).getD k 0 = pl.getD (1 + k) 0 := by
  unfold partF
  rw [List.getD_eq_getElem?_getD, List.getD_eq_getElem?_getD, List.getElem?_take_of_lt h, List.getElem?_drop]
/-- from the adding of the PART on -/
theorem takes_add {c : Nat} {z : CH} {b : Int} {h : Int} {pl : List Int} (hc : c < 4) (hz : RepB (atc (A 3) c) z) (hw : WfCh b z) (hb : b ≤ 99999999) (h26 : I 26 = pl.length) (hpl : sg (A 5) 0 pl) (hby : byt pl) (hN : pl.length ≤ 1300) (h21 : I 21 = ru 3) (hk1 : 1 + ckl (ru 3) ≤ pl.length) (hh : 0 ≤ h ∧ h ≤ 255) (hfr : 120 < z.2.2.2.length + (partF ru pl).length → 0 < z.1 6)
    (hp : ∀ A', frA [3] A A' → frP c (A 3) (A' 3) → RepCh (atc (A' 3) c) (if 120 < z.2.2.2.length + (partF ru pl).length then (5, tearF z) else addF z h (partF ru pl)).2 → post (some (vi (if 120 < z.2.2.2.length + (partF ru pl).length then (5, tearF z) else addF z h (partF ru pl)).1)) (I, A', D)) : V G (AM G m0 F n u) yX12_takesFrame cX12_takesFrame 7 (some .int) (d + 4) (I, A, D) 102 [some (.ref m0), some (vi h), some (vi c), none, none, none, none] [] post := by
  obtain ⟨z11, g0, hg0, hg⟩ := hz
  obtain ⟨⟨a0, a1, a2, a3, a4, a5, a6, a7, a8, a9, a10, a11⟩, hW, hS, hT⟩ := id hg0
  obtain ⟨w0, w1, w2, w3, w4, w5, w6, w7, w8, w9, w10, w11, w12, w13, w14⟩ := id hw
  have hpn := partF_len ru pl
  have hn9 : I 26 - 1 - (ckl (I 21) : Nat) = ((partF ru pl).length : Nat) := by rw [h21, hpn]; omega
  have e9 : atc (A 3) c 9 = z.2.2.2.length := (hg 9 (by decide)).trans a9
  refine s_aload_n 103 dX12_takesFrame_102 rfl rfl ?_
  refine s_V0i 106 dX12_takesFrame_103 rfl km_X12_partLong ml_X12_352 ds_X12_partLong (Nat.le_of_ble_eq_true rfl) m_rec rfl (c_partLong ?_)
  refine ⟨_, rfl, ?_⟩
  rw [hn9]
  refine s_istore 108 dX12_takesFrame_106 rfl (Nat.le_of_ble_eq_true rfl) rfl ?_
  refine s_aload_n 109 dX12_takesFrame_108 rfl rfl ?_
  refine s_iload_n 110 dX12_takesFrame_109 rfl rfl ?_
  refine s_bipush 112 dX12_takesFrame_110 rfl (k := ?_)
  refine s_V2i 115 dX12_takesFrame_112 rfl km_X12_its ml_X12_286 ds_X12_its (Nat.le_of_ble_eq_true rfl) m_rec rfl (c_itsP (by decide) hc (fun hr => ?_))
  refine ⟨_, rfl, ?_⟩
  refine s_iload 117 dX12_takesFrame_115 rfl rfl ?_
  refine s_iadd 118 dX12_takesFrame_117 rfl ?_
  refine s_bipush 120 dX12_takesFrame_118 rfl (k := ?_)
  refine s_icmp_le 123 130 dX12_takesFrame_120 rfl rfl (fun g => ?_) (fun g => ?_)
  rotate_left
  · have hf := hfr (by omega)
    rw [if_pos (by omega)] at hp
    have hx : RepCh (atc (A 3) c) z := hg0.congr hw fun k h1 h2 => by
      by_cases e : k = 11
      · subst e; rw [z11, a11, if_pos hf]
      · exact hg k e
    refine s_aload_n 124 dX12_takesFrame_123 rfl rfl ?_
    refine s_iload_n 125 dX12_takesFrame_124 rfl rfl ?_
    refine s_V1v 128 dX12_takesFrame_125 rfl km_X12_torn ml_X12_346 ds_X12_torn (Nat.le_of_ble_eq_true rfl) m_rec rfl (c_torn hc hx hw (by omega) (fun A1 p1 p2 p3 => ?_))
    refine ⟨rfl, ?_⟩
    refine s_iconst 129 dX12_takesFrame_128 rfl ?_
    refine s_ireturn rfl dX12_takesFrame_129 ?_
    exact hp A1 p1 p2 p3
  rw [if_neg (by omega)] at hp
  refine s_iconst 131 dX12_takesFrame_130 rfl ?_
  refine s_istore 133 dX12_takesFrame_131 rfl (Nat.le_of_ble_eq_true rfl) rfl ?_
  generalize hpt : partF ru pl = pt at *
  have key : ∀ (k j : Nat) (A' : Nat → Int → Int), j + k = pt.length → frA [3] A A' → frP c (A 3) (A' 3) → (∀ i, (i < 980 + (z.2.2.2.length : Int) ∨ 980 + (z.2.2.2.length : Int) + (j : Int) ≤ i) → atc (A' 3) c i = atc (A 3) c i) → sg (atc (A' 3) c) (980 + (z.2.2.2.length : Int)) (pt.take j) → V G (AM G m0 F n u) yX12_takesFrame cX12_takesFrame 7 (some .int) (d + 4) (I, A', D) 133 [some (.ref m0), some (vi h), some (vi c), none, none, some (vi pt.length), some (vi j)] [] post := by
    intro k
    induction k with
    | zero =>
      intro j A' hj f1 f2 f3 f4
      have f9 : atc (A' 3) c 9 = z.2.2.2.length := by rw [f3 9 (by omega)]; exact e9
      have f8 : atc (A' 3) c 8 = z.1 6 := by rw [f3 8 (by omega)]; exact (hg 8 (by decide)).trans a8
      obtain rfl : j = pt.length := by omega
      rw [List.take_length] at f4
      refine s_iload 135 dX12_takesFrame_133 rfl rfl ?_
      refine s_iload 137 dX12_takesFrame_135 rfl rfl ?_
      refine s_icmp_ge 140 174 dX12_takesFrame_137 rfl rfl (fun g => ?_) (fun g => ?_)
      rotate_left
      · omega
      refine s_aload_n 175 dX12_takesFrame_174 rfl rfl ?_
      refine s_iload_n 176 dX12_takesFrame_175 rfl rfl ?_
      refine s_bipush 178 dX12_takesFrame_176 rfl (k := ?_)
      refine s_iload 180 dX12_takesFrame_178 rfl rfl ?_
      refine s_V3v 183 dX12_takesFrame_180 rfl km_X12_more ml_X12_295 ds_X12_more (Nat.le_of_ble_eq_true rfl) m_rec rfl (c_moreP (by decide) hc (by omega) (fun B1 r1 r2 r3 => ?_))
      refine ⟨rfl, ?_⟩
      refine s_aload_n 184 dX12_takesFrame_183 rfl rfl ?_
      refine s_iload_n 185 dX12_takesFrame_184 rfl rfl ?_
      refine s_bipush 187 dX12_takesFrame_185 rfl (k := ?_)
      refine s_iconst 188 dX12_takesFrame_187 rfl ?_
      refine s_V3v 191 dX12_takesFrame_188 rfl km_X12_more ml_X12_295 ds_X12_more (Nat.le_of_ble_eq_true rfl) m_rec rfl (c_moreP (by decide) hc (by rw [r3, up_n (by decide), f8]; omega) (fun B2 s1 s2 s3 => ?_))
      refine ⟨rfl, ?_⟩
      refine s_iload_n 192 dX12_takesFrame_191 rfl rfl ?_
      refine s_bipush 194 dX12_takesFrame_192 rfl (k := ?_)
      refine s_iand 195 (16 * (h / 16 % 2)) dX12_takesFrame_194 rfl (and_16 hh) ?_
      have hput : RepCh (atc (B2 3) c) (putT z pt) := by
        rw [r3, up_n (by decide), f8, f9] at s3
        have hlow : ∀ i, i < 980 → atc (A' 3) c i = atc (A 3) c i := fun i hi => f3 i (by omega)
        have hi : ∀ i, 12 ≤ i → atc (B2 3) c i = atc (A' 3) c i := fun i hi => by rw [s3, up_n (by omega), up_n (by omega)]
        refine ⟨⟨?_, ?_, ?_, ?_, ?_, ?_, ?_, ?_, ?_, ?_, ?_, ?_⟩, ?_, ?_, ?_⟩
        · rw [s3]; exact (hlow 0 (by omega)).trans ((hg 0 (by decide)).trans a0)
        · rw [s3]; exact (hlow 1 (by omega)).trans ((hg 1 (by decide)).trans a1)
        · rw [s3]; exact (hlow 2 (by omega)).trans ((hg 2 (by decide)).trans a2)
        · rw [s3]; exact (hlow 3 (by omega)).trans ((hg 3 (by decide)).trans a3)
        · rw [s3]; exact (hlow 4 (by omega)).trans ((hg 4 (by decide)).trans a4)
        · rw [s3]; exact (hlow 5 (by omega)).trans ((hg 5 (by decide)).trans a5)
        · rw [s3]; exact (hlow 6 (by omega)).trans ((hg 6 (by decide)).trans a6)
        · rw [s3]; exact (hlow 7 (by omega)).trans ((hg 7 (by decide)).trans a7)
        · rw [s3]; rfl
        · rw [s3]; show (z.2.2.2.length : Int) + (pt.length : Int) = ((z.2.2.2 ++ pt).length : Nat); rw [List.length_append]; omega
        · rw [s3]; exact (hlow 10 (by omega)).trans ((hg 10 (by decide)).trans a10)
        · rw [s3]; show atc (A' 3) c 11 = if 0 < z.1 6 + 1 then 1 else 0; rw [if_pos (by omega), hlow 11 (by omega)]; exact z11
        · exact hW.congr w8 w9 fun i h1 h2 => by rw [hi i h1, hlow i h2]; exact hg i (by omega)
        · rw [show (putT z pt).2.2.2 = z.2.2.2 ++ pt from rfl, sg_append]
          refine ⟨sg_congr hS fun i h1 h2 => ?_, sg_congr f4 fun i h1 h2 => hi i (by omega)⟩
          rw [hi i (by omega), f3 i (by omega)]
          exact hg i (by omega)
        · exact hT.congr w10 w11 fun i h1 h2 => by rw [hi i (by omega), f3 i (by omega)]; exact hg i (by omega)
      have hwp : WfCh (b + 1) (putT z pt) := putT_wf hw (by rw [← hpt]; exact byt_take (byt_drop hby 1) _) (by omega)
      have v1 := (f1.trans r1 (fun _ h => h)).trans s1 (fun _ h => h)
      have v2 := (f2.trans r2).trans s2
      refine s_if_eq 198 206 dX12_takesFrame_195 rfl rfl (fun g2 => ?_) (fun g2 => ?_)
      · refine s_iconst 207 dX12_takesFrame_206 rfl ?_
        refine s_ireturn rfl dX12_takesFrame_207 ?_
        rw [show addF z h pt = (0, putT z pt) from if_pos (by omega)] at hp
        exact hp B2 v1 v2 hput
      · rw [show addF z h pt = endF (putT z pt) from if_neg (by omega)] at hp
        refine s_aload_n 199 dX12_takesFrame_198 rfl rfl ?_
        refine s_iload_n 200 dX12_takesFrame_199 rfl rfl ?_
        refine s_V1i 203 dX12_takesFrame_200 rfl km_X12_ends ml_X12_355 ds_X12_ends (Nat.le_of_ble_eq_true rfl) m_rec rfl (c_ends hc hput hwp (by omega) (fun B3 t1 t2 t3 => ?_))
        refine ⟨_, rfl, ?_⟩
        refine s_goto 207 dX12_takesFrame_203 rfl ?_
        refine s_ireturn rfl dX12_takesFrame_207 ?_
        exact hp B3 (v1.trans t1 (fun _ h => h)) (v2.trans t2) t3
    | succ k ih =>
      intro j A' hj f1 f2 f3 f4
      have f9 : atc (A' 3) c 9 = z.2.2.2.length := by rw [f3 9 (by omega)]; exact e9
      have fv : A' 5 (1 + (j : Int)) = pt.getD j 0 := by
        rw [f1 5 (by decide), ← hpt, partF_at (by omega), ← sg_slice hpl (k := 1 + j) (by omega)]
        congr 1
      refine s_iload 135 dX12_takesFrame_133 rfl rfl ?_
      refine s_iload 137 dX12_takesFrame_135 rfl rfl ?_
      refine s_icmp_ge 140 174 dX12_takesFrame_137 rfl rfl (fun g => ?_) (fun g => ?_)
      · omega
      refine s_aload_n 141 dX12_takesFrame_140 rfl rfl ?_
      refine s_iload_n 142 dX12_takesFrame_141 rfl rfl ?_
      refine s_sipush 145 dX12_takesFrame_142 rfl (k := ?_)
      refine s_aload_n 146 dX12_takesFrame_145 rfl rfl ?_
      refine s_iload_n 147 dX12_takesFrame_146 rfl rfl ?_
      refine s_bipush 149 dX12_takesFrame_147 rfl (k := ?_)
      refine s_V2i 152 dX12_takesFrame_149 rfl km_X12_its ml_X12_286 ds_X12_its (Nat.le_of_ble_eq_true rfl) m_rec rfl (c_itsP (by decide) hc (fun hr => ?_))
      refine ⟨_, rfl, ?_⟩
      refine s_iadd 153 dX12_takesFrame_152 rfl ?_
      refine s_iload 155 dX12_takesFrame_153 rfl rfl ?_
      refine s_iadd 156 dX12_takesFrame_155 rfl ?_
      refine s_aload_n 157 dX12_takesFrame_156 rfl rfl ?_
      refine m_getV (k := 25) 160 dX12_takesFrame_157 rfl fl_X12_29 (by decide) rfl ?_
      refine s_iconst 161 dX12_takesFrame_160 rfl ?_
      refine s_iload 163 dX12_takesFrame_161 rfl rfl ?_
      refine s_iadd 164 dX12_takesFrame_163 rfl ?_
      refine m_ald 165 5 1400 dX12_takesFrame_164 rfl (by decide) rfl (fun hr164 => ?_)
      refine s_V3v 168 dX12_takesFrame_165 rfl km_X12_lay ml_X12_201 ds_X12_lay (Nat.le_of_ble_eq_true rfl) m_rec rfl (c_layP (by omega) hc hr164 (fun B1 r1 r2 r3 => ?_))
      refine ⟨rfl, ?_⟩
      refine s_iinc 171 dX12_takesFrame_168 rfl rfl (Nat.le_of_ble_eq_true rfl) rfl ?_
      refine s_goto 133 dX12_takesFrame_171 rfl ?_
      have et : pt.take (j + 1) = pt.take j ++ [pt.getD j 0] := by
        have := take_snoc (bs := pt) (p := 0) (r := j) (by omega)
        rw [List.drop_zero, Nat.zero_add] at this
        exact this
      refine ih (j + 1) B1 (by omega) (f1.trans r1 (fun _ h => h)) (f2.trans r2) (fun i hi => ?_) ?_
      · rw [r3, up_n (by omega)]
        exact f3 i (by omega)
      · rw [r3, et, fv]
        exact sg_snoc' f4 (by rw [List.length_take_of_le (by omega), f9])
  exact key pt.length 0 A (by omega) frA.rf frP.rf (fun _ _ => rfl) (by rw [List.take_zero]; exact sg_nil _ _)
theorem c_takesFrame {c : Nat} {x : CH} {b : Int} {h : Int} {pl : List Int} (hc : c < 4) (hx : RepCh (atc (A 3) c) x) (hw : WfCh b x) (hb : b ≤ 99999900) (h26 : I 26 = pl.length) (hpl : sg (A 5) 0 pl) (hby : byt pl) (hN : pl.length ≤ 1300) (h21 : I 21 = ru 3) (hk1 : 1 + ckl (ru 3) ≤ pl.length) (hs1 : (partF ru pl).length ≤ 60) (hh : h = pl.getD 0 0) (hc2 : h / 64 = c)
    (hp : ∀ A', frA [3] A A' → frP c (A 3) (A' 3) → RepCh (atc (A' 3) c) (accF x h (partF ru pl)).2 → post (some (vi (accF x h (partF ru pl)).1)) (I, A', D)) : Cm G (AM G m0 F n u) yX12_takesFrame cX12_takesFrame 7 (some .int) (d + 4) [.ref m0] (I, A, D) post := by
  refine Cm_intro (L := [some (.ref m0), none, none, none, none, none, none]) (by decide +kernel) (Nat.le_of_ble_eq_true rfl) rfl ?_
  have hb0 := byt_at hby 0
  rw [← hh] at hb0
  have e0 : A 5 0 = h := by rw [hh]; exact sg_slice hpl (k := 0) (by omega)
  obtain ⟨⟨a0, a1, a2, a3, a4, a5, a6, a7, a8, a9, a10, a11⟩, hW, hS, hT⟩ := id hx
  obtain ⟨w0, w1, w2, w3, w4, w5, w6, w7, w8, w9, w10, w11, w12, w13, w14⟩ := id hw
  refine s_aload_n 1 dX12_takesFrame_0 rfl rfl ?_
  refine m_getV (k := 25) 4 dX12_takesFrame_1 rfl fl_X12_29 (by decide) rfl ?_
  refine s_iconst 5 dX12_takesFrame_4 rfl ?_
  refine m_ald 6 5 1400 dX12_takesFrame_5 rfl (by decide) rfl (fun hr5 => ?_)
  rw [e0]
  refine s_istore_n 7 dX12_takesFrame_6 rfl (Nat.le_of_ble_eq_true rfl) rfl ?_
  refine s_iload_n 8 dX12_takesFrame_7 rfl rfl ?_
  refine s_bipush 10 dX12_takesFrame_8 rfl (k := ?_)
  refine s_idiv (q := 11) (hd := dX12_takesFrame_10) (hq := rfl) (k := ?_)
  rw [hc2]
  refine s_istore_n 12 dX12_takesFrame_11 rfl (Nat.le_of_ble_eq_true rfl) rfl ?_
  refine s_iload_n 13 dX12_takesFrame_12 rfl rfl ?_
  refine s_bipush 15 dX12_takesFrame_13 rfl (k := ?_)
  refine s_irem (q := 16) (hd := dX12_takesFrame_15) (hq := rfl) (k := ?_)
  refine s_aload_n 17 dX12_takesFrame_16 rfl rfl ?_
  refine s_iload_n 18 dX12_takesFrame_17 rfl rfl ?_
  refine s_iconst 19 dX12_takesFrame_18 rfl ?_
  refine s_V2i 22 dX12_takesFrame_19 rfl km_X12_its ml_X12_286 ds_X12_its (Nat.le_of_ble_eq_true rfl) m_rec rfl (c_itsP (by decide) hc (fun hr => ?_))
  refine ⟨_, rfl, ?_⟩
  refine s_isub 23 dX12_takesFrame_22 rfl ?_
  refine s_bipush 25 dX12_takesFrame_23 rfl (k := ?_)
  refine s_iadd 26 dX12_takesFrame_25 rfl ?_
  refine s_bipush 28 dX12_takesFrame_26 rfl (k := ?_)
  refine s_irem (q := 29) (hd := dX12_takesFrame_28) (hq := rfl) (k := ?_)
  rw [a4, show (h % 16 - x.1 3 + 16) % 16 = (h - x.1 3) % 16 by omega]
  refine s_istore_n 30 dX12_takesFrame_29 rfl (Nat.le_of_ble_eq_true rfl) rfl ?_
  refine s_iload_n 31 dX12_takesFrame_30 rfl rfl ?_
  have j46 : ∀ A1, frA [3] A A1 → frP c (A 3) (A1 3) → RepCh (atc (A1 3) c) (if (h - x.1 3) % 16 = 0 then x else tearF (up x.1 4 (x.1 4 + (h - x.1 3) % 16), x.2)) → WfCh (b + 16) (if (h - x.1 3) % 16 = 0 then x else tearF (up x.1 4 (x.1 4 + (h - x.1 3) % 16), x.2)) → V G (AM G m0 F n u) yX12_takesFrame cX12_takesFrame 7 (some .int) (d + 4) (I, A1, D) 46 [some (.ref m0), some (vi h), some (vi c), none, none, none, none] [] post := by
    intro A1 f1 f2 f3 f4
    have hwl : WfCh (b + 16) (lostF x h) := lostF_wf hw
    refine s_aload_n 47 dX12_takesFrame_46 rfl rfl ?_
    refine s_iload_n 48 dX12_takesFrame_47 rfl rfl ?_
    refine s_iconst 49 dX12_takesFrame_48 rfl ?_
    refine s_iload_n 50 dX12_takesFrame_49 rfl rfl ?_
    refine s_iconst 51 dX12_takesFrame_50 rfl ?_
    refine s_iadd 52 dX12_takesFrame_51 rfl ?_
    refine s_bipush 54 dX12_takesFrame_52 rfl (k := ?_)
    refine s_irem (q := 55) (hd := dX12_takesFrame_54) (hq := rfl) (k := ?_)
    refine s_V3v 58 dX12_takesFrame_55 rfl km_X12_lay ml_X12_201 ds_X12_lay (Nat.le_of_ble_eq_true rfl) m_rec rfl (c_layP (by decide) hc (by omega) (fun A2 p1 p2 p3 => ?_))
    refine ⟨rfl, ?_⟩
    refine s_iload_n 59 dX12_takesFrame_58 rfl rfl ?_
    refine s_bipush 61 dX12_takesFrame_59 rfl (k := ?_)
    refine s_iand 62 (32 * (h / 32 % 2)) dX12_takesFrame_61 rfl (and_32 (by omega)) ?_
    have hl : RepCh (atc (A2 3) c) (lostF x h) := by
      refine RepCh.hdr f3 f4 (fun k h1 h2 => by rw [p3, up_n (by omega)]) ?_
      obtain ⟨b0, b1, b2, b3, b4, b5, b6, b7, b8, b9, b10, b11⟩ := f3.1
      rw [p3]
      exact ⟨b0, b1, b2, b3, rfl, b5, b6, b7, b8, b9, b10, b11⟩
    have v1 := f1.trans p1 (fun _ h => h)
    have v2 := f2.trans p2
    have u26 : I 26 = pl.length := h26
    have u5 : sg (A2 5) 0 pl := by rw [v1 5 (by decide)]; exact hpl
    refine s_if_eq 65 69 dX12_takesFrame_62 rfl rfl (fun g => ?_) (fun g => ?_)
    · -- no FIRST one
      refine s_iconst 70 dX12_takesFrame_69 rfl ?_
      refine s_istore 72 dX12_takesFrame_70 rfl (Nat.le_of_ble_eq_true rfl) rfl ?_
      refine s_iload 74 dX12_takesFrame_72 rfl rfl ?_
      refine s_if_eq 77 90 dX12_takesFrame_74 rfl rfl (fun g3 => ?_) (fun g3 => ?_)
      rotate_left
      · omega
      refine s_aload_n 91 dX12_takesFrame_90 rfl rfl ?_
      refine s_iload_n 92 dX12_takesFrame_91 rfl rfl ?_
      refine s_bipush 94 dX12_takesFrame_92 rfl (k := ?_)
      refine s_V2i 97 dX12_takesFrame_94 rfl km_X12_its ml_X12_286 ds_X12_its (Nat.le_of_ble_eq_true rfl) m_rec rfl (c_itsP (by decide) hc (fun hr => ?_))
      refine ⟨_, rfl, ?_⟩
      have e11 := hl.1.2.2.2.2.2.2.2.2.2.2.2
      rw [e11]
      rw [show accF x h (partF ru pl) = (if (lostF x h).1 6 = 0 then (5, lostF x h) else if 120 < (lostF x h).2.2.2.length + (partF ru pl).length then (5, tearF (lostF x h)) else addF (lostF x h) h (partF ru pl)) from if_neg (by omega)] at hp
      have hl6 : 0 ≤ (lostF x h).1 6 := hwl.2.2.2.2.2.2.1.1
      by_cases h6 : (lostF x h).1 6 = 0
      · rw [if_pos h6] at hp
        rw [if_neg (by omega)]
        refine s_if_ne 100 102 dX12_takesFrame_97 rfl rfl (fun g4 => ?_) (fun g4 => ?_)
        · omega
        · refine s_iconst 101 dX12_takesFrame_100 rfl ?_
          refine s_ireturn rfl dX12_takesFrame_101 ?_
          exact hp A2 v1 v2 hl
      · rw [if_neg h6] at hp
        rw [if_pos (by omega)]
        rw [if_pos (by omega)] at e11
        refine s_if_ne 100 102 dX12_takesFrame_97 rfl rfl (fun g4 => ?_) (fun g4 => ?_)
        · refine V_kill 4 (takes_add hc ⟨e11, _, hl, fun _ _ => rfl⟩ hwl (by omega) u26 u5 hby hN h21 hk1 (by omega) (fun _ => by omega) (fun A3 q1 q2 q3 => ?_))
          exact hp A3 (v1.trans q1 (fun _ h => h)) (v2.trans q2) q3
        · omega
    · -- a FIRST one
      rw [show accF x h (partF ru pl) = addF (tearF (lostF x h)) h (partF ru pl) from if_pos (by omega)] at hp
      refine s_iconst 66 dX12_takesFrame_65 rfl ?_
      refine s_goto 70 dX12_takesFrame_66 rfl ?_
      refine s_istore 72 dX12_takesFrame_70 rfl (Nat.le_of_ble_eq_true rfl) rfl ?_
      refine s_iload 74 dX12_takesFrame_72 rfl rfl ?_
      refine s_if_eq 77 90 dX12_takesFrame_74 rfl rfl (fun g3 => ?_) (fun g3 => ?_)
      · omega
      refine s_aload_n 78 dX12_takesFrame_77 rfl rfl ?_
      refine s_iload_n 79 dX12_takesFrame_78 rfl rfl ?_
      refine s_V1v 82 dX12_takesFrame_79 rfl km_X12_torn ml_X12_346 ds_X12_torn (Nat.le_of_ble_eq_true rfl) m_rec rfl (c_torn hc hl hwl (by omega) (fun A3 q1 q2 q3 => ?_))
      refine ⟨rfl, ?_⟩
      refine s_aload_n 83 dX12_takesFrame_82 rfl rfl ?_
      refine s_iload_n 84 dX12_takesFrame_83 rfl rfl ?_
      refine s_bipush 86 dX12_takesFrame_84 rfl (k := ?_)
      refine s_iconst 87 dX12_takesFrame_86 rfl ?_
      refine s_V3v 90 dX12_takesFrame_87 rfl km_X12_lay ml_X12_201 ds_X12_lay (Nat.le_of_ble_eq_true rfl) m_rec rfl (c_layP (by decide) hc (by decide) (fun A4 r1 r2 r3 => ?_))
      refine ⟨rfl, ?_⟩
      refine s_aload_n 91 dX12_takesFrame_90 rfl rfl ?_
      refine s_iload_n 92 dX12_takesFrame_91 rfl rfl ?_
      refine s_bipush 94 dX12_takesFrame_92 rfl (k := ?_)
      refine s_V2i 97 dX12_takesFrame_94 rfl km_X12_its ml_X12_286 ds_X12_its (Nat.le_of_ble_eq_true rfl) m_rec rfl (c_itsP (by decide) hc (fun hr => ?_))
      refine ⟨_, rfl, ?_⟩
      rw [r3, up_s]
      refine s_if_ne 100 102 dX12_takesFrame_97 rfl rfl (fun g4 => ?_) (fun g4 => ?_)
      rotate_left
      · omega
      have x1 := (v1.trans q1 (fun _ h => h)).trans r1 (fun _ h => h)
      refine V_kill 4 (takes_add hc ⟨by rw [r3, up_s], _, q3, fun k hk => by rw [r3, up_n hk]⟩ (tearF_wf hwl) (by omega) u26 (by rw [x1 5 (by decide)]; exact hpl) hby hN h21 hk1 (by omega) (fun g9 => by have g9 : 120 < 0 + (partF ru pl).length := g9; omega) (fun A5 s1 s2 s3 => ?_))
      have hn : ¬ 120 < (tearF (lostF x h)).2.2.2.length + (partF ru pl).length := by show ¬ 120 < 0 + _; omega
      rw [if_neg hn] at s3 ⊢
      exact hp A5 (x1.trans s1 (fun _ h => h)) (((v2.trans q2).trans r2).trans s2) s3
  refine s_if_le 34 46 dX12_takesFrame_31 rfl rfl (fun g => ?_) (fun g => ?_)
  · refine V_kill 3 ?_
    exact j46 A frA.rf frP.rf (by rw [if_pos (by omega)]; exact hx) (by rw [if_pos (by omega)]; exact hw.mono (by omega))
  have hw2 : WfCh (b + 15) (up x.1 4 (x.1 4 + (h - x.1 3) % 16), x.2) := by
    obtain ⟨v0, v1, v2, v3, v4, v5, v6, v7, v8, v9, v10, v11, v12, v13, v14⟩ := hw.mono (b' := b + 15) (by omega)
    exact ⟨v0, v1, v2, v3, by show 0 ≤ x.1 4 + (h - x.1 3) % 16 ∧ x.1 4 + (h - x.1 3) % 16 ≤ b + 15; omega, v5, v6, v7, v8, v9, v10, v11, v12, v13, v14⟩
  refine s_aload_n 35 dX12_takesFrame_34 rfl rfl ?_
  refine s_iload_n 36 dX12_takesFrame_35 rfl rfl ?_
  refine s_iconst 37 dX12_takesFrame_36 rfl ?_
  refine s_iload_n 38 dX12_takesFrame_37 rfl rfl ?_
  refine s_V3v 41 dX12_takesFrame_38 rfl km_X12_more ml_X12_295 ds_X12_more (Nat.le_of_ble_eq_true rfl) m_rec rfl (c_moreP (by decide) hc (by omega) (fun A1 p1 p2 p3 => ?_))
  refine ⟨rfl, ?_⟩
  rw [a5] at p3
  have hl : RepCh (atc (A1 3) c) (up x.1 4 (x.1 4 + (h - x.1 3) % 16), x.2) := by
    refine RepCh.hdr hx hw (fun k h1 h2 => by rw [p3, up_n (by omega)]) ?_
    rw [p3]
    exact ⟨a0, a1, a2, a3, a4, rfl, a6, a7, a8, a9, a10, a11⟩
  refine s_aload_n 42 dX12_takesFrame_41 rfl rfl ?_
  refine s_iload_n 43 dX12_takesFrame_42 rfl rfl ?_
  refine s_V1v 46 dX12_takesFrame_43 rfl km_X12_torn ml_X12_346 ds_X12_torn (Nat.le_of_ble_eq_true rfl) m_rec rfl (c_torn hc hl hw2 (by omega) (fun A2 q1 q2 q3 => ?_))
  refine ⟨rfl, ?_⟩
  refine V_kill 3 ?_
  exact j46 A2 (p1.trans q1 (fun _ h => h)) (p2.trans q2) (by rw [if_neg (by omega)]; exact q3) (by rw [if_neg (by omega)]; exact (tearF_wf hw2).mono (by omega))
end M8
