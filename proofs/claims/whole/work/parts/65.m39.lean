/-! ===== credits: how often something can be put ===== -/
theorem sumC_at {f g : Nat → Int} {k : Nat} (h : ∀ j, j ≠ k → g j = f j) : ∀ ch, sumC g ch = sumC f ch + (if k < ch then g k - f k else 0) := by
  intro ch
  induction ch with
  | zero => rfl
  | succ ch ih =>
    show sumC g ch + g ch = sumC f ch + f ch + _
    rw [ih]
    by_cases e : ch = k
    · subst e
      rw [if_neg (by omega), if_pos (by omega)]
      omega
    · rw [h ch e]
      by_cases e2 : k < ch
      · rw [if_pos e2, if_pos (by omega)]; omega
      · rw [if_neg e2, if_neg (by omega)]; omega
theorem sumC_congr {f g : Nat → Int} {ch : Nat} (h : ∀ c, c < ch → g c = f c) : ∀ k, k ≤ ch → sumC g k = sumC f k := by
  intro k
  induction k with
  | zero => intro _; rfl
  | succ k ih =>
    intro hk
    show sumC g k + g k = sumC f k + f k
    rw [ih (by omega), h k (by omega)]
def crdF (s : ST) (ch : Nat) : Int := sumC (fun c => (s.2.2.2.2 c).1 0) ch
theorem crd_rg {b : Int} {ch : Nat} {s : ST} (hw : WfSt b ch s) (hch : ch ≤ 4) : 0 ≤ crdF s ch ∧ crdF s ch ≤ 32 := by
  have h := sumC_rg (f := fun c => (s.2.2.2.2 c).1 0) (ch := ch) (b := 8) (fun c hc => (hw.2.2.2.2.2.2.2.2.2.2 c hc).1) ch (Nat.le_refl _)
  unfold crdF
  omega
theorem wasF_cr (ru : RU) (c : CH) : (wasF ru c).1 0 = c.1 0 - 1 := by
  unfold wasF
  split <;> rfl
theorem putF_cr {ru : RU} {b : Int} {ch : Nat} {s : ST} (hw : WfSt b ch s) (hwr : WfRu ru) (hch : ch = (ru 5).toNat) (hc : canF ru s) : crdF (putF ru s) ch = crdF s ch - 1 := by
  have h5 := hwr.2.2.2.2.2
  have hpk := pickF_ok (s := s) (ch := ch) hw.2.2.2.2.2.2.1.1 (by omega)
  have hc1 := hc.1
  rw [← hch] at hc1
  have hpk := hpk.resolve_left hc1
  unfold crdF
  rw [sumC_at (f := fun c => (s.2.2.2.2 c).1 0) (k := (pickF s ch).toNat) (fun j hj => ?_) ch, if_pos (by omega)]
  · show _ + ((up s.2.2.2.2 (pickF s (ru 5).toNat).toNat (wasF ru (s.2.2.2.2 (pickF s (ru 5).toNat).toNat)) (pickF s ch).toNat).1 0 - _) = _
    rw [← hch, up_s, wasF_cr]
    omega
  · show (up s.2.2.2.2 (pickF s (ru 5).toNat).toNat (wasF ru (s.2.2.2.2 (pickF s (ru 5).toNat).toNat)) j).1 0 = (s.2.2.2.2 j).1 0
    rw [← hch, up_n hj]
theorem putN_ok {ru : RU} {b : Int} {ch : Nat} (hwr : WfRu ru) (hch : ch = (ru 5).toNat) : ∀ (k : Nat) (s : ST), WfSt b ch s → WfSt b ch (putN ru k s).2 ∧ crdF (putN ru k s).2 ch = crdF s ch - (putN ru k s).1 ∧ ((putN ru k s).1 = 0 → (putN ru k s).2 = s) ∧ (crdF s ch < k → ¬ canF ru (putN ru k s).2) := by
  intro k
  induction k with
  | zero =>
    intro s hw
    have h5 := hwr.2.2.2.2.2
    have := crd_rg hw (by omega)
    exact ⟨hw, by show crdF s ch = crdF s ch - ((0 : Nat) : Int); omega, fun _ => rfl, fun h => by omega⟩
  | succ k ih =>
    intro s hw
    by_cases hc : canF ru s
    · rw [putN_y hc]
      obtain ⟨i1, i2, i3, i4⟩ := ih (putF ru s) (putF_wf hw hwr hch hc)
      have hcr := putF_cr hw hwr hch hc
      exact ⟨i1, by show crdF (putN ru k (putF ru s)).2 ch = crdF s ch - (((putN ru k (putF ru s)).1 + 1 : Nat) : Int); rw [i2, hcr]; omega, fun h => absurd (show (putN ru k (putF ru s)).1 + 1 = 0 from h) (by omega), fun h => i4 (by omega)⟩
    · rw [putN_n hc]
      exact ⟨hw, by show crdF s ch = crdF s ch - ((0 : Nat) : Int); omega, fun _ => rfl, fun _ => hc⟩
theorem tearF_cr (c : CH) : (tearF c).1 0 = c.1 0 := rfl
theorem lostF_cr (c : CH) (h : Int) : (lostF c h).1 0 = c.1 0 := by
  unfold lostF
  show (if (h - c.1 3) % 16 = 0 then c else tearF (up c.1 4 (c.1 4 + (h - c.1 3) % 16), c.2)).1 0 = c.1 0
  split <;> rfl
theorem endF_cr (c : CH) : (endF c).2.1 0 = c.1 0 := by
  unfold endF
  split
  · exact tearF_cr c
  · rfl
theorem addF_cr (c : CH) (h : Int) (pt : List Int) : (addF c h pt).2.1 0 = c.1 0 := by
  have e : (putT c pt).1 0 = c.1 0 := rfl
  unfold addF
  split
  · exact e
  · rw [endF_cr]; exact e
theorem accF_cr (c : CH) (h : Int) (pt : List Int) : (accF c h pt).2.1 0 = c.1 0 := by
  unfold accF
  split
  · rw [addF_cr, tearF_cr, lostF_cr]
  · split
    · exact lostF_cr c h
    · split
      · show (tearF (lostF c h)).1 0 = _
        rw [tearF_cr, lostF_cr]
      · rw [addF_cr, lostF_cr]
theorem byteF_cr (ru : RU) (s : ST) (x : Int) (c : Nat) : ((byteF ru s x).2.2.2.2 c).1 0 = (s.2.2.2.2 c).1 0 := by
  unfold byteF
  split
  · unfold markF
    split
    · rfl
    · split
      · rfl
      · split
        · rfl
        · split
          · rfl
          · show (up s.2.2.2.2 _ _ c).1 0 = _
            by_cases e : c = ((judge ru s.2.1).2.getD 0 0 / 64).toNat
            · rw [e, up_s, accF_cr]
            · rw [up_n e]
  · split
    · rfl
    · rfl
theorem readF_cr (ru : RU) (s : ST) (k ch : Nat) : crdF (readF ru s k) ch = crdF s ch := by
  have h : ∀ (l : List Int) (s2 : ST) (c : Nat), ((l.foldl (byteF ru) s2).2.2.2.2 c).1 0 = (s2.2.2.2.2 c).1 0 := by
    intro l
    induction l with
    | nil => intro s2 c; rfl
    | cons x t ih => intro s2 c; rw [List.foldl_cons, ih, byteF_cr]
  unfold crdF
  exact sumC_congr (ch := ch) (fun c _ => h (s.1.take k) s c) ch (Nat.le_refl _)
/-- how many rounds are left at most -/
def roundF (s : ST) (ch : Nat) : Int := crdF s ch + (if s.1.length = 0 then 0 else 1)
theorem readF_all (ru : RU) (s : ST) : (readF ru s s.1.length).1 = [] := by
  show s.1.drop s.1.length = []
  rw [List.drop_length]
theorem round_less {ru : RU} {b : Int} {ch : Nat} {s : ST} (hwr : WfRu ru) (hch : ch = (ru 5).toNat) (hw : WfSt b ch s) (h : ¬ (putN ru 60 s).2.1.length = 0) : roundF (readF ru (putN ru 60 s).2 (putN ru 60 s).2.1.length) ch < roundF s ch := by
  obtain ⟨i1, i2, i3, -⟩ := putN_ok hwr hch 60 s hw
  unfold roundF
  rw [readF_cr, readF_all, i2, if_pos (show ([] : List Int).length = 0 from rfl)]
  by_cases e : (putN ru 60 s).1 = 0
  · rw [i3 e] at h
    rw [if_neg h]
    omega
  · split <;> omega
theorem fluF_wf {ru : RU} {ch : Nat} (hwr : WfRu ru) (hch : ch = (ru 5).toNat) : ∀ (f : Nat) (s : ST) (b : Int), WfSt b ch s → WfSt (b + 12000 * f) ch (fluF ru f s) := by
  intro f
  induction f with
  | zero => intro s b hw; exact hw.mono (by omega)
  | succ f ih =>
    intro s b hw
    have h1 := (putN_ok hwr hch 60 s hw).1
    rw [fluF]
    split
    · exact h1.mono (by omega)
    · exact (ih _ _ (readF_wf h1 hwr hch)).mono (by omega)
section M39
variable {G : GT} {m0 n u : Nat} {F : HS} {d : Nat} {I : Nat → Int} {A : Nat → Int → Int} {D : Int64} {post : Option Value → MT → Prop} {S : SY} {b : Int}
theorem o_flushed {z : Int} (hz : rg z) (hm : RepM I A S) (hw : WfSy b S) (hb : b ≤ 90000000) (hp : ∀ I' A', RepM I' A' S → post (some (vi (aFlushed S.2.2.2.2.1 S.2.2.2.2.2.1 S.2.2.2.2.2.2.2.1 z))) (I', A', D)) : Cm G (AM G m0 F n u) yX12_flushed cX12_flushed 5 (some .int) (d + 8) [.ref m0, vi z] (I, A, D) post := by
  obtain ⟨tp, bx, hd, rf, il, ru, tl, s, ps, im⟩ := S
  have hp : ∀ I' A', RepM I' A' (tp, bx, hd, rf, il, ru, tl, s, ps, im) → post (some (vi (aFlushed il ru s z))) (I', A', D) := hp
  obtain ⟨-, -, -, -, m1, -, -, m3, m4, m2⟩ := id hm
  obtain ⟨-, -, -, -, w1, -, w3, w4, w2⟩ := id hw
  refine Cm_intro (L := [some (.ref m0), some (vi z), none, none, none]) (by decide +kernel) (Nat.le_of_ble_eq_true rfl) rfl ?_
  have e17 : up I 0 0 17 = il := by rw [up_n (by decide)]; exact m1
  have no : ¬ (il = 1 ∧ 0 ≤ z ∧ z ≤ 4) → V G (AM G m0 F n u) yX12_flushed cX12_flushed 5 (some .int) (d + 8) (up I 0 0, A, D) 24 [some (.ref m0), some (vi z), none, none, none] [] post := by
    intro hno
    refine s_iconst 25 dX12_flushed_24 rfl ?_
    refine s_ireturn rfl dX12_flushed_25 ?_
    rw [show aFlushed il ru s z = -1 from if_pos hno] at hp
    exact hp _ _ (hm.scr (frI.rf.up (by decide)) frA.rf)
  refine s_aload_n 1 dX12_flushed_0 rfl rfl ?_
  refine s_iconst 2 dX12_flushed_1 rfl ?_
  refine m_putI 5 0 dX12_flushed_2 rfl fl_X12_60 (by decide) rfl rfl rfl rfl ?_
  refine s_aload_n 6 dX12_flushed_5 rfl rfl ?_
  refine m_getI 9 17 dX12_flushed_6 rfl fl_X12_188 (by decide) rfl (fun hr6 => ?_)
  refine s_if_eq 12 24 dX12_flushed_9 rfl rfl (fun g => ?_) (fun g => ?_)
  · exact no (fun h => by omega)
  have hil : il = 1 := by omega
  subst hil
  obtain ⟨hru, htl, hs, hps, him⟩ := m2 rfl
  obtain ⟨hwr, hwt, ⟨hws, hwc⟩, hwp, hwi⟩ := w2 rfl
  have h5 := hwr.2.2.2.2.2
  refine s_iload_n 13 dX12_flushed_12 rfl rfl ?_
  refine s_i2lz 14 dX12_flushed_13 rfl ?_
  refine s_lconstz 15 dX12_flushed_14 rfl ?_
  refine s_ldc2z 18 (4) dX12_flushed_15 rfl kc_X12_379 rfl ?_
  refine s_S3b 21 dX12_flushed_18 rfl km_X12_in rfl ml_X12_70 ds_X12_in (Nat.le_of_ble_eq_true rfl) (c_in hz (by decide) (by decide) ?_)
  refine ⟨_, rfl, ?_⟩
  refine s_if_neb 24 26 dX12_flushed_21 rfl rfl (fun g2 => ?_) (fun g2 => ?_)
  rotate_left
  · have g2 := of_decide_eq_false g2
    exact no (fun h => g2 h.2)
  have g2 : 0 ≤ z ∧ z ≤ 4 := of_decide_eq_true g2
  rw [show aFlushed 1 ru s z = if z = 0 then theF (fluF ru 60 s) (ru 5).toNat else if z = 1 then sumC (fun c => ((fluF ru 60 s).2.2.2.2 c).1 4) (ru 5).toNat else if z = 2 then sumC (fun c => ((fluF ru 60 s).2.2.2.2 c).1 5) (ru 5).toNat else if z = 3 then sumC (fun c => (((fluF ru 60 s).2.2.2.2 c).2.1.length : Int)) (ru 5).toNat else (fluF ru 60 s).2.2.1 2 - s.2.2.1 2 from if_neg (fun h => h ⟨rfl, g2⟩)] at hp
  have hru1 : RuM (up I 0 0) ru := hru.fr (ks := [0]) (frI.rf.up (by decide)) (by decide)
  have x7 := hws.2.2.2.2.2.2.2.1
  refine s_aload_n 27 dX12_flushed_26 rfl rfl ?_
  refine s_V0v 30 dX12_flushed_27 rfl km_X12_putAside ml_X12_340 ds_X12_putAside (Nat.le_of_ble_eq_true rfl) m_rec rfl (c_putAside (fun A1 f1 f2 => ?_))
  refine ⟨rfl, ?_⟩
  have hs1 : RepSt (ru 5).toNat (A1 3) s := by rw [f1 3 (by decide)]; exact hs
  refine s_aload_n 31 dX12_flushed_30 rfl rfl ?_
  refine m_getV (k := 16) 34 dX12_flushed_31 rfl fl_X12_16 (by decide) rfl ?_
  refine s_sipush 37 dX12_flushed_34 rfl (k := ?_)
  refine m_ald 38 3 9309 dX12_flushed_37 rfl (by decide) rfl (fun hr37 => ?_)
  rw [hs1.2.2.2.2.2.2.1]
  refine s_istore_n 39 dX12_flushed_38 rfl (Nat.le_of_ble_eq_true rfl) rfl ?_
  refine s_iconst 40 dX12_flushed_39 rfl ?_
  refine s_istore_nb (z := true) 41 dX12_flushed_40 rfl (Nat.le_of_ble_eq_true rfl) rfl ?_
  -- the end: what is asked for
  have fin : ∀ (I2 : Nat → Int) (A2 : Nat → Int → Int) (s2 : ST) (b2 : Int), frI [26, 28, 29] (up I 0 0) I2 → frA [3, 5, 6] A1 A2 → RepSt (ru 5).toNat (A2 3) s2 → WfSt b2 (ru 5).toNat s2 → b2 ≤ 95000000 → fluF ru 60 s = s2 → V G (AM G m0 F n u) yX12_flushed cX12_flushed 5 (some .int) (d + 8) (I2, A2, D) 90 [some (.ref m0), some (vi z), some (vi (s.2.2.1 2)), none, none] [] post := by
    intro I2 A2 s2 b2 x1 x2 x3 x4 x5 x6
    rw [x6] at hp
    have hru2 : RuM I2 ru := hru1.fr x1 (by decide)
    have y7 := x4.2.2.2.2.2.2.2.1
    have last : ∀ r : Int, r = (if z = 0 then theF s2 (ru 5).toNat else if z = 1 then sumC (fun c => (s2.2.2.2.2 c).1 4) (ru 5).toNat else if z = 2 then sumC (fun c => (s2.2.2.2.2 c).1 5) (ru 5).toNat else if z = 3 then sumC (fun c => ((s2.2.2.2.2 c).2.1.length : Int)) (ru 5).toNat else s2.2.2.1 2 - s.2.2.1 2) → V G (AM G m0 F n u) yX12_flushed cX12_flushed 5 (some .int) (d + 8) (I2, A2, D) 153 [some (.ref m0), some (vi z), some (vi (s.2.2.1 2)), none, none] [vi r] post := by
      intro r hr
      rw [← hr] at hp
      refine s_istore 155 dX12_flushed_153 rfl (Nat.le_of_ble_eq_true rfl) rfl ?_
      refine s_aload_n 156 dX12_flushed_155 rfl rfl ?_
      refine s_V0v 159 dX12_flushed_156 rfl km_X12_takeBack ml_X12_396 ds_X12_takeBack (Nat.le_of_ble_eq_true rfl) m_rec rfl (c_takeBack (fun A3 y4 y5 => ?_))
      refine ⟨rfl, ?_⟩
      refine s_iload 161 dX12_flushed_159 rfl rfl ?_
      refine s_ireturn rfl dX12_flushed_161 ?_
      refine hp _ _ (hm.now hw (((frI.rf.up (ks := [0, 26, 28, 29]) (by decide)).trans x1 (by decide)).wk (by decide)) (((f1.wk (ls := [3, 5, 6, 9, 12, 13]) (by decide)).trans x2 (by decide)).trans y4 (by decide)) (fun i x y => ?_))
      rw [y5 i x y, x2 9 (by decide), f2 i x y]
    refine s_iload_n 91 dX12_flushed_90 rfl rfl ?_
    refine s_if_ne 94 103 dX12_flushed_91 rfl rfl (fun h0 => ?_) (fun h0 => ?_)
    rotate_left
    · refine s_aload_n 95 dX12_flushed_94 rfl rfl ?_
      refine s_bipush 97 dX12_flushed_95 rfl (k := ?_)
      refine s_V1i 100 dX12_flushed_97 rfl km_X12_sumOf ml_X12_401 ds_X12_sumOf (Nat.le_of_ble_eq_true rfl) m_rec rfl (c_sumOf (f := fun c => ((s2.2.2.2.2 c).2.2.1.length : Int)) rfl (fun c hc => (x3.2.2.2.2.2.2.2.2 c hc).1.2.2.2.2.2.2.2.1) (by omega) hru2 hwr ?_)
      refine ⟨_, rfl, ?_⟩
      refine s_goto 153 dX12_flushed_100 rfl ?_
      exact last _ (by rw [if_pos h0]; rfl)
    refine s_iload_n 104 dX12_flushed_103 rfl rfl ?_
    refine s_iconst 105 dX12_flushed_104 rfl ?_
    refine s_icmp_ne 108 116 dX12_flushed_105 rfl rfl (fun h1 => ?_) (fun h1 => ?_)
    rotate_left
    · refine s_aload_n 109 dX12_flushed_108 rfl rfl ?_
      refine s_iconst 110 dX12_flushed_109 rfl ?_
      refine s_V1i 113 dX12_flushed_110 rfl km_X12_sumOf ml_X12_401 ds_X12_sumOf (Nat.le_of_ble_eq_true rfl) m_rec rfl (c_sumOf (f := fun c => (s2.2.2.2.2 c).1 4) rfl (fun c hc => (x3.2.2.2.2.2.2.2.2 c hc).1.2.2.2.2.2.1) (by omega) hru2 hwr ?_)
      refine ⟨_, rfl, ?_⟩
      refine s_goto 153 dX12_flushed_113 rfl ?_
      exact last _ (by rw [if_neg h0, if_pos h1])
    refine s_iload_n 117 dX12_flushed_116 rfl rfl ?_
    refine s_iconst 118 dX12_flushed_117 rfl ?_
    refine s_icmp_ne 121 130 dX12_flushed_118 rfl rfl (fun h2 => ?_) (fun h2 => ?_)
    rotate_left
    · refine s_aload_n 122 dX12_flushed_121 rfl rfl ?_
      refine s_bipush 124 dX12_flushed_122 rfl (k := ?_)
      refine s_V1i 127 dX12_flushed_124 rfl km_X12_sumOf ml_X12_401 ds_X12_sumOf (Nat.le_of_ble_eq_true rfl) m_rec rfl (c_sumOf (f := fun c => (s2.2.2.2.2 c).1 5) rfl (fun c hc => (x3.2.2.2.2.2.2.2.2 c hc).1.2.2.2.2.2.2.1) (by omega) hru2 hwr ?_)
      refine ⟨_, rfl, ?_⟩
      refine s_goto 153 dX12_flushed_127 rfl ?_
      exact last _ (by rw [if_neg h0, if_neg h1, if_pos h2])
    refine s_iload_n 131 dX12_flushed_130 rfl rfl ?_
    refine s_iconst 132 dX12_flushed_131 rfl ?_
    refine s_icmp_ne 135 143 dX12_flushed_132 rfl rfl (fun h3 => ?_) (fun h3 => ?_)
    rotate_left
    · refine s_aload_n 136 dX12_flushed_135 rfl rfl ?_
      refine s_iconst 137 dX12_flushed_136 rfl ?_
      refine s_V1i 140 dX12_flushed_137 rfl km_X12_sumOf ml_X12_401 ds_X12_sumOf (Nat.le_of_ble_eq_true rfl) m_rec rfl (c_sumOf (f := fun c => ((s2.2.2.2.2 c).2.1.length : Int)) rfl (fun c hc => (x3.2.2.2.2.2.2.2.2 c hc).1.2.1) (by omega) hru2 hwr ?_)
      refine ⟨_, rfl, ?_⟩
      refine s_goto 153 dX12_flushed_140 rfl ?_
      exact last _ (by rw [if_neg h0, if_neg h1, if_neg h2, if_pos h3])
    refine s_aload_n 144 dX12_flushed_143 rfl rfl ?_
    refine m_getV (k := 16) 147 dX12_flushed_144 rfl fl_X12_16 (by decide) rfl ?_
    refine s_sipush 150 dX12_flushed_147 rfl (k := ?_)
    refine m_ald 151 3 9309 dX12_flushed_150 rfl (by decide) rfl (fun hr150 => ?_)
    rw [x3.2.2.2.2.2.2.1]
    refine s_iload_n 152 dX12_flushed_151 rfl rfl ?_
    refine s_isub 153 dX12_flushed_152 rfl ?_
    exact last _ (by rw [if_neg h0, if_neg h1, if_neg h2, if_neg h3])
  -- all that can be put is put
  have puts : ∀ (k : Nat) (s2 : ST) (b2 : Int) (I2 : Nat → Int) (A2 : Nat → Int → Int), WfSt b2 (ru 5).toNat s2 → ¬ canF ru (putN ru k s2).2 → frI [26, 28, 29] (up I 0 0) I2 → frA [3, 5, 6] A1 A2 → RepSt (ru 5).toNat (A2 3) s2 → (∀ (I4 : Nat → Int) (A4 : Nat → Int → Int), frI [26, 28, 29] (up I 0 0) I4 → frA [3, 5, 6] A1 A4 → RepSt (ru 5).toNat (A4 3) (putN ru k s2).2 → V G (AM G m0 F n u) yX12_flushed cX12_flushed 5 (some .int) (d + 8) (I4, A4, D) 62 [some (.ref m0), some (vi z), some (vi (s.2.2.1 2)), none, none] [] post) → V G (AM G m0 F n u) yX12_flushed cX12_flushed 5 (some .int) (d + 8) (I2, A2, D) 48 [some (.ref m0), some (vi z), some (vi (s.2.2.1 2)), none, some (vb true)] [] post := by
    intro k
    induction k with
    | zero =>
      intro s2 b2 I2 A2 hw2 hn x1 x2 x3 kont
      have hn : ¬ canF ru s2 := hn
      refine s_iloadb 50 dX12_flushed_48 rfl rfl ?_
      refine s_if_eqb 53 62 dX12_flushed_50 rfl rfl (fun g3 => ?_) (fun g3 => ?_)
      · exact absurd g3 (by decide)
      refine s_aload_n 54 dX12_flushed_53 rfl rfl ?_
      refine s_V0b 57 dX12_flushed_54 rfl km_X12_putsOne ml_X12_312 ds_X12_putsOne (Nat.le_of_ble_eq_true rfl) m_rec rfl (c_putsOne rfl x3 hw2 (hru1.fr x1 (by decide)) hwr (fun hc => absurd hc hn) (fun hc I3 A3 y1 y2 => ?_))
      refine ⟨_, rfl, ?_⟩
      refine s_istoreb 59 dX12_flushed_57 rfl (Nat.le_of_ble_eq_true rfl) rfl ?_
      refine s_goto 48 dX12_flushed_59 rfl ?_
      refine s_iloadb 50 dX12_flushed_48 rfl rfl ?_
      refine s_if_eqb 53 62 dX12_flushed_50 rfl rfl (fun g4 => ?_) (fun g4 => ?_)
      · exact V_kill 4 (kont I3 A3 (x1.trans y1 (by decide)) (x2.trans y2 (by decide)) (by rw [y2 3 (by decide)]; exact x3))
      · exact absurd g4 (by decide)
    | succ k ih =>
      intro s2 b2 I2 A2 hw2 hn x1 x2 x3 kont
      refine s_iloadb 50 dX12_flushed_48 rfl rfl ?_
      refine s_if_eqb 53 62 dX12_flushed_50 rfl rfl (fun g3 => ?_) (fun g3 => ?_)
      · exact absurd g3 (by decide)
      refine s_aload_n 54 dX12_flushed_53 rfl rfl ?_
      refine s_V0b 57 dX12_flushed_54 rfl km_X12_putsOne ml_X12_312 ds_X12_putsOne (Nat.le_of_ble_eq_true rfl) m_rec rfl (c_putsOne rfl x3 hw2 (hru1.fr x1 (by decide)) hwr (fun hc I3 A3 y1 y2 y3 => ?_) (fun hc I3 A3 y1 y2 => ?_))
      refine ⟨_, rfl, ?_⟩
      · refine s_istoreb 59 dX12_flushed_57 rfl (Nat.le_of_ble_eq_true rfl) rfl ?_
        refine s_goto 48 dX12_flushed_59 rfl ?_
        rw [putN_y hc] at hn kont
        exact ih (putF ru s2) b2 I3 A3 (putF_wf hw2 hwr rfl hc) hn (x1.trans y1 (by decide)) (x2.trans y2 (by decide)) y3 kont
      · refine ⟨_, rfl, ?_⟩
        refine s_istoreb 59 dX12_flushed_57 rfl (Nat.le_of_ble_eq_true rfl) rfl ?_
        refine s_goto 48 dX12_flushed_59 rfl ?_
        refine s_iloadb 50 dX12_flushed_48 rfl rfl ?_
        rw [putN_n hc] at kont
        refine s_if_eqb 53 62 dX12_flushed_50 rfl rfl (fun g4 => ?_) (fun g4 => ?_)
        · exact V_kill 4 (kont I3 A3 (x1.trans y1 (by decide)) (x2.trans y2 (by decide)) (by rw [y2 3 (by decide)]; exact x3))
        · exact absurd g4 (by decide)
  have round : ∀ (f : Nat) (s2 : ST) (b2 : Int) (I2 : Nat → Int) (A2 : Nat → Int → Int), roundF s2 (ru 5).toNat ≤ f → WfSt b2 (ru 5).toNat s2 → b2 + 12000 * f ≤ 92000000 → frI [26, 28, 29] (up I 0 0) I2 → frA [3, 5, 6] A1 A2 → RepSt (ru 5).toNat (A2 3) s2 → fluF ru 60 s = fluF ru (f + 1) s2 → V G (AM G m0 F n u) yX12_flushed cX12_flushed 5 (some .int) (d + 8) (I2, A2, D) 41 [some (.ref m0), some (vi z), some (vi (s.2.2.1 2)), some (vb true), none] [] post := by
    intro f
    induction f with
    | zero =>
      intro s2 b2 I2 A2 hf hw2 hb2 x1 x2 x3 x4
      obtain ⟨i1, i2, i3, i4⟩ := putN_ok hwr rfl 60 s2 hw2
      have hcr := crd_rg hw2 (by omega)
      have hz0 : (putN ru 60 s2).2.1.length = 0 := by
        by_cases h : (putN ru 60 s2).2.1.length = 0
        · exact h
        · have h1 := round_less hwr rfl hw2 h
          have h2 := crd_rg (readF_wf (k := (putN ru 60 s2).2.1.length) i1 hwr rfl) (show (ru 5).toNat ≤ 4 by omega)
          unfold roundF at hf h1
          rw [readF_all] at h1
          rw [if_pos (show ([] : List Int).length = 0 from rfl)] at h1
          omega
      refine s_iload_nb 42 dX12_flushed_41 rfl rfl ?_
      refine s_if_eqb 45 90 dX12_flushed_42 rfl rfl (fun g3 => ?_) (fun g3 => ?_)
      · exact absurd g3 (by decide)
      refine s_iconst 46 dX12_flushed_45 rfl ?_
      refine s_istoreb (z := true) 48 dX12_flushed_46 rfl (Nat.le_of_ble_eq_true rfl) rfl ?_
      refine V_kill 3 (puts 60 s2 b2 I2 A2 hw2 (i4 (by omega)) x1 x2 x3 (fun I4 A4 y1 y2 y3 => ?_))
      have e0 : A4 3 0 = 0 := by rw [y3.1, hz0]; rfl
      refine s_aload_n 63 dX12_flushed_62 rfl rfl ?_
      refine m_getV (k := 16) 66 dX12_flushed_63 rfl fl_X12_16 (by decide) rfl ?_
      refine s_iconst 67 dX12_flushed_66 rfl ?_
      refine m_ald 68 3 9309 dX12_flushed_67 rfl (by decide) rfl (fun hr67 => ?_)
      rw [e0]
      refine s_if_le 71 75 dX12_flushed_68 rfl rfl (fun g5 => ?_) (fun g5 => ?_)
      rotate_left
      · omega
      refine s_iconst 76 dX12_flushed_75 rfl ?_
      refine s_istore_nb (z := false) 77 dX12_flushed_76 rfl (Nat.le_of_ble_eq_true rfl) rfl ?_
      refine s_aload_n 78 dX12_flushed_77 rfl rfl ?_
      refine s_aload_n 79 dX12_flushed_78 rfl rfl ?_
      refine m_getV (k := 16) 82 dX12_flushed_79 rfl fl_X12_16 (by decide) rfl ?_
      refine s_iconst 83 dX12_flushed_82 rfl ?_
      refine m_ald 84 3 9309 dX12_flushed_83 rfl (by decide) rfl (fun hr83 => ?_)
      rw [e0]
      refine s_V1v 87 dX12_flushed_84 rfl km_X12_readsBytes ml_X12_376 ds_X12_readsBytes (Nat.le_of_ble_eq_true rfl) m_rec rfl (c_readsBytes (k0 := 0) rfl y3 i1 (by omega) (hru1.fr y1 (by decide)) hwr (Nat.zero_le _) (fun I5 A5 z1 z2 z3 => ?_))
      refine ⟨rfl, ?_⟩
      refine s_goto 41 dX12_flushed_87 rfl ?_
      refine s_iload_nb 42 dX12_flushed_41 rfl rfl ?_
      refine s_if_eqb 45 90 dX12_flushed_42 rfl rfl (fun g6 => ?_) (fun g6 => ?_)
      rotate_left
      · exact absurd g6 (by decide)
      refine V_kill 3 (fin I5 A5 (putN ru 60 s2).2 b2 (y1.trans z1 (by decide)) (y2.trans z2 (by decide)) z3 i1 (by omega) ?_)
      rw [x4, fluF, if_pos hz0]
    | succ f ih =>
      intro s2 b2 I2 A2 hf hw2 hb2 x1 x2 x3 x4
      obtain ⟨i1, i2, i3, i4⟩ := putN_ok hwr rfl 60 s2 hw2
      have hcr := crd_rg hw2 (by omega)
      refine s_iload_nb 42 dX12_flushed_41 rfl rfl ?_
      refine s_if_eqb 45 90 dX12_flushed_42 rfl rfl (fun g3 => ?_) (fun g3 => ?_)
      · exact absurd g3 (by decide)
      refine s_iconst 46 dX12_flushed_45 rfl ?_
      refine s_istoreb (z := true) 48 dX12_flushed_46 rfl (Nat.le_of_ble_eq_true rfl) rfl ?_
      refine V_kill 3 (puts 60 s2 b2 I2 A2 hw2 (i4 (by omega)) x1 x2 x3 (fun I4 A4 y1 y2 y3 => ?_))
      have e0 : A4 3 0 = ((putN ru 60 s2).2.1.length : Nat) := y3.1
      have hl4 := i1.1
      by_cases hz0 : (putN ru 60 s2).2.1.length = 0
      · rw [hz0] at e0
        have e0 : A4 3 0 = 0 := e0
        refine s_aload_n 63 dX12_flushed_62 rfl rfl ?_
        refine m_getV (k := 16) 66 dX12_flushed_63 rfl fl_X12_16 (by decide) rfl ?_
        refine s_iconst 67 dX12_flushed_66 rfl ?_
        refine m_ald 68 3 9309 dX12_flushed_67 rfl (by decide) rfl (fun hr67 => ?_)
        rw [e0]
        refine s_if_le 71 75 dX12_flushed_68 rfl rfl (fun g5 => ?_) (fun g5 => ?_)
        rotate_left
        · omega
        refine s_iconst 76 dX12_flushed_75 rfl ?_
        refine s_istore_nb (z := false) 77 dX12_flushed_76 rfl (Nat.le_of_ble_eq_true rfl) rfl ?_
        refine s_aload_n 78 dX12_flushed_77 rfl rfl ?_
        refine s_aload_n 79 dX12_flushed_78 rfl rfl ?_
        refine m_getV (k := 16) 82 dX12_flushed_79 rfl fl_X12_16 (by decide) rfl ?_
        refine s_iconst 83 dX12_flushed_82 rfl ?_
        refine m_ald 84 3 9309 dX12_flushed_83 rfl (by decide) rfl (fun hr83 => ?_)
        rw [e0]
        refine s_V1v 87 dX12_flushed_84 rfl km_X12_readsBytes ml_X12_376 ds_X12_readsBytes (Nat.le_of_ble_eq_true rfl) m_rec rfl (c_readsBytes (k0 := 0) rfl y3 i1 (by omega) (hru1.fr y1 (by decide)) hwr (Nat.zero_le _) (fun I5 A5 z1 z2 z3 => ?_))
        refine ⟨rfl, ?_⟩
        refine s_goto 41 dX12_flushed_87 rfl ?_
        refine s_iload_nb 42 dX12_flushed_41 rfl rfl ?_
        refine s_if_eqb 45 90 dX12_flushed_42 rfl rfl (fun g6 => ?_) (fun g6 => ?_)
        rotate_left
        · exact absurd g6 (by decide)
        refine V_kill 3 (fin I5 A5 (putN ru 60 s2).2 b2 (y1.trans z1 (by decide)) (y2.trans z2 (by decide)) z3 i1 (by omega) ?_)
        rw [x4, fluF, if_pos hz0]
      · have hless := round_less hwr rfl hw2 hz0
        refine s_aload_n 63 dX12_flushed_62 rfl rfl ?_
        refine m_getV (k := 16) 66 dX12_flushed_63 rfl fl_X12_16 (by decide) rfl ?_
        refine s_iconst 67 dX12_flushed_66 rfl ?_
        refine m_ald 68 3 9309 dX12_flushed_67 rfl (by decide) rfl (fun hr67 => ?_)
        rw [e0]
        refine s_if_le 71 75 dX12_flushed_68 rfl rfl (fun g5 => ?_) (fun g5 => ?_)
        · omega
        refine s_iconst 72 dX12_flushed_71 rfl ?_
        refine s_goto 76 dX12_flushed_72 rfl ?_
        refine s_istore_nb (z := true) 77 dX12_flushed_76 rfl (Nat.le_of_ble_eq_true rfl) rfl ?_
        refine s_aload_n 78 dX12_flushed_77 rfl rfl ?_
        refine s_aload_n 79 dX12_flushed_78 rfl rfl ?_
        refine m_getV (k := 16) 82 dX12_flushed_79 rfl fl_X12_16 (by decide) rfl ?_
        refine s_iconst 83 dX12_flushed_82 rfl ?_
        refine m_ald 84 3 9309 dX12_flushed_83 rfl (by decide) rfl (fun hr83 => ?_)
        rw [e0]
        refine s_V1v 87 dX12_flushed_84 rfl km_X12_readsBytes ml_X12_376 ds_X12_readsBytes (Nat.le_of_ble_eq_true rfl) m_rec rfl (c_readsBytes rfl y3 i1 (by omega) (hru1.fr y1 (by decide)) hwr (Nat.le_refl _) (fun I5 A5 z1 z2 z3 => ?_))
        refine ⟨rfl, ?_⟩
        refine s_goto 41 dX12_flushed_87 rfl ?_
        refine ih (readF ru (putN ru 60 s2).2 (putN ru 60 s2).2.1.length) (b2 + 12000) I5 A5 (by omega) (readF_wf i1 hwr rfl) (by omega) (y1.trans z1 (by decide)) (y2.trans z2 (by decide)) z3 ?_
        rw [x4, fluF, if_neg hz0]
  have hcr := crd_rg hws (by omega)
  refine round 59 s b (up I 0 0) A1 ?_ hws (by omega) frI.rf frA.rf hs1 rfl
  unfold roundF
  split <;> omega
end M39
