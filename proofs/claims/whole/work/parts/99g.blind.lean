/-! ===== blind, as the program counts ===== -/
def bc1 (ru : RU) (bs : List Int) (p : Nat) (left : Int) : Nat → Nat → Int
  | 0, _ => 0
  | m + 1, v => (if ¬ (v : Int) = bs.getD p 0 ∧ ¬ rnO (ru 1).toNat (ru 2).toNat (ru 0) v left = -1 ∧ judK ru (bs.set p (v : Int)) = 0 then 1 else 0) + bc1 ru bs p left m (v + 1)
def bcP (ru : RU) (bs : List Int) (p : Nat) : Int := bc1 ru bs p ((bs.length : Int) - p - 1) 255 1
def rnP (ru : RU) (bs : List Int) (p : Nat) : Int := rnO (ru 1).toNat (ru 2).toNat (ru 0) (bs.getD p 0) ((bs.length : Int) - p - 1)
def bP (ru : RU) (bs : List Int) : Nat → Nat → Int
  | 0, _ => 0
  | f + 1, p => if bs.length ≤ p ∨ rnP ru bs p = -1 then 0 else bcP ru bs p + (if ru 3 = 0 then 254 * rnP ru bs p - (if p = 0 ∧ 0 < rnP ru bs p then 256 - 64 * ru 5 else 0) else 0) + bP ru bs f (p + 1 + (rnP ru bs p).toNat)
theorem judK_kind {ru : RU} {bs : List Int} (hb : byt bs) : judK ru bs = 0 ∨ judK ru bs = 2 ∨ judK ru bs = 3 ∨ judK ru bs = 4 := by
  unfold judK
  split
  · exact Or.inr (Or.inl rfl)
  · exact judge_kind hb
section BLIND
variable {G : GT} {F : HS} {d : Nat} {T : Nat → Nat} {N : Nat → Nat → Int} {R : Nat → List Int} {P : Nat → Nat → Option Nat} {S : Nat → Int64} {cn un : Nat} {post : Option Value → PT → Prop} {x : Nat} {ru : RU} {bs : List Int}
theorem q_blindCodes {p : Nat} {left : Int} (hS : FrS T x) (hru : RuP N (x + 1) ru) (hwr : WfRu ru) (hR : R (x + 8) = bs) (hb : byt bs) (hlen : bs.length ≤ 200) (hp0 : p < bs.length) (hleft : left = (bs.length : Int) - p - 1) (hp : ∀ N' R', frO x (x + 1) N N' → (∀ y, y ≠ x + 4 → R' y = R y) → post (some (vi (bcP ru bs p))) (T, N', R', P, S, cn, un)) : Cm G (AP G F) yX1_blindCodes cX1_blindCodes 6 (some .int) (d + 5) [.ref x, vi p, vi left] (T, N, R, P, S, cn, un) post := by
  obtain ⟨t0, t1, t2, t3, t4⟩ := id hS
  have s0 := t1.1
  have s1 := t1.2.1
  have hby := byt_at hb p
  obtain ⟨w0, w1, w2, w3, w4, w5⟩ := hwr
  have ha : atF bs (p : Int) = bs.getD p 0 := atF_in hp0
  refine Cm_intro (L := [some (.ref x), some (vi p), some (vi left), none, none, none]) (by decide +kernel) (Nat.le_of_ble_eq_true rfl) rfl ?_
  have key : ∀ (m v : Nat) (ac c' : Int) (N1 : Nat → Nat → Int) (R1 : Nat → List Int), v + m = 256 → 1 ≤ v → (0 ≤ ac ∧ ac ≤ v) → (0 ≤ c' ∧ c' ≤ 255) → frO x (x + 1) N N1 → (∀ y, y ≠ x + 4 → y ≠ x + 8 → R1 y = R y) → R1 (x + 8) = bs.set p c' → bcP ru bs p = ac + bc1 ru bs p left m v → V G (AP G F) yX1_blindCodes cX1_blindCodes 6 (some .int) (d + 5) (T, N1, R1, P, S, cn, un) 15 [some (.ref x), some (vi p), some (vi left), some (vi ac), some (vi (bs.getD p 0)), some (vi (v : Int))] [] post := by
    intro m
    induction m with
    | zero =>
      intro v ac c' N1 R1 hv hv1 hac hc' f1 f2 e1 hbc
      refine s_iload 17 dX1_blindCodes_15 rfl rfl ?_
      refine s_sipush 20 dX1_blindCodes_17 rfl (k := ?_)
      refine s_icmp_gt 23 97 dX1_blindCodes_20 rfl rfl (fun g1 => ?_) (fun g1 => ?_)
      rotate_left
      · omega
      refine s_aload_n 98 dX1_blindCodes_97 rfl rfl ?_
      refine g_X1_tried 101 dX1_blindCodes_98 rfl fl_X1_30 ?_
      refine s_iload_n 102 dX1_blindCodes_101 rfl rfl ?_
      refine s_iload 104 dX1_blindCodes_102 rfl rfl ?_
      refine s_V2v 107 dX1_blindCodes_104 rfl km_X5_set ml_X1_124 ds_X5_set (Nat.le_of_ble_eq_true rfl) (q_recR (by assumption)) rfl (r_setK t4 e1 (by rw [List.length_set]; omega) (by unfold rg; omega) (by unfold rg; omega) ?_)
      refine ⟨rfl, ?_⟩
      refine s_iload_n 108 dX1_blindCodes_107 rfl rfl ?_
      refine s_ireturn rfl dX1_blindCodes_108 ?_
      have e9 : (bs.set p c').set (p : Int).toNat (bs.getD p 0) = bs := by
        rw [show (p : Int).toNat = p from rfl, List.set_set]
        refine List.ext_getElem? (fun j => ?_)
        by_cases ej : j = p
        · rw [ej, List.getElem?_set_self hp0, List.getD_eq_getElem?_getD, List.getElem?_eq_getElem hp0]; rfl
        · rw [List.getElem?_set_ne (Ne.symm ej)]
      rw [e9]
      have := hp N1 (up R1 (x + 8) bs) f1 (fun y hy => by
        by_cases ey : y = x + 8
        · rw [ey, up_s]; exact hR.symm
        · rw [up_n ey]; exact f2 y hy ey)
      rw [hbc, show bc1 ru bs p left 0 v = 0 from rfl, Int.add_zero] at this
      exact this
    | succ m ih =>
      intro v ac c' N1 R1 hv hv1 hac hc' f1 f2 e1 hbc
      have hru1 : RuP N1 (x + 1) ru := hru.fr f1 (by omega)
      have hbc2 : bcP ru bs p = ac + ((if ¬ (v : Int) = bs.getD p 0 ∧ ¬ rnO (ru 1).toNat (ru 2).toNat (ru 0) v left = -1 ∧ judK ru (bs.set p (v : Int)) = 0 then 1 else 0) + bc1 ru bs p left m (v + 1)) := hbc
      refine s_iload 17 dX1_blindCodes_15 rfl rfl ?_
      refine s_sipush 20 dX1_blindCodes_17 rfl (k := ?_)
      refine s_icmp_gt 23 97 dX1_blindCodes_20 rfl rfl (fun g1 => ?_) (fun g1 => ?_)
      · omega
      refine s_iload 25 dX1_blindCodes_23 rfl rfl ?_
      refine s_iload 27 dX1_blindCodes_25 rfl rfl ?_
      refine s_icmp_eq 30 91 dX1_blindCodes_27 rfl rfl (fun g2 => ?_) (fun g2 => ?_)
      · refine s_iinc 94 dX1_blindCodes_91 rfl rfl (Nat.le_of_ble_eq_true rfl) rfl ?_
        refine s_goto 15 dX1_blindCodes_94 rfl ?_
        refine ih (v + 1) ac c' N1 R1 (by omega) (by omega) (by omega) hc' f1 f2 e1 ?_
        rw [hbc2, if_neg (fun hn => hn.1 g2), Int.zero_add]
      refine s_aload_n 31 dX1_blindCodes_30 rfl rfl ?_
      refine g_X1_rules 34 dX1_blindCodes_31 rfl fl_X1_12 ?_
      refine g_X6_stuffing 37 dX1_blindCodes_34 rfl fl_X1_82 ?_
      refine s_iload 39 dX1_blindCodes_37 rfl rfl ?_
      refine s_iload_n 40 dX1_blindCodes_39 rfl rfl ?_
      refine s_aload_n 41 dX1_blindCodes_40 rfl rfl ?_
      refine g_X1_rules 44 dX1_blindCodes_41 rfl fl_X1_12 ?_
      refine g_X6_way 47 dX1_blindCodes_44 rfl fl_X1_86 (fun hr44 => ?_)
      rw [hru1.1]
      have hrr := rnO_rg (L := (ru 1).toNat) (Z := (ru 2).toNat) (way := ru 0) (c := v) (left := left) (by omega)
      refine s_V3i 50 dX1_blindCodes_47 rfl km_X8_runOf ml_X1_117 ds_X8_runOf (Nat.le_of_ble_eq_true rfl) (q_rec (by assumption)) rfl (q_runOf (d := d + 3) s1 (Ln := (ru 1).toNat) (Zn := (ru 2).toNat) (by rw [hru1.2.1]; omega) (by rw [hru1.2.2.1]; omega) (by omega) (by omega) (by omega) (by omega) (by omega) ?_)
      refine ⟨_, rfl, ?_⟩
      refine s_iconst 51 dX1_blindCodes_50 rfl ?_
      refine s_icmp_eq 54 91 dX1_blindCodes_51 rfl rfl (fun g3 => ?_) (fun g3 => ?_)
      · refine s_iinc 94 dX1_blindCodes_91 rfl rfl (Nat.le_of_ble_eq_true rfl) rfl ?_
        refine s_goto 15 dX1_blindCodes_94 rfl ?_
        refine ih (v + 1) ac c' N1 R1 (by omega) (by omega) (by omega) hc' f1 f2 e1 ?_
        rw [hbc2, if_neg (fun hn => hn.2.1 g3), Int.zero_add]
      refine s_aload_n 55 dX1_blindCodes_54 rfl rfl ?_
      refine g_X1_tried 58 dX1_blindCodes_55 rfl fl_X1_30 ?_
      refine s_iload_n 59 dX1_blindCodes_58 rfl rfl ?_
      refine s_iload 61 dX1_blindCodes_59 rfl rfl ?_
      refine s_V2v 64 dX1_blindCodes_61 rfl km_X5_set ml_X1_124 ds_X5_set (Nat.le_of_ble_eq_true rfl) (q_recR (by assumption)) rfl (r_setK t4 e1 (by rw [List.length_set]; omega) (by unfold rg; omega) (by unfold rg; omega) ?_)
      refine ⟨rfl, ?_⟩
      rw [show (p : Int).toNat = p from rfl, List.set_set]
      have hb2 : byt (bs.set p (v : Int)) := fun y hy => by
        rcases List.mem_or_eq_of_mem_set hy with h | h
        · exact hb y h
        · rw [h]; omega
      have hl2 : (bs.set p (v : Int)).length = bs.length := List.length_set
      refine s_iload_n 65 dX1_blindCodes_64 rfl rfl ?_
      refine s_aload_n 66 dX1_blindCodes_65 rfl rfl ?_
      refine s_aload_n 67 dX1_blindCodes_66 rfl rfl ?_
      refine g_X1_tried 70 dX1_blindCodes_67 rfl fl_X1_30 ?_
      refine s_iconst 71 dX1_blindCodes_70 rfl ?_
      refine s_aload_n 72 dX1_blindCodes_71 rfl rfl ?_
      refine g_X1_tried 75 dX1_blindCodes_72 rfl fl_X1_30 ?_
      refine g_X5_size 78 dX1_blindCodes_75 rfl fl_X1_77 ?_
      rw [up_s]
      refine s_V3i 81 dX1_blindCodes_78 rfl km_X1_judge ml_X1_128 ds_X1_judge (Nat.le_of_ble_eq_true rfl) (q_rec (by assumption)) rfl (q_judge (d := d) hS hru1 ⟨w0, w1, w2, w3, w4, w5⟩ t4 (by omega) (up_s _ _ _) hb2 (by rw [hl2]; omega) (fr := 0) (bs := bs.set p (v : Int)) (by rw [List.drop_zero, List.take_length]) (by omega) (fun N2 R2 f3 f4 _ => ?_))
      refine ⟨_, rfl, ?_⟩
      have hkd := judK_kind (ru := ru) hb2
      have c1 : frO x (x + 1) N N2 := f1.trans f3 (by omega)
      have c2 : ∀ y, y ≠ x + 4 → y ≠ x + 8 → R2 y = R y := fun y y1 y2 => by rw [f4 y (by omega), up_n y2, f2 y y1 y2]
      have c3 : R2 (x + 8) = bs.set p (v : Int) := by rw [f4 _ (by omega), up_s]
      refine s_if_ne 84 88 dX1_blindCodes_81 rfl rfl (fun g4 => ?_) (fun g4 => ?_)
      · refine s_iconst 89 dX1_blindCodes_88 rfl ?_
        refine s_iadd 90 dX1_blindCodes_89 rfl ?_
        refine s_istore_n 91 dX1_blindCodes_90 rfl (Nat.le_of_ble_eq_true rfl) rfl ?_
        refine s_iinc 94 dX1_blindCodes_91 rfl rfl (Nat.le_of_ble_eq_true rfl) rfl ?_
        refine s_goto 15 dX1_blindCodes_94 rfl ?_
        refine ih (v + 1) (ac + 0) v N2 R2 (by omega) (by omega) (by omega) (by omega) c1 c2 c3 ?_
        rw [hbc2, if_neg (fun hn => g4 hn.2.2), Int.zero_add, Int.add_zero]
      · refine s_iconst 85 dX1_blindCodes_84 rfl ?_
        refine s_goto 89 dX1_blindCodes_85 rfl ?_
        refine s_iadd 90 dX1_blindCodes_89 rfl ?_
        refine s_istore_n 91 dX1_blindCodes_90 rfl (Nat.le_of_ble_eq_true rfl) rfl ?_
        refine s_iinc 94 dX1_blindCodes_91 rfl rfl (Nat.le_of_ble_eq_true rfl) rfl ?_
        refine s_goto 15 dX1_blindCodes_94 rfl ?_
        refine ih (v + 1) (ac + 1) v N2 R2 (by omega) (by omega) (by omega) (by omega) c1 c2 c3 ?_
        rw [hbc2, if_pos ⟨g2, g3, by omega⟩, Int.add_assoc]
  refine s_iconst 1 dX1_blindCodes_0 rfl ?_
  refine s_istore_n 2 dX1_blindCodes_1 rfl (Nat.le_of_ble_eq_true rfl) rfl ?_
  refine s_aload_n 3 dX1_blindCodes_2 rfl rfl ?_
  refine g_X1_tried 6 dX1_blindCodes_3 rfl fl_X1_30 ?_
  refine s_iload_n 7 dX1_blindCodes_6 rfl rfl ?_
  refine s_V1i 10 dX1_blindCodes_7 rfl km_X5_at ml_X1_95 ds_X5_at (Nat.le_of_ble_eq_true rfl) (q_recR (by assumption)) rfl (r_atK t4 hR (by unfold rg; omega) (fun _ => ?_))
  refine ⟨_, rfl, ?_⟩
  rw [ha]
  refine s_istore 12 dX1_blindCodes_10 rfl (Nat.le_of_ble_eq_true rfl) rfl ?_
  refine s_iconst 13 dX1_blindCodes_12 rfl ?_
  refine s_istore 15 dX1_blindCodes_13 rfl (Nat.le_of_ble_eq_true rfl) rfl ?_
  refine key 255 1 0 (bs.getD p 0) N R (by omega) (by omega) (by omega) hby frO.rf (fun _ _ _ => rfl) ?_ ?_
  · rw [hR]
    refine List.ext_getElem? (fun j => ?_)
    by_cases ej : j = p
    · rw [ej, List.getElem?_set_self hp0, List.getD_eq_getElem?_getD, List.getElem?_eq_getElem hp0]; rfl
    · rw [List.getElem?_set_ne (Ne.symm ej)]
  · unfold bcP
    rw [hleft, Int.zero_add]
theorem q_blindFlips {z lz fr : Nat} {src : List Int} (hS : FrS T x) (hru : RuP N (x + 1) ru) (hwr : WfRu ru) (hz : T z = 100 + lz) (hzl : lz ≤ 1000) (hne : z < x + 4 ∨ x + 10 ≤ z) (hR : R z = src) (hb : byt src) (hsl : src.length ≤ 1000) (hbs : bs = (src.drop fr).take bs.length) (hfr : fr + bs.length ≤ src.length) (hlen : bs.length ≤ 200) (hp : ∀ N' R', frO x (x + 1) N N' → (∀ y, y ≠ x + 4 → y ≠ x + 8 → R' y = R y) → post (some (vi (bP ru bs bs.length 0))) (T, N', R', P, S, cn, un)) : Cm G (AP G F) yX1_blindFlips cX1_blindFlips 9 (some .int) (d + 6) [.ref x, .ref z, vi fr, vi bs.length] (T, N, R, P, S, cn, un) post := by
  obtain ⟨t0, t1, t2, t3, t4⟩ := id hS
  have s0 := t1.1
  have s1 := t1.2.1
  have hb2 : byt bs := by rw [hbs]; exact byt_take (byt_drop hb _) _
  refine Cm_intro (L := [some (.ref x), some (.ref z), some (vi fr), some (vi bs.length), none, none, none, none, none]) (by decide +kernel) (Nat.le_of_ble_eq_true rfl) rfl ?_
  have key : ∀ (f p k : Nat) (ac : Int) (o7 o8 : Option Value) (N1 : Nat → Nat → Int) (R1 : Nat → List Int), bs.length ≤ f + k → k ≤ p → p ≤ bs.length → frO x (x + 1) N N1 → (∀ y, y ≠ x + 4 → y ≠ x + 8 → R1 y = R y) → R1 (x + 8) = bs → bP ru bs bs.length 0 = ac + bP ru bs f p → V G (AP G F) yX1_blindFlips cX1_blindFlips 9 (some .int) (d + 6) (T, N1, R1, P, S, cn, un) 26 [some (.ref x), some (.ref z), some (vi fr), some (vi bs.length), some (vi ac), some (vi (p : Int)), some (vi (k : Int)), o7, o8] [] post := by
    intro f
    induction f with
    | zero =>
      intro p k ac o7 o8 N1 R1 hk hkp hpl f1 f2 e1 hbp
      refine s_iload 28 dX1_blindFlips_26 rfl rfl ?_
      refine s_iload_n 29 dX1_blindFlips_28 rfl rfl ?_
      refine s_icmp_ge 32 163 dX1_blindFlips_29 rfl rfl (fun g1 => ?_) (fun g1 => ?_)
      rotate_left
      · omega
      refine s_iload 165 dX1_blindFlips_163 rfl rfl ?_
      refine s_ireturn rfl dX1_blindFlips_165 ?_
      have := hp N1 R1 f1 f2
      rw [hbp, show bP ru bs 0 p = 0 from rfl, Int.add_zero] at this
      exact this
    | succ f ih =>
      intro p k ac o7 o8 N1 R1 hk hkp hpl f1 f2 e1 hbp
      have hru1 : RuP N1 (x + 1) ru := hru.fr f1 (by omega)
      obtain ⟨w0, w1, w2, w3, w4, w5⟩ := id hwr
      have hdone : bs.length ≤ p ∨ rnP ru bs p = -1 → bP ru bs (f + 1) p = 0 := fun hn => by
        rw [bP, if_pos hn]
      refine s_iload 28 dX1_blindFlips_26 rfl rfl ?_
      refine s_iload_n 29 dX1_blindFlips_28 rfl rfl ?_
      refine s_icmp_ge 32 163 dX1_blindFlips_29 rfl rfl (fun g1 => ?_) (fun g1 => ?_)
      · refine s_iload 165 dX1_blindFlips_163 rfl rfl ?_
        refine s_ireturn rfl dX1_blindFlips_165 ?_
        have := hp N1 R1 f1 f2
        rw [hbp, hdone (Or.inl (by omega)), Int.add_zero] at this
        exact this
      refine s_iload 34 dX1_blindFlips_32 rfl rfl ?_
      refine s_iload_n 35 dX1_blindFlips_34 rfl rfl ?_
      refine s_icmp_ge 38 163 dX1_blindFlips_35 rfl rfl (fun g2 => ?_) (fun g2 => ?_)
      · omega
      have hp1 : p < bs.length := by omega
      have hby := byt_at hb2 p
      have ha : atF bs (p : Int) = bs.getD p 0 := atF_in hp1
      refine s_iload_n 39 dX1_blindFlips_38 rfl rfl ?_
      refine s_iload 41 dX1_blindFlips_39 rfl rfl ?_
      refine s_isub 42 dX1_blindFlips_41 rfl ?_
      refine s_iconst 43 dX1_blindFlips_42 rfl ?_
      refine s_isub 44 dX1_blindFlips_43 rfl ?_
      refine s_istore 46 dX1_blindFlips_44 rfl (Nat.le_of_ble_eq_true rfl) rfl ?_
      refine s_aload_n 47 dX1_blindFlips_46 rfl rfl ?_
      refine g_X1_rules 50 dX1_blindFlips_47 rfl fl_X1_12 ?_
      refine g_X6_stuffing 53 dX1_blindFlips_50 rfl fl_X1_82 ?_
      refine s_aload_n 54 dX1_blindFlips_53 rfl rfl ?_
      refine g_X1_tried 57 dX1_blindFlips_54 rfl fl_X1_30 ?_
      refine s_iload 59 dX1_blindFlips_57 rfl rfl ?_
      refine s_V1i 62 dX1_blindFlips_59 rfl km_X5_at ml_X1_95 ds_X5_at (Nat.le_of_ble_eq_true rfl) (q_recR (by assumption)) rfl (r_atK t4 e1 (by unfold rg; omega) (fun _ => ?_))
      refine ⟨_, rfl, ?_⟩
      rw [ha]
      refine s_iload 64 dX1_blindFlips_62 rfl rfl ?_
      refine s_aload_n 65 dX1_blindFlips_64 rfl rfl ?_
      refine g_X1_rules 68 dX1_blindFlips_65 rfl fl_X1_12 ?_
      refine g_X6_way 71 dX1_blindFlips_68 rfl fl_X1_86 (fun hr68 => ?_)
      rw [hru1.1]
      have hrr := rnO_rg (L := (ru 1).toNat) (Z := (ru 2).toNat) (way := ru 0) (c := bs.getD p 0) (left := (bs.length : Int) - p - 1) (by omega)
      have hrr : -1 ≤ rnP ru bs p ∧ rnP ru bs p ≤ (bs.length : Int) - p - 1 := hrr
      refine s_V3i 74 dX1_blindFlips_71 rfl km_X8_runOf ml_X1_117 ds_X8_runOf (Nat.le_of_ble_eq_true rfl) (q_rec (by assumption)) rfl (q_runOf (d := d + 4) s1 (Ln := (ru 1).toNat) (Zn := (ru 2).toNat) (by rw [hru1.2.1]; omega) (by rw [hru1.2.2.1]; omega) (by omega) (by omega) (by omega) (by omega) (by omega) ?_)
      refine ⟨_, rfl, ?_⟩
      rw [show rnO (ru 1).toNat (ru 2).toNat (ru 0) (bs.getD p 0) ((bs.length : Int) - p - 1) = rnP ru bs p from rfl]
      refine s_istore 76 dX1_blindFlips_74 rfl (Nat.le_of_ble_eq_true rfl) rfl ?_
      refine s_iload 78 dX1_blindFlips_76 rfl rfl ?_
      refine s_iconst 79 dX1_blindFlips_78 rfl ?_
      refine s_icmp_ne 82 85 dX1_blindFlips_79 rfl rfl (fun g3 => ?_) (fun g3 => ?_)
      rotate_left
      · refine s_iload 84 dX1_blindFlips_82 rfl rfl ?_
        refine s_ireturn rfl dX1_blindFlips_84 ?_
        have := hp N1 R1 f1 f2
        rw [hbp, hdone (Or.inr (by omega)), Int.add_zero] at this
        exact this
      have hbp2 : bP ru bs (f + 1) p = bcP ru bs p + (if ru 3 = 0 then 254 * rnP ru bs p - (if p = 0 ∧ 0 < rnP ru bs p then 256 - 64 * ru 5 else 0) else 0) + bP ru bs f (p + 1 + (rnP ru bs p).toNat) := by
        rw [bP, if_neg (by omega)]
      refine s_iload 87 dX1_blindFlips_85 rfl rfl ?_
      refine s_aload_n 88 dX1_blindFlips_87 rfl rfl ?_
      refine s_iload 90 dX1_blindFlips_88 rfl rfl ?_
      refine s_iload 92 dX1_blindFlips_90 rfl rfl ?_
      refine s_V2i 95 dX1_blindFlips_92 rfl km_X1_blindCodes ml_X1_121 ds_X1_blindCodes (Nat.le_of_ble_eq_true rfl) (q_rec (by assumption)) rfl (q_blindCodes (d := d) hS hru1 hwr e1 hb2 hlen hp1 rfl (fun N2 R2 f3 f4 => ?_))
      refine ⟨_, rfl, ?_⟩
      have hru2 : RuP N2 (x + 1) ru := hru1.fr f3 (by omega)
      have c1 : frO x (x + 1) N N2 := f1.trans f3 (by omega)
      have c2 : ∀ y, y ≠ x + 4 → y ≠ x + 8 → R2 y = R y := fun y y1 y2 => by rw [f4 y y1, f2 y y1 y2]
      have c3 : R2 (x + 8) = bs := by rw [f4 _ (by omega)]; exact e1
      have nxt : ∀ (ac2 : Int), ac2 = ac + bcP ru bs p + (if ru 3 = 0 then 254 * rnP ru bs p - (if p = 0 ∧ 0 < rnP ru bs p then 256 - 64 * ru 5 else 0) else 0) → V G (AP G F) yX1_blindFlips cX1_blindFlips 9 (some .int) (d + 6) (T, N2, R2, P, S, cn, un) 148 [some (.ref x), some (.ref z), some (vi fr), some (vi bs.length), some (vi ac2), some (vi (p : Int)), some (vi (k : Int)), some (vi ((bs.length : Int) - p - 1)), some (vi (rnP ru bs p))] [] post := by
        intro ac2 hac
        refine s_iload 150 dX1_blindFlips_148 rfl rfl ?_
        refine s_iconst 151 dX1_blindFlips_150 rfl ?_
        refine s_iload 153 dX1_blindFlips_151 rfl rfl ?_
        refine s_iadd 154 dX1_blindFlips_153 rfl ?_
        refine s_iadd 155 dX1_blindFlips_154 rfl ?_
        refine s_istore 157 dX1_blindFlips_155 rfl (Nat.le_of_ble_eq_true rfl) rfl ?_
        refine s_iinc 160 dX1_blindFlips_157 rfl rfl (Nat.le_of_ble_eq_true rfl) rfl ?_
        refine s_goto 26 dX1_blindFlips_160 rfl ?_
        rw [show (p : Int) + (1 + rnP ru bs p) = ((p + 1 + (rnP ru bs p).toNat : Nat) : Int) by omega]
        refine ih (p + 1 + (rnP ru bs p).toNat) (k + 1) ac2 _ _ N2 R2 (by omega) (by omega) (by omega) c1 c2 c3 ?_
        rw [hbp, hbp2, hac]
        omega
      refine s_iadd 96 dX1_blindFlips_95 rfl ?_
      refine s_istore 98 dX1_blindFlips_96 rfl (Nat.le_of_ble_eq_true rfl) rfl ?_
      refine s_aload_n 99 dX1_blindFlips_98 rfl rfl ?_
      refine g_X1_rules 102 dX1_blindFlips_99 rfl fl_X1_12 ?_
      refine g_X6_check 105 dX1_blindFlips_102 rfl fl_X1_74 (fun hr102 => ?_)
      rw [hru2.2.2.2.1]
      refine s_if_ne 108 148 dX1_blindFlips_105 rfl rfl (fun g4 => ?_) (fun g4 => ?_)
      · refine nxt _ ?_
        rw [if_neg g4, Int.add_zero]
      refine s_iload 110 dX1_blindFlips_108 rfl rfl ?_
      refine s_sipush 113 dX1_blindFlips_110 rfl (k := ?_)
      refine s_iload 115 dX1_blindFlips_113 rfl rfl ?_
      refine s_imul 116 dX1_blindFlips_115 rfl ?_
      refine s_iadd 117 dX1_blindFlips_116 rfl ?_
      refine s_istore 119 dX1_blindFlips_117 rfl (Nat.le_of_ble_eq_true rfl) rfl ?_
      refine s_iload 121 dX1_blindFlips_119 rfl rfl ?_
      refine s_if_ne 124 148 dX1_blindFlips_121 rfl rfl (fun g5 => ?_) (fun g5 => ?_)
      · refine nxt _ ?_
        rw [if_pos (by omega), if_neg (by omega), Int.sub_zero]
      refine s_iload 126 dX1_blindFlips_124 rfl rfl ?_
      refine s_if_le 129 148 dX1_blindFlips_126 rfl rfl (fun g6 => ?_) (fun g6 => ?_)
      · refine nxt _ ?_
        rw [if_pos (by omega), if_neg (by omega), Int.sub_zero]
      refine s_iload 131 dX1_blindFlips_129 rfl rfl ?_
      refine s_sipush 134 dX1_blindFlips_131 rfl (k := ?_)
      refine s_bipush 136 dX1_blindFlips_134 rfl (k := ?_)
      refine s_aload_n 137 dX1_blindFlips_136 rfl rfl ?_
      refine g_X1_rules 140 dX1_blindFlips_137 rfl fl_X1_12 ?_
      refine g_X6_ports 143 dX1_blindFlips_140 rfl fl_X1_114 (fun hr140 => ?_)
      rw [hru2.2.2.2.2.2]
      refine s_imul 144 dX1_blindFlips_143 rfl ?_
      refine s_isub 145 dX1_blindFlips_144 rfl ?_
      refine s_isub 146 dX1_blindFlips_145 rfl ?_
      refine s_istore 148 dX1_blindFlips_146 rfl (Nat.le_of_ble_eq_true rfl) rfl ?_
      refine nxt _ ?_
      rw [if_pos (by omega), if_pos (by omega)]
      omega
  refine s_aload_n 1 dX1_blindFlips_0 rfl rfl ?_
  refine g_X1_tried 4 dX1_blindFlips_1 rfl fl_X1_30 ?_
  refine s_V0v 7 dX1_blindFlips_4 rfl km_X5_clear ml_X1_58 ds_X5_clear (Nat.le_of_ble_eq_true rfl) (q_recR (by assumption)) rfl (r_clear t4 ?_)
  refine ⟨rfl, ?_⟩
  refine s_aload_n 8 dX1_blindFlips_7 rfl rfl ?_
  refine g_X1_tried 11 dX1_blindFlips_8 rfl fl_X1_30 ?_
  refine s_aload_n 12 dX1_blindFlips_11 rfl rfl ?_
  refine s_iload_n 13 dX1_blindFlips_12 rfl rfl ?_
  refine s_iload_n 14 dX1_blindFlips_13 rfl rfl ?_
  refine s_V3v 17 dX1_blindFlips_14 rfl km_X5_addAll ml_X1_70 ds_X5_addAll (Nat.le_of_ble_eq_true rfl) (q_recR (by assumption)) rfl (r_addAllK (l2 := src) t4 (by rw [hz]; omega) (by omega) (up_s _ _ _) (by rw [up_n (by omega)]; exact hR) (by omega) (by omega) (by omega) (by show 0 + (bs.length : Int) ≤ 200; omega) (by omega) ?_)
  refine ⟨rfl, ?_⟩
  rw [show ((fr : Int)).toNat = fr from rfl, show ((bs.length : Int)).toNat = bs.length from rfl, ← hbs, List.nil_append, up_up]
  refine s_iconst 18 dX1_blindFlips_17 rfl ?_
  refine s_istore 20 dX1_blindFlips_18 rfl (Nat.le_of_ble_eq_true rfl) rfl ?_
  refine s_iconst 21 dX1_blindFlips_20 rfl ?_
  refine s_istore 23 dX1_blindFlips_21 rfl (Nat.le_of_ble_eq_true rfl) rfl ?_
  refine s_iconst 24 dX1_blindFlips_23 rfl ?_
  refine s_istore 26 dX1_blindFlips_24 rfl (Nat.le_of_ble_eq_true rfl) rfl ?_
  exact key bs.length 0 0 0 _ _ N (up R (x + 8) bs) (by omega) (by omega) (by omega) frO.rf (fun y _ y2 => up_n y2) (up_s _ _ _) (by rw [Int.zero_add])
end BLIND
