/-! ===== Framing makes a frame; State: how it holds a state; picks, puts ===== -/
def fr2 {β : Type} (a b c e : Nat) (f f' : Nat → β) : Prop := ∀ y, (y < a ∨ b ≤ y) → (y < c ∨ e ≤ y) → f' y = f y
theorem fr2.rf {β : Type} {a b c e : Nat} {f : Nat → β} : fr2 a b c e f f := fun _ _ _ => rfl
theorem fr2.trans {β : Type} {a b c e : Nat} {f g k : Nat → β} (h : fr2 a b c e f g) (h2 : fr2 a b c e g k) : fr2 a b c e f k := fun y h3 h4 => (h2 y h3 h4).trans (h y h3 h4)
theorem fr2.l {β : Type} {a b c e lo hi : Nat} {f g : Nat → β} (h : frO lo hi f g) (hs : a ≤ lo ∧ hi ≤ b) : fr2 a b c e f g := fun y h3 h4 => h y (by omega)
theorem fr2.r {β : Type} {a b c e lo hi : Nat} {f g : Nat → β} (h : frO lo hi f g) (hs : c ≤ lo ∧ hi ≤ e) : fr2 a b c e f g := fun y h3 h4 => h y (by omega)
theorem RuP.f2 {N N' : Nat → Nat → Int} {x a b c e : Nat} {ru : RU} (h : RuP N x ru) (hf : fr2 a b c e N N') (hx : x + 3 ≤ a ∨ b ≤ x) (hx2 : x + 3 ≤ c ∨ e ≤ x) : RuP N' x ru := by
  obtain ⟨q1, q2, q3, q4, q5, q6⟩ := h
  have h1 := hf x (by omega) (by omega)
  have h2 := hf (x + 1) (by omega) (by omega)
  exact ⟨by rw [h1]; exact q1, by rw [h2]; exact q2, by rw [h2]; exact q3, by rw [h1]; exact q4, by rw [h1]; exact q5, by rw [h1]; exact q6⟩
/-- events, the oldest first -/
def evR (l : List (List Int)) : List Int := l.reverse.flatten
def StS (T : Nat → Nat) (x : Nat) : Prop := T x = 8 ∧ T (x + 1) = 100 + 600 ∧ T (x + 3) = 100 + 200 ∧ T (x + 5) = 100 + 200 ∧ T (x + 7) = 21 ∧ ∀ c, c < 4 → PoS T (x + 7 + 1 + 17 * c)
def StR (N : Nat → Nat → Int) (R : Nat → List Int) (x ch : Nat) (tl : Nat → Int) (s : ST) : Prop := R (x + 1) = s.1 ∧ R (x + 3) = s.2.1 ∧ R (x + 5) = evR s.2.2.2.1 ∧ (N x 3 = s.2.2.1 2 ∧ N x 4 = s.2.2.1 1 ∧ N x 6 = ch ∧ N x 7 = s.2.2.1 0) ∧ ∀ c, c < ch → PoR N R (x + 7 + 1 + 17 * c) (tl c) (s.2.2.2.2 c)
theorem StR.f2 {N N' : Nat → Nat → Int} {R R' : Nat → List Int} {x ch a b c e a2 b2 c2 e2 : Nat} {tl : Nat → Int} {s : ST} (h : StR N R x ch tl s) (hch : ch ≤ 4) (f1 : fr2 a b c e N N') (f2 : fr2 a2 b2 c2 e2 R R') (h1 : x + 76 ≤ a ∨ b ≤ x) (h2 : x + 76 ≤ c ∨ e ≤ x) (h3 : x + 76 ≤ a2 ∨ b2 ≤ x) (h4 : x + 76 ≤ c2 ∨ e2 ≤ x) : StR N' R' x ch tl s := by
  obtain ⟨q1, q2, q3, q4, q5⟩ := h
  refine ⟨by rw [f2 (x + 1) (by omega) (by omega)]; exact q1, by rw [f2 (x + 3) (by omega) (by omega)]; exact q2, by rw [f2 (x + 5) (by omega) (by omega)]; exact q3, by rw [f1 x (by omega) (by omega)]; exact q4, fun k hk => ?_⟩
  obtain ⟨p1, ⟨p2, p3, p4⟩, ⟨p5, p6, p7⟩, p8⟩ := q5 k hk
  have g : ∀ y, x ≤ y → y < x + 76 → R' y = R y := fun y u1 u2 => f2 y (by omega) (by omega)
  exact ⟨by rw [f1 _ (by omega) (by omega)]; exact p1, ⟨by rw [g _ (by omega) (by omega)]; exact p2, by rw [g _ (by omega) (by omega)]; exact p3, by rw [g _ (by omega) (by omega)]; exact p4⟩, ⟨by rw [g _ (by omega) (by omega)]; exact p5, by rw [g _ (by omega) (by omega)]; exact p6, by rw [g _ (by omega) (by omega)]; exact p7⟩, by rw [g _ (by omega) (by omega)]; exact p8⟩
theorem StR.fr {N N' : Nat → Nat → Int} {R R' : Nat → List Int} {x ch a b a2 b2 : Nat} {tl : Nat → Int} {s : ST} (h : StR N R x ch tl s) (hch : ch ≤ 4) (f1 : frO a b N N') (f2 : frO a2 b2 R R') (h1 : x + 76 ≤ a ∨ b ≤ x) (h3 : x + 76 ≤ a2 ∨ b2 ≤ x) : StR N' R' x ch tl s := h.f2 (c := 0) (e := 0) (c2 := 0) (e2 := 0) hch (fun y h _ => f1 y h) (fun y h _ => f2 y h) h1 (by omega) h3 (by omega)
theorem prt_flat {ru : RU} {c : CH} (hl : 0 < c.2.1.length) (hg : 0 ≤ c.1 1 ∧ c.1 1 ≤ (c.2.1.headD []).length) : (c.2.1.flatten.drop (c.1 1).toNat).take (prtF ru c).length = prtF ru c ∧ c.1 1 + (prtF ru c).length ≤ c.2.1.flatten.length := by
  have hpl := prtF_len ru c
  obtain ⟨h, t, e⟩ : ∃ h t, c.2.1 = h :: t := by
    cases hq : c.2.1 with
    | nil => rw [hq] at hl; exact absurd hl (by simp)
    | cons h t => exact ⟨h, t, rfl⟩
  have e1 : c.2.1.headD [] = h := by rw [e]; rfl
  have e2 : c.2.1.flatten = h ++ t.flatten := by rw [e]; rfl
  rw [e1] at hpl hg
  have e4 : prtF ru c = (h.drop (c.1 1).toNat).take (ru 4).toNat := by unfold prtF; rw [e1]
  have e3 : prtF ru c = (h.drop (c.1 1).toNat).take (prtF ru c).length := by
    have s1 : prtF ru c = (prtF ru c).take (prtF ru c).length := List.take_length.symm
    have s2 : (prtF ru c).take (prtF ru c).length = ((h.drop (c.1 1).toNat).take (ru 4).toNat).take (prtF ru c).length := congrArg (fun l => List.take (prtF ru c).length l) e4
    rw [List.take_take, Nat.min_eq_left (by omega)] at s2
    exact s1.trans s2
  rw [e2]
  refine ⟨?_, by rw [List.length_append]; omega⟩
  conv => rhs; rw [e3]
  rw [List.drop_append_of_le_length (by omega), List.take_append_of_le_length (by rw [List.length_drop]; omega)]
section STATE
variable {G : GT} {F : HS} {d : Nat} {T : Nat → Nat} {N : Nat → Nat → Int} {R : Nat → List Int} {P : Nat → Nat → Option Nat} {S : Nat → Int64} {cn un : Nat} {post : Option Value → PT → Prop} {ru : RU}
theorem q_make {f y k : Nat} {tl b : Int} {c : CH} (hS : FrS T f) (hP : PoS T y) (hne : y + 17 ≤ f ∨ f + 10 ≤ y) (hru : RuP N (f + 1) ru) (hwr : WfRu ru) (hR : PoR N R y tl c) (hw : WfCh b c) (hl : 0 < c.2.1.length) (hk : k < 4) (hp : ∀ R', frO (f + 4) (f + 10) R R' → R' (f + 6) = frmF ru k c → post (some (vi (prtF ru c).length)) (T, N, R', P, S, cn, un)) : Cm G (AP G F) yX1_make cX1_make 6 (some .int) (d + 4) [.ref f, .ref y, vi k] (T, N, R, P, S, cn, un) post := by
  obtain ⟨t0, ⟨t1, t2, t3⟩, t4, t5, t6⟩ := id hS
  obtain ⟨u0, u1, u2, u3⟩ := hP
  obtain ⟨r0, r1, r2, r3, r4, r5⟩ := id hru
  obtain ⟨v0, v1, v2, v3, v4, v5⟩ := id hwr
  obtain ⟨h1, h2, h3, h4⟩ := hR
  obtain ⟨ok1, ok2, ok3, ok4, ok5⟩ := plnF_ok (k := (k : Int)) hw hwr (by omega) hl
  obtain ⟨w0, w1, w2, w3, w4, w5, w6, w7, w8, w9, w10, w11, w12, w13, w14⟩ := hw
  have e5 : N y 5 = c.1 1 := h1.2 1 (by decide)
  have e6 : N y 6 = c.1 2 := h1.2 2 (by decide)
  have r1' : N (f + 1 + 1) 0 = ru 1 := r1
  have r2' : N (f + 1 + 1) 1 = ru 2 := r2
  have hpl := prtF_len ru c
  have hhl := (w9 _ (headD_mem hl)).1
  have hpf := prt_flat (ru := ru) hl w1
  have a1 := u1.1
  have b1 := u1.2.1
  have hcat : R (y + 1 + 1) = c.2.1.flatten := h2.1.trans (wai0_cat _)
  have hfl : c.2.1.flatten.length ≤ 960 := by
    have := catF_len (wai0_mem w9)
    rw [wai0_cat, wai0_len] at this
    omega
  refine Cm_intro (L := [some (.ref f), some (.ref y), some (vi k), none, none, none]) (by decide +kernel) (Nat.le_of_ble_eq_true rfl) rfl ?_
  -- all is stuffed
  have fin : ∀ R2 : Nat → List Int, frO (f + 4) (f + 10) R R2 → R2 (f + 4) = plnF ru k c → V G (AP G F) yX1_make cX1_make 6 (some .int) (d + 4) (T, N, R2, P, S, cn, un) 141 [some (.ref f), some (.ref y), some (vi k), none, some (vi (prtF ru c).length), none] [] post := by
    intro R2 f1 f2
    refine s_aload_n 142 dX1_make_141 rfl rfl ?_
    refine g_X1_rules 145 dX1_make_142 rfl fl_X1_12 ?_
    refine g_X6_stuffing 148 dX1_make_145 rfl fl_X1_82 ?_
    refine s_aload_n 149 dX1_make_148 rfl rfl ?_
    refine g_X1_plain 152 dX1_make_149 rfl fl_X1_23 ?_
    refine s_aload_n 153 dX1_make_152 rfl rfl ?_
    refine g_X1_rules 156 dX1_make_153 rfl fl_X1_12 ?_
    refine g_X6_way 159 dX1_make_156 rfl fl_X1_86 (fun hr156 => ?_)
    rw [r0]
    refine s_aload_n 160 dX1_make_159 rfl rfl ?_
    refine g_X1_packed 163 dX1_make_160 rfl fl_X1_27 ?_
    refine s_V3v 166 dX1_make_163 rfl km_X8_pack ml_X1_89 ds_X8_pack (Nat.le_of_ble_eq_true rfl) (q_rec (by assumption)) rfl (q_pack (Ln := (ru 1).toNat) (Zn := (ru 2).toNat) t2 t4 t5 (by omega) f2 ok1 (by omega) (by rw [r1']; omega) (by rw [r2']; omega) (by omega) (by omega) v0 ?_)
    refine ⟨rfl, ?_⟩
    refine s_iload 168 dX1_make_166 rfl rfl ?_
    refine s_ireturn rfl dX1_make_168 ?_
    exact hp _ (f1.up (by omega)) (up_s _ _ _)
  have chk : ∀ R2 : Nat → List Int, frO (f + 4) (f + 10) R R2 → R2 (f + 4) = hdF ru k c :: prtF ru c → V G (AP G F) yX1_make cX1_make 6 (some .int) (d + 4) (T, N, R2, P, S, cn, un) 113 [some (.ref f), some (.ref y), some (vi k), none, some (vi (prtF ru c).length), none] [] post := by
    intro R2 f1 f2
    have hbl : byt (hdF ru k c :: prtF ru c) := byt_cons.mpr ⟨ok3, ok4⟩
    refine s_aload_n 114 dX1_make_113 rfl rfl ?_
    refine g_X1_rules 117 dX1_make_114 rfl fl_X1_12 ?_
    refine g_X6_check 120 dX1_make_117 rfl fl_X1_74 (fun hr117 => ?_)
    rw [r3]
    refine s_if_eq 123 141 dX1_make_120 rfl rfl (fun g1 => ?_) (fun g1 => ?_)
    · refine fin R2 f1 ?_
      rw [f2]
      unfold plnF
      rw [if_pos g1, List.append_nil]
    refine s_aload_n 124 dX1_make_123 rfl rfl ?_
    refine g_X1_plain 127 dX1_make_124 rfl fl_X1_23 ?_
    refine s_aload_n 128 dX1_make_127 rfl rfl ?_
    refine s_aload_n 129 dX1_make_128 rfl rfl ?_
    refine g_X1_plain 132 dX1_make_129 rfl fl_X1_23 ?_
    refine g_X5_size 135 dX1_make_132 rfl fl_X1_77 ?_
    rw [f2]
    refine s_V1i 138 dX1_make_135 rfl km_X1_checkOf ml_X1_78 ds_X1_checkOf (Nat.le_of_ble_eq_true rfl) (q_rec (by assumption)) rfl (q_checkOf hS hru f2 hbl (by rw [List.length_cons]; omega) (Nat.le_refl _) (by omega) ?_)
    refine ⟨_, rfl, ?_⟩
    rw [List.take_length]
    have hcr := chkF_rg (ck := ru 3) hbl
    refine s_V1v 141 dX1_make_138 rfl km_X5_add ml_X1_64 ds_X5_add (Nat.le_of_ble_eq_true rfl) (q_recR (by assumption)) rfl (r_addK t4 f2 (by rw [List.length_cons]; omega) (by constructor <;> omega) ?_)
    refine ⟨rfl, ?_⟩
    refine fin _ (f1.up (by omega)) ?_
    rw [up_s]
    unfold plnF
    rw [if_neg g1]
  have hed : ∀ (h9 : Int), h9 = hdF ru k c → V G (AP G F) yX1_make cX1_make 6 (some .int) (d + 4) (T, N, up R (f + 4) [], P, S, cn, un) 90 [some (.ref f), some (.ref y), some (vi k), none, some (vi (prtF ru c).length), none] [vi h9, .ref (f + 4)] post := by
    intro h9 e9
    subst e9
    refine s_V1v 93 dX1_make_90 rfl km_X5_add ml_X1_64 ds_X5_add (Nat.le_of_ble_eq_true rfl) (q_recR (by assumption)) rfl (r_addK t4 (up_s _ _ _) (by decide) (by constructor <;> omega) ?_)
    refine ⟨rfl, ?_⟩
    rw [up_up, List.nil_append]
    refine s_aload_n 94 dX1_make_93 rfl rfl ?_
    refine g_X1_plain 97 dX1_make_94 rfl fl_X1_23 ?_
    refine s_aload_n 98 dX1_make_97 rfl rfl ?_
    refine g_X4_waits 101 dX1_make_98 rfl fl_X1_33 ?_
    refine g_X2_bytes 104 dX1_make_101 rfl fl_X1_67 ?_
    refine s_aload_n 105 dX1_make_104 rfl rfl ?_
    refine g_X4_gone 108 dX1_make_105 rfl fl_X1_49 (fun hr105 => ?_)
    rw [e5]
    refine s_iload 110 dX1_make_108 rfl rfl ?_
    refine s_V3v 113 dX1_make_110 rfl km_X5_addAll ml_X1_70 ds_X5_addAll (Nat.le_of_ble_eq_true rfl) (q_recR (by assumption)) rfl (r_addAllK t4 (by omega) (by omega) (up_s _ _ _) ((up_n (by omega)).trans hcat) (by omega) (by omega) (by omega) (by simp; omega) (by omega) ?_)
    refine ⟨rfl, ?_⟩
    rw [up_up, show (((prtF ru c).length : Int)).toNat = (prtF ru c).length from rfl, hpf.1]
    exact chk _ (frO.rf.up (by omega)) (up_s _ _ _)
  have hla : ∀ (l5 : Int), l5 = (if c.1 1 + ((prtF ru c).length : Int) = (c.2.1.headD []).length then 1 else 0) → V G (AP G F) yX1_make cX1_make 6 (some .int) (d + 4) (T, N, R, P, S, cn, un) 44 [some (.ref f), some (.ref y), some (vi k), none, some (vi (prtF ru c).length), some (vi l5)] [] post := by
    intro l5 e9
    refine s_aload_n 45 dX1_make_44 rfl rfl ?_
    refine g_X1_plain 48 dX1_make_45 rfl fl_X1_23 ?_
    refine s_V0v 51 dX1_make_48 rfl km_X5_clear ml_X1_58 ds_X5_clear (Nat.le_of_ble_eq_true rfl) (q_recR (by assumption)) rfl (r_clear t4 ?_)
    refine ⟨rfl, ?_⟩
    have nx : ∀ a9 : Int, a9 = 64 * (k : Int) + (if c.1 1 = 0 then 32 else 0) → V G (AP G F) yX1_make cX1_make 6 (some .int) (d + 4) (T, N, up R (f + 4) [], P, S, cn, un) 73 [some (.ref f), some (.ref y), some (vi k), none, some (vi (prtF ru c).length), some (vi l5)] [vi a9, .ref (f + 4)] post := by
      intro a9 ha9
      refine s_iload 75 dX1_make_73 rfl rfl ?_
      refine s_if_eq 78 83 dX1_make_75 rfl rfl (fun g2 => ?_) (fun g2 => ?_)
      · refine s_iconst 84 dX1_make_83 rfl ?_
        refine s_iadd 85 dX1_make_84 rfl ?_
        refine s_aload_n 86 dX1_make_85 rfl rfl ?_
        refine g_X4_number 89 dX1_make_86 rfl fl_X1_61 (fun hr86 => ?_)
        rw [e6]
        refine s_iadd 90 dX1_make_89 rfl ?_
        refine V_kill 5 (hed _ ?_)
        unfold hdF
        rw [ha9]
        split at e9
        · omega
        · rename_i g3; rw [if_neg g3]
      · refine s_bipush 80 dX1_make_78 rfl (k := ?_)
        refine s_goto 84 dX1_make_80 rfl ?_
        refine s_iadd 85 dX1_make_84 rfl ?_
        refine s_aload_n 86 dX1_make_85 rfl rfl ?_
        refine g_X4_number 89 dX1_make_86 rfl fl_X1_61 (fun hr86 => ?_)
        rw [e6]
        refine s_iadd 90 dX1_make_89 rfl ?_
        refine V_kill 5 (hed _ ?_)
        unfold hdF
        rw [ha9]
        split at e9
        · rename_i g3; rw [if_pos g3]
        · omega
    refine s_aload_n 52 dX1_make_51 rfl rfl ?_
    refine g_X1_plain 55 dX1_make_52 rfl fl_X1_23 ?_
    refine s_bipush 57 dX1_make_55 rfl (k := ?_)
    refine s_iload_n 58 dX1_make_57 rfl rfl ?_
    refine s_imul 59 dX1_make_58 rfl ?_
    refine s_aload_n 60 dX1_make_59 rfl rfl ?_
    refine g_X4_gone 63 dX1_make_60 rfl fl_X1_49 (fun hr60 => ?_)
    rw [e5]
    refine s_if_ne 66 71 dX1_make_63 rfl rfl (fun g1 => ?_) (fun g1 => ?_)
    · refine s_iconst 72 dX1_make_71 rfl ?_
      refine s_iadd 73 dX1_make_72 rfl ?_
      exact nx _ (by rw [if_neg g1])
    · refine s_bipush 68 dX1_make_66 rfl (k := ?_)
      refine s_goto 72 dX1_make_68 rfl ?_
      refine s_iadd 73 dX1_make_72 rfl ?_
      exact nx _ (by rw [if_pos g1])
  refine s_aload_n 1 dX1_make_0 rfl rfl ?_
  refine g_X4_waits 4 dX1_make_1 rfl fl_X1_33 ?_
  refine s_V0i 7 dX1_make_4 rfl km_X2_firstLength ml_X1_39 ds_X2_firstLength (Nat.le_of_ble_eq_true rfl) (q_rec (by assumption)) rfl (q_firstLength u1 h2 (wai0_mem w9) ?_)
  refine ⟨_, rfl, ?_⟩
  rw [wai0_get]
  refine s_istore_n 8 dX1_make_7 rfl (Nat.le_of_ble_eq_true rfl) rfl ?_
  refine s_aload_n 9 dX1_make_8 rfl rfl ?_
  refine g_X1_rules 12 dX1_make_9 rfl fl_X1_12 ?_
  refine g_X6_size 15 dX1_make_12 rfl fl_X1_45 (fun hr12 => ?_)
  rw [r4]
  refine s_iload_n 16 dX1_make_15 rfl rfl ?_
  refine s_aload_n 17 dX1_make_16 rfl rfl ?_
  refine g_X4_gone 20 dX1_make_17 rfl fl_X1_49 (fun hr17 => ?_)
  rw [e5]
  refine s_isub 21 dX1_make_20 rfl ?_
  refine s_min (q := 24) (hd := dX1_make_21) (hq := rfl) (hw := ml_X1_52) (hrest := Nat.le_of_ble_eq_true rfl) (k := ?_)
  rw [show min (ru 4) (((c.2.1.headD []).length : Int) - c.1 1) = ((prtF ru c).length : Int) by omega]
  refine s_istore 26 dX1_make_24 rfl (Nat.le_of_ble_eq_true rfl) rfl ?_
  refine s_aload_n 27 dX1_make_26 rfl rfl ?_
  refine g_X4_gone 30 dX1_make_27 rfl fl_X1_49 (fun hr27 => ?_)
  rw [e5]
  refine s_iload 32 dX1_make_30 rfl rfl ?_
  refine s_iadd 33 dX1_make_32 rfl ?_
  refine s_iload_n 34 dX1_make_33 rfl rfl ?_
  refine s_icmp_lt 37 41 dX1_make_34 rfl rfl (fun g1 => ?_) (fun g1 => ?_)
  · refine s_iconst 42 dX1_make_41 rfl ?_
    refine s_istore 44 dX1_make_42 rfl (Nat.le_of_ble_eq_true rfl) rfl ?_
    exact V_kill 3 (hla 0 (by rw [if_neg (by omega)]))
  · refine s_iconst 38 dX1_make_37 rfl ?_
    refine s_goto 42 dX1_make_38 rfl ?_
    refine s_istore 44 dX1_make_42 rfl (Nat.le_of_ble_eq_true rfl) rfl ?_
    exact V_kill 3 (hla 1 (by rw [if_pos (by omega)]))
theorem q_portAt {x ch : Nat} {z : Int} (hS : StS T x) (hch : N x 6 = ch) (hc4 : ch ≤ 4) (hz : rg z) (hp1 : 0 ≤ z → z < ch → post (some (.ref (x + 7 + 1 + 17 * z.toNat))) (T, N, R, P, S, cn, un)) (hp0 : ¬ (0 ≤ z ∧ z < ch) → post (some .null) (T, N, R, P, S, cn, un)) : Cm G (AP G F) yX7_portAt cX7_portAt 2 (some (.object "QuietLine$Port")) d [.ref x, vi z] (T, N, R, P, S, cn, un) post := by
  obtain ⟨t0, t1, t2, t3, t4, t5⟩ := hS
  refine Cm_intro (L := [some (.ref x), some (vi z)]) (by decide +kernel) (Nat.le_of_ble_eq_true rfl) rfl ?_
  refine s_iload_n 1 dX7_portAt_0 rfl rfl ?_
  refine s_if_lt 4 21 dX7_portAt_1 rfl rfl (fun g1 => ?_) (fun g1 => ?_)
  · refine s_null 22 dX7_portAt_21 rfl ?_
    refine s_areturn (C1 := "QuietLine$Port") rfl (Or.inl rfl) dX7_portAt_22 ?_
    exact hp0 (fun h => by omega)
  refine s_iload_n 5 dX7_portAt_4 rfl rfl ?_
  refine s_aload_n 6 dX7_portAt_5 rfl rfl ?_
  refine g_X7_portCount 9 dX7_portAt_6 rfl fl_X7_51 (fun hr6 => ?_)
  rw [hch]
  refine s_icmp_ge 12 21 dX7_portAt_9 rfl rfl (fun g2 => ?_) (fun g2 => ?_)
  · refine s_null 22 dX7_portAt_21 rfl ?_
    refine s_areturn (C1 := "QuietLine$Port") rfl (Or.inl rfl) dX7_portAt_22 ?_
    exact hp0 (fun h => by omega)
  refine s_aload_n 13 dX7_portAt_12 rfl rfl ?_
  refine g_X7_ports 16 dX7_portAt_13 rfl fl_X7_32 ?_
  refine s_iload_n 17 dX7_portAt_16 rfl rfl ?_
  refine q_port 18 dX7_portAt_17 rfl ?_
  refine s_goto 22 dX7_portAt_18 rfl ?_
  refine s_areturn (C1 := "QuietLine$Port") rfl (Or.inr ⟨_, rfl⟩) dX7_portAt_22 ?_
  exact hp1 (by omega) (by omega)
theorem q_pick {x ch : Nat} {tl : Nat → Int} {s : ST} {b : Int} (hS : StS T x) (hR : StR N R x ch tl s) (hw : WfSt b ch s) (hc4 : 1 ≤ ch ∧ ch ≤ 4) (hp : post (some (vi (pickF s ch))) (T, N, R, P, S, cn, un)) : Cm G (AP G F) yX7_pick cX7_pick 6 (some .int) (d + 1) [.ref x] (T, N, R, P, S, cn, un) post := by
  obtain ⟨t0, t1, t2, t3, t4, t5⟩ := hS
  obtain ⟨q1, q2, q3, ⟨q4, q5, q6, q7⟩, q8⟩ := hR
  have hpk := hw.2.2.2.2.2.2.1
  refine Cm_intro (L := [some (.ref x), none, none, none, none, none]) (by decide +kernel) (Nat.le_of_ble_eq_true rfl) rfl ?_
  have key : ∀ (bf : Int), bf = (if s.2.2.1 1 = -1 then (ch : Int) - 1 else s.2.2.1 1) → ∀ (m k : Nat) (best most : Int), m + k = ch + 1 → 1 ≤ k → (best = -1 ∧ most = 0 ∨ (0 ≤ best ∧ best < ch) ∧ most = (s.2.2.2.2 best.toNat).1 0 ∧ 0 < most ∧ most ≤ 8) → pickF s ch = pickL s ch m k best → V G (AP G F) yX7_pick cX7_pick 6 (some .int) (d + 1) (T, N, R, P, S, cn, un) 29 [some (.ref x), some (vi best), some (vi most), some (vi bf), some (vi k), none] [] post := by
    intro bf hbf m
    induction m with
    | zero =>
      intro k best most hk hk1 hb he
      refine s_iload 31 dX7_pick_29 rfl rfl ?_
      refine s_aload_n 32 dX7_pick_31 rfl rfl ?_
      refine g_X7_portCount 35 dX7_pick_32 rfl fl_X7_51 (fun hr32 => ?_)
      rw [q6]
      refine s_icmp_gt 38 99 dX7_pick_35 rfl rfl (fun g => ?_) (fun g => ?_)
      rotate_left
      · omega
      refine s_iload_n 100 dX7_pick_99 rfl rfl ?_
      refine s_ireturn rfl dX7_pick_100 ?_
      rw [he] at hp
      exact hp
    | succ m ih =>
      intro k best most hk hk1 hb he
      have hcm : (s.2.2.1 1 + (k : Int) + (ch : Int)) % (ch : Int) = (bf + (k : Int)) % (ch : Int) := by
        rw [hbf]
        split
        · rename_i g; rw [g]; congr 1; omega
        · rw [Int.add_emod_right]
      have hc0 : 0 ≤ bf + (k : Int) := by rw [hbf]; split <;> omega
      have hcl := Int.emod_lt_of_pos (bf + (k : Int)) (show 0 < (ch : Int) by omega)
      have hcp := Int.emod_nonneg (bf + (k : Int)) (show (ch : Int) ≠ 0 by omega)
      obtain ⟨cc, hcc⟩ := Int.eq_ofNat_of_zero_le hcp
      rw [show pickL s ch (m + 1) k best = pickL s ch m (k + 1) (if 0 < (s.2.2.2.2 (((s.2.2.1 1 + k + ch) % ch).toNat)).2.1.length ∧ 0 < (s.2.2.2.2 (((s.2.2.1 1 + k + ch) % ch).toNat)).1 0 ∧ (best = -1 ∨ (s.2.2.2.2 best.toNat).1 0 < (s.2.2.2.2 (((s.2.2.1 1 + k + ch) % ch).toNat)).1 0) then (s.2.2.1 1 + k + ch) % ch else best) from rfl, hcm, hcc, show ((cc : Int)).toNat = cc from rfl] at he
      have hcc4 : cc < ch := by omega
      have hx := q8 cc hcc4
      have hwx := hw.2.2.2.2.2.2.2.2.2.2 cc hcc4
      obtain ⟨a0, a1, a2, a3⟩ := t5 cc (by omega)
      have b1 := a1.1
      have ec : N (x + 7 + 1 + 17 * cc) 4 = (s.2.2.2.2 cc).1 0 := hx.1.2 0 (by decide)
      have wx0 := hwx.1
      have wx8 := hwx.2.2.2.2.2.2.2.2.1
      refine s_iload 31 dX7_pick_29 rfl rfl ?_
      refine s_aload_n 32 dX7_pick_31 rfl rfl ?_
      refine g_X7_portCount 35 dX7_pick_32 rfl fl_X7_51 (fun hr32 => ?_)
      rw [q6]
      refine s_icmp_gt 38 99 dX7_pick_35 rfl rfl (fun g => ?_) (fun g => ?_)
      · omega
      refine s_iload_n 39 dX7_pick_38 rfl rfl ?_
      refine s_iload 41 dX7_pick_39 rfl rfl ?_
      refine s_iadd 42 dX7_pick_41 rfl ?_
      refine s_aload_n 43 dX7_pick_42 rfl rfl ?_
      refine g_X7_portCount 46 dX7_pick_43 rfl fl_X7_51 (fun hr43 => ?_)
      rw [q6]
      refine s_irem (q := 47) (hd := dX7_pick_46) (hq := rfl) (k := ?_)
      refine s_istore 49 dX7_pick_47 rfl (Nat.le_of_ble_eq_true rfl) rfl ?_
      rw [hcc]
      refine s_aload_n 50 dX7_pick_49 rfl rfl ?_
      refine g_X7_ports 53 dX7_pick_50 rfl fl_X7_32 ?_
      refine s_iload 55 dX7_pick_53 rfl rfl ?_
      refine q_port 56 dX7_pick_55 rfl ?_
      rw [show ((cc : Int)).toNat = cc from rfl]
      refine g_X4_waits 59 dX7_pick_56 rfl fl_X7_68 ?_
      refine s_V0i 62 dX7_pick_59 rfl km_X2_many ml_X7_72 ds_X2_many (Nat.le_of_ble_eq_true rfl) (q_rec (by assumption)) rfl (q_many a1 hx.2.1 ?_)
      refine ⟨_, rfl, ?_⟩
      rw [wai0_len]
      refine s_if_le 65 93 dX7_pick_62 rfl rfl (fun g1 => ?_) (fun g1 => ?_)
      · rw [if_neg (fun h => by omega)] at he
        refine s_iinc 96 dX7_pick_93 rfl rfl (Nat.le_of_ble_eq_true rfl) rfl ?_
        refine s_goto 29 dX7_pick_96 rfl ?_
        exact V_kill 5 (ih (k + 1) best most (by omega) (by omega) hb he)
      refine s_aload_n 66 dX7_pick_65 rfl rfl ?_
      refine g_X7_ports 69 dX7_pick_66 rfl fl_X7_32 ?_
      refine s_iload 71 dX7_pick_69 rfl rfl ?_
      refine q_port 72 dX7_pick_71 rfl ?_
      rw [show ((cc : Int)).toNat = cc from rfl]
      refine g_X4_credits 75 dX7_pick_72 rfl fl_X7_78 (fun hr72 => ?_)
      rw [ec]
      refine s_iload_n 76 dX7_pick_75 rfl rfl ?_
      refine s_icmp_le 79 93 dX7_pick_76 rfl rfl (fun g2 => ?_) (fun g2 => ?_)
      · rw [if_neg (fun h => by rcases hb with hb | hb <;> omega)] at he
        refine s_iinc 96 dX7_pick_93 rfl rfl (Nat.le_of_ble_eq_true rfl) rfl ?_
        refine s_goto 29 dX7_pick_96 rfl ?_
        exact V_kill 5 (ih (k + 1) best most (by omega) (by omega) hb he)
      · rw [if_pos ⟨by omega, by omega, by rcases hb with hb | hb <;> omega⟩] at he
        refine s_iload 81 dX7_pick_79 rfl rfl ?_
        refine s_istore_n 82 dX7_pick_81 rfl (Nat.le_of_ble_eq_true rfl) rfl ?_
        refine s_aload_n 83 dX7_pick_82 rfl rfl ?_
        refine g_X7_ports 86 dX7_pick_83 rfl fl_X7_32 ?_
        refine s_iload 88 dX7_pick_86 rfl rfl ?_
        refine q_port 89 dX7_pick_88 rfl ?_
        rw [show ((cc : Int)).toNat = cc from rfl]
        refine g_X4_credits 92 dX7_pick_89 rfl fl_X7_78 (fun hr89 => ?_)
        rw [ec]
        refine s_istore_n 93 dX7_pick_92 rfl (Nat.le_of_ble_eq_true rfl) rfl ?_
        refine s_iinc 96 dX7_pick_93 rfl rfl (Nat.le_of_ble_eq_true rfl) rfl ?_
        refine s_goto 29 dX7_pick_96 rfl ?_
        exact V_kill 5 (ih (k + 1) cc _ (by omega) (by omega) (Or.inr ⟨by omega, rfl, by omega⟩) he)
  refine s_iconst 1 dX7_pick_0 rfl ?_
  refine s_istore_n 2 dX7_pick_1 rfl (Nat.le_of_ble_eq_true rfl) rfl ?_
  refine s_iconst 3 dX7_pick_2 rfl ?_
  refine s_istore_n 4 dX7_pick_3 rfl (Nat.le_of_ble_eq_true rfl) rfl ?_
  refine s_aload_n 5 dX7_pick_4 rfl rfl ?_
  refine g_X7_picked 8 dX7_pick_5 rfl fl_X7_26 (fun hr5 => ?_)
  rw [q5]
  refine s_iconst 9 dX7_pick_8 rfl ?_
  refine s_icmp_ne 12 21 dX7_pick_9 rfl rfl (fun g => ?_) (fun g => ?_)
  · refine s_aload_n 22 dX7_pick_21 rfl rfl ?_
    refine g_X7_picked 25 dX7_pick_22 rfl fl_X7_26 (fun hr22 => ?_)
    rw [q5]
    refine s_istore_n 26 dX7_pick_25 rfl (Nat.le_of_ble_eq_true rfl) rfl ?_
    refine s_iconst 27 dX7_pick_26 rfl ?_
    refine s_istore 29 dX7_pick_27 rfl (Nat.le_of_ble_eq_true rfl) rfl ?_
    exact key _ (by rw [if_neg g]) ch 1 (-1) 0 (by omega) (by omega) (Or.inl ⟨rfl, rfl⟩) rfl
  · refine s_aload_n 13 dX7_pick_12 rfl rfl ?_
    refine g_X7_portCount 16 dX7_pick_13 rfl fl_X7_51 (fun hr13 => ?_)
    rw [q6]
    refine s_iconst 17 dX7_pick_16 rfl ?_
    refine s_isub 18 dX7_pick_17 rfl ?_
    refine s_goto 25 dX7_pick_18 rfl ?_
    refine s_istore_n 26 dX7_pick_25 rfl (Nat.le_of_ble_eq_true rfl) rfl ?_
    refine s_iconst 27 dX7_pick_26 rfl ?_
    refine s_istore 29 dX7_pick_27 rfl (Nat.le_of_ble_eq_true rfl) rfl ?_
    exact key _ (by rw [if_pos g]) ch 1 (-1) 0 (by omega) (by omega) (Or.inl ⟨rfl, rfl⟩) rfl
end STATE
