/-! ===== Framing: checks, frames judged; ports: how they hold a channel; frames made ===== -/
theorem xr_0 {a : Int} (h : 0 ≤ a) : xr a 0 = a := by
  unfold xr
  rw [show ((0 : Int)).toNat = 0 from rfl, Nat.xor_zero]
  omega
theorem crc1_p {s : Int} (h : 0 ≤ s ∧ s ≤ 255) : crc1 s = xr (2 * s % 256) (if 128 ≤ s then 7 else 0) := by
  unfold crc1
  split
  · rfl
  · rw [xr_0 (by omega)]
    omega
def FrS (T : Nat → Nat) (x : Nat) : Prop := T x = 2 ∧ RuS T (x + 1) ∧ T (x + 4) = 100 + 600 ∧ T (x + 6) = 100 + 600 ∧ T (x + 8) = 100 + 200
def PoS (T : Nat → Nat) (x : Nat) : Prop := T x = 5 ∧ MaS T (x + 1) ∧ MaS T (x + 8) ∧ T (x + 15) = 100 + 120
def wai0 (ws : List (List Int)) : List (List Int × Int) := ws.map (fun w => (w, 0))
def PoN (g : Nat → Int) (tl : Int) (i : Nat → Int) : Prop := g 3 = tl ∧ ∀ j, j < 8 → g (j + 4) = i j
theorem PoN.up {g i : Nat → Int} {tl v : Int} (h : PoN g tl i) (k : Nat) : PoN (up g (k + 4) v) tl (up i k v) := by
  refine ⟨by rw [up_n (by omega)]; exact h.1, fun j hj => ?_⟩
  by_cases e : j = k
  · rw [e, up_s, up_s]
  · rw [up_n (by omega), up_n e]
    exact h.2 j hj
def PoR (N : Nat → Nat → Int) (R : Nat → List Int) (x : Nat) (tl : Int) (c : CH) : Prop := PoN (N x) tl c.1 ∧ MaR R (x + 1) (wai0 c.2.1) ∧ MaR R (x + 8) c.2.2.1 ∧ R (x + 15) = c.2.2.2
theorem PoR.fr {N N' : Nat → Nat → Int} {R R' : Nat → List Int} {x lo hi lo2 hi2 : Nat} {tl : Int} {c : CH} (h : PoR N R x tl c) (f1 : frO lo hi N N') (f2 : frO lo2 hi2 R R') (hx : x + 17 ≤ lo ∨ hi ≤ x) (hx2 : x + 17 ≤ lo2 ∨ hi2 ≤ x) : PoR N' R' x tl c := by
  obtain ⟨h1, h2, h3, h4⟩ := h
  refine ⟨by rw [f1 x (by omega)]; exact h1, h2.fr f2 (by omega), h3.fr f2 (by omega), ?_⟩
  rw [f2 (x + 15) (by omega)]
  exact h4
theorem wai0_len (ws : List (List Int)) : (wai0 ws).length = ws.length := List.length_map _
theorem wai0_mem {ws : List (List Int)} (h : ∀ w ∈ ws, w.length ≤ 120 ∧ byt w) : ∀ m ∈ wai0 ws, m.1.length ≤ 120 := fun m hm => by
  obtain ⟨w, hw, e⟩ := List.mem_map.mp hm
  rw [← e]
  exact (h w hw).1
theorem wai0_get (ws : List (List Int)) : ((wai0 ws).getD 0 ([], 0)).1 = ws.headD [] := by
  cases ws <;> rfl
theorem wai0_cat (ws : List (List Int)) : catF (wai0 ws) = ws.flatten := by
  unfold catF wai0
  rw [List.map_map]
  congr 1
  rw [show ((fun m : List Int × Int => m.1) ∘ fun w => (w, (0 : Int))) = id from rfl, List.map_id]
section FRAME
variable {G : GT} {F : HS} {d : Nat} {T : Nat → Nat} {N : Nat → Nat → Int} {R : Nat → List Int} {P : Nat → Nat → Option Nat} {S : Nat → Int64} {cn un : Nat} {post : Option Value → PT → Prop} {ru : RU}
theorem q_crcStep {s : Int} (hs : 0 ≤ s ∧ s ≤ 255) (hp : post (some (vi (crc8 s))) (T, N, R, P, S, cn, un)) : Cm G (AP G F) yX1_crcStep cX1_crcStep 3 (some .int) d [vi s] (T, N, R, P, S, cn, un) post := by
  refine Cm_intro (L := [some (vi s), none, none]) (by decide +kernel) (Nat.le_of_ble_eq_true rfl) rfl ?_
  refine s_iload_n 1 dX1_crcStep_0 rfl rfl ?_
  refine s_istore_n 2 dX1_crcStep_1 rfl (Nat.le_of_ble_eq_true rfl) rfl ?_
  refine s_iconst 3 dX1_crcStep_2 rfl ?_
  refine s_istore_n 4 dX1_crcStep_3 rfl (Nat.le_of_ble_eq_true rfl) rfl ?_
  have key : ∀ (m k : Nat) (c : Int), k + m = 8 → 0 ≤ c ∧ c ≤ 255 → crc8 s = Nat.repeat crc1 m c → V G (AP G F) yX1_crcStep cX1_crcStep 3 (some .int) d (T, N, R, P, S, cn, un) 4 [some (vi s), some (vi c), some (vi k)] [] post := by
    intro m
    induction m with
    | zero =>
      intro k c hk hc he
      refine s_iload_n 5 dX1_crcStep_4 rfl rfl ?_
      refine s_bipush 7 dX1_crcStep_5 rfl (k := ?_)
      refine s_icmp_ge 10 38 dX1_crcStep_7 rfl rfl (fun g => ?_) (fun g => ?_)
      rotate_left
      · omega
      refine s_iload_n 39 dX1_crcStep_38 rfl rfl ?_
      refine s_ireturn rfl dX1_crcStep_39 ?_
      rw [he] at hp
      exact hp
    | succ m ih =>
      intro k c hk hc he
      refine s_iload_n 5 dX1_crcStep_4 rfl rfl ?_
      refine s_bipush 7 dX1_crcStep_5 rfl (k := ?_)
      refine s_icmp_ge 10 38 dX1_crcStep_7 rfl rfl (fun g => ?_) (fun g => ?_)
      · omega
      have hxr := crc1_rg hc
      refine s_iconst 11 dX1_crcStep_10 rfl ?_
      refine s_iload_n 12 dX1_crcStep_11 rfl rfl ?_
      refine s_imul 13 dX1_crcStep_12 rfl ?_
      refine s_sipush 16 dX1_crcStep_13 rfl (k := ?_)
      refine s_iand 17 ((2 * c % 256)) dX1_crcStep_16 rfl ((and_255 (2 * c))) ?_
      refine s_iload_n 18 dX1_crcStep_17 rfl rfl ?_
      refine s_sipush 21 dX1_crcStep_18 rfl (k := ?_)
      have nx : ∀ t : Int, t = (if 128 ≤ c then 7 else 0) → V G (AP G F) yX1_crcStep cX1_crcStep 3 (some .int) d (T, N, R, P, S, cn, un) 30 [some (vi s), some (vi c), some (vi k)] [vi t, vi (2 * c % 256)] post := by
        intro t ht
        refine s_ixor 31 ((crc1 c)) dX1_crcStep_30 rfl ((by rw [crc1_p hc, ← ht]; exact xor_xr (by omega) (by rw [ht]; split <;> omega))) ?_
        refine s_istore_n 32 dX1_crcStep_31 rfl (Nat.le_of_ble_eq_true rfl) rfl ?_
        refine s_iinc 35 dX1_crcStep_32 rfl rfl (Nat.le_of_ble_eq_true rfl) rfl ?_
        refine s_goto 4 dX1_crcStep_35 rfl ?_
        refine ih (k + 1) (crc1 c) (by omega) hxr ?_
        rw [he, rep1]
      refine s_icmp_lt 24 29 dX1_crcStep_21 rfl rfl (fun g2 => ?_) (fun g2 => ?_)
      · refine s_iconst 30 dX1_crcStep_29 rfl ?_
        exact nx 0 (by rw [if_neg (by omega)])
      · refine s_bipush 26 dX1_crcStep_24 rfl (k := ?_)
        refine s_goto 30 dX1_crcStep_26 rfl ?_
        exact nx 7 (by rw [if_pos (by omega)])
  exact key 8 0 s (by omega) hs rfl
theorem q_checkOf {x k : Nat} {l : List Int} (hS : FrS T x) (hru : RuP N (x + 1) ru) (hR : R (x + 4) = l) (hb : byt l) (hl : l.length ≤ 1000) (hk : k ≤ l.length) (hck : ru 3 = 1 ∨ ru 3 = 2) (hp : post (some (vi (chkF (ru 3) (l.take k)))) (T, N, R, P, S, cn, un)) : Cm G (AP G F) yX1_checkOf cX1_checkOf 4 (some .int) (d + 2) [.ref x, vi k] (T, N, R, P, S, cn, un) post := by
  obtain ⟨t0, ⟨t1, t2, t3⟩, t4, t5, t6⟩ := hS
  have r3 := hru.2.2.2.1
  refine Cm_intro (L := [some (.ref x), some (vi k), none, none]) (by decide +kernel) (Nat.le_of_ble_eq_true rfl) rfl ?_
  refine s_iconst 1 dX1_checkOf_0 rfl ?_
  refine s_istore_n 2 dX1_checkOf_1 rfl (Nat.le_of_ble_eq_true rfl) rfl ?_
  refine s_iconst 3 dX1_checkOf_2 rfl ?_
  refine s_istore_n 4 dX1_checkOf_3 rfl (Nat.le_of_ble_eq_true rfl) rfl ?_
  have key : ∀ (m i : Nat), i + m = k → V G (AP G F) yX1_checkOf cX1_checkOf 4 (some .int) (d + 2) (T, N, R, P, S, cn, un) 4 [some (.ref x), some (vi k), some (vi (chkF (ru 3) (l.take i))), some (vi i)] [] post := by
    intro m
    induction m with
    | zero =>
      intro i hi
      refine s_iload_n 5 dX1_checkOf_4 rfl rfl ?_
      refine s_iload_n 6 dX1_checkOf_5 rfl rfl ?_
      refine s_icmp_ge 9 57 dX1_checkOf_6 rfl rfl (fun g => ?_) (fun g => ?_)
      rotate_left
      · omega
      refine s_iload_n 58 dX1_checkOf_57 rfl rfl ?_
      refine s_ireturn rfl dX1_checkOf_58 ?_
      rw [show i = k by omega]
      exact hp
    | succ m ih =>
      intro i hi
      have hc := chkF_rg (ck := ru 3) (byt_take hb i)
      have hv := byt_at hb i
      have et : l.take (i + 1) = l.take i ++ [l.getD i 0] := by
        have := take_snoc (bs := l) (p := 0) (r := i) (by omega)
        rw [List.drop_zero, Nat.zero_add] at this
        exact this
      have es : chkF (ru 3) (l.take (i + 1)) = chk1 (ru 3) (chkF (ru 3) (l.take i)) (l.getD i 0) := by rw [et, chkF_snoc]
      refine s_iload_n 5 dX1_checkOf_4 rfl rfl ?_
      refine s_iload_n 6 dX1_checkOf_5 rfl rfl ?_
      refine s_icmp_ge 9 57 dX1_checkOf_6 rfl rfl (fun g => ?_) (fun g => ?_)
      · omega
      refine s_aload_n 10 dX1_checkOf_9 rfl rfl ?_
      refine g_X1_rules 13 dX1_checkOf_10 rfl fl_X1_12 ?_
      refine g_X6_check 16 dX1_checkOf_13 rfl fl_X1_74 (fun hr13 => ?_)
      rw [r3]
      refine s_iconst 17 dX1_checkOf_16 rfl ?_
      refine s_icmp_ne 20 36 dX1_checkOf_17 rfl rfl (fun g2 => ?_) (fun g2 => ?_)
      · refine s_iload_n 37 dX1_checkOf_36 rfl rfl ?_
        refine s_aload_n 38 dX1_checkOf_37 rfl rfl ?_
        refine g_X1_plain 41 dX1_checkOf_38 rfl fl_X1_23 ?_
        refine s_iload_n 42 dX1_checkOf_41 rfl rfl ?_
        refine s_V1i 45 dX1_checkOf_42 rfl km_X5_at ml_X1_95 ds_X5_at (Nat.le_of_ble_eq_true rfl) (q_recR (by assumption)) rfl (r_atK t4 hR (by constructor <;> omega) (fun hr => ?_))
        refine ⟨_, rfl, ?_⟩
        rw [atF_in (by omega)]
        refine s_iadd 46 dX1_checkOf_45 rfl ?_
        refine s_sipush 49 dX1_checkOf_46 rfl (k := ?_)
        refine s_iand 50 (((chkF (ru 3) (l.take i) + l.getD i 0) % 256)) dX1_checkOf_49 rfl ((and_255 _)) ?_
        refine s_istore_n 51 dX1_checkOf_50 rfl (Nat.le_of_ble_eq_true rfl) rfl ?_
        refine s_iinc 54 dX1_checkOf_51 rfl rfl (Nat.le_of_ble_eq_true rfl) rfl ?_
        refine s_goto 4 dX1_checkOf_54 rfl ?_
        rw [show (chkF (ru 3) (l.take i) + l.getD i 0) % 256 = chkF (ru 3) (l.take (i + 1)) by rw [es]; unfold chk1; rw [if_pos (by omega)]]
        exact ih (i + 1) (by omega)
      · refine s_iload_n 21 dX1_checkOf_20 rfl rfl ?_
        refine s_aload_n 22 dX1_checkOf_21 rfl rfl ?_
        refine g_X1_plain 25 dX1_checkOf_22 rfl fl_X1_23 ?_
        refine s_iload_n 26 dX1_checkOf_25 rfl rfl ?_
        refine s_V1i 29 dX1_checkOf_26 rfl km_X5_at ml_X1_95 ds_X5_at (Nat.le_of_ble_eq_true rfl) (q_recR (by assumption)) rfl (r_atK t4 hR (by constructor <;> omega) (fun hr => ?_))
        refine ⟨_, rfl, ?_⟩
        rw [atF_in (by omega)]
        have hx := xr_rg hc hv
        refine s_ixor 30 ((xr (chkF (ru 3) (l.take i)) (l.getD i 0))) dX1_checkOf_29 rfl ((xor_xr hc.1 hv.1)) ?_
        refine s_S1i 33 dX1_checkOf_30 rfl km_X1_crcStep rfl ml_X1_98 ds_X1_crcStep (Nat.le_of_ble_eq_true rfl) (q_crcStep hx ?_)
        refine ⟨_, rfl, ?_⟩
        refine s_goto 50 dX1_checkOf_33 rfl ?_
        refine s_istore_n 51 dX1_checkOf_50 rfl (Nat.le_of_ble_eq_true rfl) rfl ?_
        refine s_iinc 54 dX1_checkOf_51 rfl rfl (Nat.le_of_ble_eq_true rfl) rfl ?_
        refine s_goto 4 dX1_checkOf_54 rfl ?_
        rw [show crc8 (xr (chkF (ru 3) (l.take i)) (l.getD i 0)) = chkF (ru 3) (l.take (i + 1)) by rw [es]; unfold chk1; rw [if_neg (by omega)]]
        exact ih (i + 1) (by omega)
  have h9 := key k 0 (by omega)
  rw [List.take_zero] at h9
  exact h9
def judK (ru : RU) (bs : List Int) : Int := if 200 < bs.length then 2 else (judge ru bs).1
theorem q_judge {x z lz fr : Nat} {bs src : List Int} (hS : FrS T x) (hru : RuP N (x + 1) ru) (hwr : WfRu ru) (hz : T z = 100 + lz) (hne : z ≠ x + 4) (hR : R z = src) (hb : byt src) (hlen : src.length ≤ 1000) (hbs : bs = (src.drop fr).take bs.length) (hfr : fr + bs.length ≤ src.length) (hp : ∀ N' R', frO x (x + 1) N N' → frO (x + 4) (x + 5) R R' → (judK ru bs = 0 ∨ judK ru bs = 4 → N' x 3 = (judge ru bs).2.getD 0 0 ∧ N' x 4 = (partF ru (judge ru bs).2).length ∧ R' (x + 4) = (judge ru bs).2) → post (some (vi (judK ru bs))) (T, N', R', P, S, cn, un)) : Cm G (AP G F) yX1_judge cX1_judge 5 (some .int) (d + 4) [.ref x, .ref z, vi fr, vi bs.length] (T, N, R, P, S, cn, un) post := by
  obtain ⟨t0, ⟨t1, t2, t3⟩, t4, t5, t6⟩ := id hS
  obtain ⟨r0, r1, r2, r3, r4, r5⟩ := id hru
  obtain ⟨v0, v1, v2, v3, v4, v5⟩ := id hwr
  have hbb : byt bs := by rw [hbs]; exact byt_take (byt_drop hb _) _
  refine Cm_intro (L := [some (.ref x), some (.ref z), some (vi fr), some (vi bs.length), none]) (by decide +kernel) (Nat.le_of_ble_eq_true rfl) rfl ?_
  refine s_iload_n 1 dX1_judge_0 rfl rfl ?_
  refine s_sipush 4 dX1_judge_1 rfl (k := ?_)
  refine s_icmp_gt 7 35 dX1_judge_4 rfl rfl (fun g1 => ?_) (fun g1 => ?_)
  · refine s_iconst 36 dX1_judge_35 rfl ?_
    refine s_ireturn rfl dX1_judge_36 ?_
    rw [show judK ru bs = 2 from if_pos (by omega)] at hp
    exact hp N R frO.rf frO.rf (fun h => by omega)
  have eK : judK ru bs = (judge ru bs).1 := if_neg (by omega)
  rw [eK] at hp
  refine s_aload_n 8 dX1_judge_7 rfl rfl ?_
  refine g_X1_rules 11 dX1_judge_8 rfl fl_X1_12 ?_
  refine g_X6_stuffing 14 dX1_judge_11 rfl fl_X1_82 ?_
  refine s_aload_n 15 dX1_judge_14 rfl rfl ?_
  refine s_iload_n 16 dX1_judge_15 rfl rfl ?_
  refine s_iload_n 17 dX1_judge_16 rfl rfl ?_
  refine s_aload_n 18 dX1_judge_17 rfl rfl ?_
  refine g_X1_rules 21 dX1_judge_18 rfl fl_X1_12 ?_
  refine g_X6_way 24 dX1_judge_21 rfl fl_X1_86 (fun hr21 => ?_)
  rw [r0]
  refine s_aload_n 25 dX1_judge_24 rfl rfl ?_
  refine g_X1_plain 28 dX1_judge_25 rfl fl_X1_23 ?_
  refine s_V5i 31 dX1_judge_28 rfl km_X8_unpack ml_X1_101 ds_X8_unpack (Nat.le_of_ble_eq_true rfl) (q_rec (by assumption)) rfl (q_unpack (Ln := (ru 1).toNat) (Zn := (ru 2).toNat) t2 hz t4 hne hR hb hlen hbs hfr (by omega) (by rw [show N (x + 1 + 1) 0 = ru 1 from r1]; omega) (by rw [show N (x + 1 + 1) 1 = ru 2 from r2]; omega) (by omega) (by omega) v0 (fun l' hl' => ?_))
  refine ⟨_, rfl, ?_⟩
  have hur := unF_rg (L := (ru 1).toNat) (Z := (ru 2).toNat) (way := ru 0) (bs := bs)
  refine s_iconst 32 dX1_judge_31 rfl ?_
  refine s_icmp_eq 35 37 dX1_judge_32 rfl rfl (fun g2 => ?_) (fun g2 => ?_)
  rotate_left
  · refine s_iconst 36 dX1_judge_35 rfl ?_
    refine s_ireturn rfl dX1_judge_36 ?_
    rw [judge_2 g2] at hp
    exact hp N _ frO.rf (frO.rf.up (by omega)) (fun h => by have : (2 : Int) = 0 ∨ (2 : Int) = 4 := h; omega)
  have hl' := hl' g2
  obtain ⟨ub1, ub2⟩ := unF_byt (L := (ru 1).toNat) (Z := (ru 2).toNat) (way := ru 0) hbb
  generalize hpl : (unF (ru 1).toNat (ru 2).toNat (ru 0) bs).2 = pl at *
  subst hl'
  have hck : ckl (ru 3) ≤ 1 := by unfold ckl; split <;> omega
  have eP : up R (x + 4) l' (x + 4) = l' := up_s _ _ _
  refine s_aload_n 38 dX1_judge_37 rfl rfl ?_
  refine g_X1_plain 41 dX1_judge_38 rfl fl_X1_23 ?_
  refine g_X5_size 44 dX1_judge_41 rfl fl_X1_77 ?_
  rw [eP]
  refine s_aload_n 45 dX1_judge_44 rfl rfl ?_
  refine g_X1_rules 48 dX1_judge_45 rfl fl_X1_12 ?_
  refine s_V0i 51 dX1_judge_48 rfl km_X6_checkBytes ml_X1_105 ds_X6_checkBytes (Nat.le_of_ble_eq_true rfl) (q_rec (by assumption)) rfl (q_checkBytes t1 ?_)
  refine ⟨_, rfl, ?_⟩
  rw [r3]
  refine s_isub 52 dX1_judge_51 rfl ?_
  refine s_istore 54 dX1_judge_52 rfl (Nat.le_of_ble_eq_true rfl) rfl ?_
  refine s_iload 56 dX1_judge_54 rfl rfl ?_
  refine s_iconst 57 dX1_judge_56 rfl ?_
  refine s_icmp_ge 60 62 dX1_judge_57 rfl rfl (fun g3 => ?_) (fun g3 => ?_)
  rotate_left
  · refine s_iconst 61 dX1_judge_60 rfl ?_
    refine s_ireturn rfl dX1_judge_61 ?_
    rw [judge_3 g2 hpl (Or.inl (by omega))] at hp
    exact hp N _ frO.rf (frO.rf.up (by omega)) (fun h => by have : (3 : Int) = 0 ∨ (3 : Int) = 4 := h; omega)
  rw [show (l'.length : Int) - ((ckl (ru 3) : Nat) : Int) = ((l'.length - ckl (ru 3) : Nat) : Int) by omega]
  -- it is told
  have fin : ¬ (l'.length < 1 + ckl (ru 3) ∨ (ru 3 ≠ 0 ∧ chkF (ru 3) (l'.take (l'.length - 1)) ≠ l'.getD (l'.length - 1) 0)) → V G (AP G F) yX1_judge cX1_judge 5 (some .int) (d + 4) (T, N, up R (x + 4) l', P, S, cn, un) 92 [some (.ref x), some (.ref z), some (vi fr), some (vi bs.length), some (vi ((l'.length - ckl (ru 3) : Nat) : Int))] [] post := by
    intro hok
    have ej := judge_ok g2 hpl hok
    rw [ej] at hp
    have hh := byt_at ub1 0
    refine s_aload_n 93 dX1_judge_92 rfl rfl ?_
    refine s_aload_n 94 dX1_judge_93 rfl rfl ?_
    refine g_X1_plain 97 dX1_judge_94 rfl fl_X1_23 ?_
    refine s_iconst 98 dX1_judge_97 rfl ?_
    refine s_V1i 101 dX1_judge_98 rfl km_X5_at ml_X1_95 ds_X5_at (Nat.le_of_ble_eq_true rfl) (q_recR (by assumption)) rfl (r_atK t4 eP (by decide) (fun hr => ?_))
    refine ⟨_, rfl, ?_⟩
    rw [show atF l' 0 = l'.getD 0 0 from atF_in (k := 0) (by omega)] at hr ⊢
    refine p_X1_head 104 dX1_judge_101 rfl fl_X1_108 ?_
    refine s_aload_n 105 dX1_judge_104 rfl rfl ?_
    refine s_iload 107 dX1_judge_105 rfl rfl ?_
    refine s_iconst 108 dX1_judge_107 rfl ?_
    refine s_isub 109 dX1_judge_108 rfl ?_
    refine p_X1_part 112 dX1_judge_109 rfl fl_X1_111 ?_
    generalize hN2 : up (up N x (up (N x) 3 (l'.getD 0 0))) x (up (up N x (up (N x) 3 (l'.getD 0 0)) x) 4 (((l'.length - ckl (ru 3) : Nat) : Int) - 1)) = N2
    have fr1 : frO x (x + 1) N N2 := by rw [← hN2]; exact (frO.rf.up (by omega)).up (by omega)
    have told : N2 x 3 = l'.getD 0 0 ∧ N2 x 4 = (partF ru l').length := by
      rw [← hN2]
      refine ⟨by rw [up_s, up_n (by decide), up_s, up_s], ?_⟩
      rw [up_s, up_s, partF_len]
      omega
    have hx1 : N2 (x + 1) = N (x + 1) := fr1 _ (by omega)
    refine s_aload_n 113 dX1_judge_112 rfl rfl ?_
    refine g_X1_head 116 dX1_judge_113 rfl fl_X1_108 (fun hr113 => ?_)
    rw [told.1]
    refine s_bipush 118 dX1_judge_116 rfl (k := ?_)
    refine s_ishr 119 ((l'.getD 0 0 / 64)) dX1_judge_118 rfl ((shr_k (by omega) 6 (by decide))) ?_
    refine s_aload_n 120 dX1_judge_119 rfl rfl ?_
    refine g_X1_rules 123 dX1_judge_120 rfl fl_X1_12 ?_
    refine g_X6_ports 126 dX1_judge_123 rfl fl_X1_114 (fun hr123 => ?_)
    rw [hx1, r5]
    refine s_icmp_ge 129 143 dX1_judge_126 rfl rfl (fun g5 => ?_) (fun g5 => ?_)
    · refine s_iconst 144 dX1_judge_143 rfl ?_
      refine s_goto 148 dX1_judge_144 rfl ?_
      refine s_ireturn rfl dX1_judge_148 ?_
      rw [if_pos (Or.inl g5)] at hp
      exact hp _ _ fr1 (frO.rf.up (by omega)) (fun _ => ⟨told.1, told.2, eP⟩)
    refine s_aload_n 130 dX1_judge_129 rfl rfl ?_
    refine g_X1_part 133 dX1_judge_130 rfl fl_X1_111 (fun hr130 => ?_)
    refine s_aload_n 134 dX1_judge_133 rfl rfl ?_
    refine g_X1_rules 137 dX1_judge_134 rfl fl_X1_12 ?_
    refine g_X6_size 140 dX1_judge_137 rfl fl_X1_45 (fun hr137 => ?_)
    rw [hx1, r4, told.2]
    refine s_icmp_le 143 147 dX1_judge_140 rfl rfl (fun g6 => ?_) (fun g6 => ?_)
    · refine s_iconst 148 dX1_judge_147 rfl ?_
      refine s_ireturn rfl dX1_judge_148 ?_
      rw [partF_len] at g6
      rw [if_neg (fun h => by omega)] at hp
      exact hp _ _ fr1 (frO.rf.up (by omega)) (fun _ => ⟨told.1, told.2, eP⟩)
    · refine s_iconst 144 dX1_judge_143 rfl ?_
      refine s_goto 148 dX1_judge_144 rfl ?_
      refine s_ireturn rfl dX1_judge_148 ?_
      rw [partF_len] at g6
      rw [if_pos (Or.inr (by omega))] at hp
      exact hp _ _ fr1 (frO.rf.up (by omega)) (fun _ => ⟨told.1, told.2, eP⟩)
  refine s_aload_n 63 dX1_judge_62 rfl rfl ?_
  refine g_X1_rules 66 dX1_judge_63 rfl fl_X1_12 ?_
  refine g_X6_check 69 dX1_judge_66 rfl fl_X1_74 (fun hr66 => ?_)
  rw [r3]
  refine s_if_eq 72 92 dX1_judge_69 rfl rfl (fun g4 => ?_) (fun g4 => ?_)
  · exact fin (fun h => by rcases h with h | h <;> omega)
  have e1 : ckl (ru 3) = 1 := if_neg g4
  refine s_aload_n 73 dX1_judge_72 rfl rfl ?_
  refine g_X1_plain 76 dX1_judge_73 rfl fl_X1_23 ?_
  refine s_iload 78 dX1_judge_76 rfl rfl ?_
  refine s_V1i 81 dX1_judge_78 rfl km_X5_at ml_X1_95 ds_X5_at (Nat.le_of_ble_eq_true rfl) (q_recR (by assumption)) rfl (r_atK t4 eP (by constructor <;> omega) (fun hr => ?_))
  refine ⟨_, rfl, ?_⟩
  rw [atF_in (by omega)] at hr ⊢
  refine s_aload_n 82 dX1_judge_81 rfl rfl ?_
  refine s_iload 84 dX1_judge_82 rfl rfl ?_
  refine s_V1i 87 dX1_judge_84 rfl km_X1_checkOf ml_X1_78 ds_X1_checkOf (Nat.le_of_ble_eq_true rfl) (q_rec (by assumption)) rfl (q_checkOf hS hru eP ub1 (by omega) (by omega) (by omega) ?_)
  refine ⟨_, rfl, ?_⟩
  have hcr := chkF_rg (ck := ru 3) (byt_take ub1 (l'.length - ckl (ru 3)))
  have e2 : l'.length - ckl (ru 3) = l'.length - 1 := by rw [e1]
  refine s_icmp_eq 90 92 dX1_judge_87 rfl rfl (fun g5 => ?_) (fun g5 => ?_)
  · exact fin (fun h => by
      rcases h with h | h
      · omega
      · exact h.2 (by rw [← e2]; exact g5.symm))
  · refine s_iconst 91 dX1_judge_90 rfl ?_
    refine s_ireturn rfl dX1_judge_91 ?_
    rw [judge_3 g2 hpl (Or.inr ⟨g4, fun h => g5 (by rw [e2]; exact h.symm)⟩)] at hp
    exact hp N _ frO.rf (frO.rf.up (by omega)) (fun h => by have : (3 : Int) = 0 ∨ (3 : Int) = 4 := h; omega)
end FRAME
