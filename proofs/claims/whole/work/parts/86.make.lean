/-! ===== objects made: cells by their addresses ===== -/
def dfX0 : List Value := [.long 0]
theorem dfX0_ok : ∀ j, j < 1 → defaultValue (tyX0 j) = vp_V dfX0 j := by
  intro j hj
  match j, hj with
  | 0, _ => rfl
def dfX1 : List Value := [.null, .null, .null, vi 0, vi 0, .null]
theorem dfX1_ok : ∀ j, j < 6 → defaultValue (tyX1 j) = vp_V dfX1 j := by
  intro j hj
  match j, hj with
  | 0, _ => rfl
  | 1, _ => rfl
  | 2, _ => rfl
  | 3, _ => rfl
  | 4, _ => rfl
  | 5, _ => rfl
def dfX2 : List Value := [.null, .null, .null]
theorem dfX2_ok : ∀ j, j < 3 → defaultValue (tyX2 j) = vp_V dfX2 j := by
  intro j hj
  match j, hj with
  | 0, _ => rfl
  | 1, _ => rfl
  | 2, _ => rfl
def dfX3 : List Value := [vi 0, .null, vi 0]
theorem dfX3_ok : ∀ j, j < 3 → defaultValue (tyX3 j) = vp_V dfX3 j := by
  intro j hj
  match j, hj with
  | 0, _ => rfl
  | 1, _ => rfl
  | 2, _ => rfl
def dfX4 : List Value := [.null, .null, .null, vi 0, vi 0, vi 0, vi 0, vi 0, vi 0, vi 0, vi 0, vi 0]
theorem dfX4_ok : ∀ j, j < 12 → defaultValue (tyX4 j) = vp_V dfX4 j := by
  intro j hj
  match j, hj with
  | 0, _ => rfl
  | 1, _ => rfl
  | 2, _ => rfl
  | 3, _ => rfl
  | 4, _ => rfl
  | 5, _ => rfl
  | 6, _ => rfl
  | 7, _ => rfl
  | 8, _ => rfl
  | 9, _ => rfl
  | 10, _ => rfl
  | 11, _ => rfl
def dfX5 : List Value := [vi 0, .null, vi 0]
theorem dfX5_ok : ∀ j, j < 3 → defaultValue (tyX5 j) = vp_V dfX5 j := by
  intro j hj
  match j, hj with
  | 0, _ => rfl
  | 1, _ => rfl
  | 2, _ => rfl
def dfX6 : List Value := [.null, .null, vi 0, vi 0, vi 0, vi 0]
theorem dfX6_ok : ∀ j, j < 6 → defaultValue (tyX6 j) = vp_V dfX6 j := by
  intro j hj
  match j, hj with
  | 0, _ => rfl
  | 1, _ => rfl
  | 2, _ => rfl
  | 3, _ => rfl
  | 4, _ => rfl
  | 5, _ => rfl
def dfX7 : List Value := [.null, .null, .null, vi 0, vi 0, .null, vi 0, vi 0]
theorem dfX7_ok : ∀ j, j < 8 → defaultValue (tyX7 j) = vp_V dfX7 j := by
  intro j hj
  match j, hj with
  | 0, _ => rfl
  | 1, _ => rfl
  | 2, _ => rfl
  | 3, _ => rfl
  | 4, _ => rfl
  | 5, _ => rfl
  | 6, _ => rfl
  | 7, _ => rfl
def dfX8 : List Value := [vi 0, vi 0]
theorem dfX8_ok : ∀ j, j < 2 → defaultValue (tyX8 j) = vp_V dfX8 j := by
  intro j hj
  match j, hj with
  | 0, _ => rfl
  | 1, _ => rfl
def dfX9 : List Value := [.null, .null, vi 0, vi 0, vi 0, vi 0]
theorem dfX9_ok : ∀ j, j < 6 → defaultValue (tyX9 j) = vp_V dfX9 j := by
  intro j hj
  match j, hj with
  | 0, _ => rfl
  | 1, _ => rfl
  | 2, _ => rfl
  | 3, _ => rfl
  | 4, _ => rfl
  | 5, _ => rfl
def dfX10 : List Value := [vi 0, vi 0, vi 0]
theorem dfX10_ok : ∀ j, j < 3 → defaultValue (tyX10 j) = vp_V dfX10 j := by
  intro j hj
  match j, hj with
  | 0, _ => rfl
  | 1, _ => rfl
  | 2, _ => rfl
def dfX11 : List Value := [.null, .null, .null, .null, .null, .null, .null, .null, .null, .null, .null, vi 0, vi 0]
theorem dfX11_ok : ∀ j, j < 13 → defaultValue (tyX11 j) = vp_V dfX11 j := by
  intro j hj
  match j, hj with
  | 0, _ => rfl
  | 1, _ => rfl
  | 2, _ => rfl
  | 3, _ => rfl
  | 4, _ => rfl
  | 5, _ => rfl
  | 6, _ => rfl
  | 7, _ => rfl
  | 8, _ => rfl
  | 9, _ => rfl
  | 10, _ => rfl
  | 11, _ => rfl
  | 12, _ => rfl
section MAKE
variable {G : GT} {y : MethodName} {cc : ByteArray} {nL : Nat} {rt : Option FieldType} {d : Nat} {σ : HS} {nn uu : Nat} {pc : Nat} {L : List (Option Value)} {st : List Value} {post : Option Value → HS × Nat × Nat → Prop}
theorem h_putG {x ci N i : Nat} {Cn : String} {T : u_T} {fs : List Value} {v : Value} (ty0 : Nat → FieldType) (q k : Nat) (hd : decode cc pc = .ok (.putfield i, 3)) (hq : pc + 3 = q) (hσ : σ x = some (.inr (ci, fs))) (hc : vwCl[ci]? = some (Cn, T, N)) (hin : ∀ w ∈ u_ws Cn T N, w ∈ gTB) (hty : ∀ k, k < N → parseFieldDescriptor (T k).2.2.1 = some (ty0 k)) (hnm : ∀ a, a < N → ∀ b, b < N → a ≠ b → (T a).2.1 ≠ (T b).2.1) (hw : Cond.fieldLink y.cls i (T k).1 (T k).2.1 (T k).2.2.1 ∈ gTB) (hk : k < N) (hfin : (T k).2.2.2 = false ∨ (T k).2.2.2 = true ∧ y.name = "<init>" ∧ (T k).1 = y.cls) (hn1 : narrow (ty0 k) v = v) (hfit : fits (ty0 k) v = true) (hlen : k < fs.length) (kk : ∀ σ' : HS, σ' x = some (.inr (ci, fs.set k v)) → (∀ z, z ≠ x → σ' z = σ z) → V G (A1 G) y cc nL rt d (σ', nn, uu) q L st post) : V G (A1 G) y cc nL rt d (σ, nn, uu) pc L (v :: .ref x :: st) post := h_put ty0 q k hd hq hσ hc hin hty hnm hw hk hfin hn1 hfit hlen (kk _ (up_s _ _ _) (fun z hz => up_n hz))
theorem h_newG {ci N i : Nat} {Cn : String} {T : u_T} {fs : List Value} (ty0 : Nat → FieldType) (q : Nat) (hd : decode cc pc = .ok (.new i, 3)) (hq : pc + 3 = q) (hc : vwCl[ci]? = some (Cn, T, N)) (hin : ∀ w ∈ u_ws Cn T N, w ∈ gTB) (hty : ∀ k, k < N → parseFieldDescriptor (T k).2.2.1 = some (ty0 k)) (hw : Cond.classLink y.cls i Cn ∈ gTB) (hi : Cond.instantiable Cn N ∈ gTB) (hini : Cond.initialized Cn ∈ gTB) (hfs : ∀ j, j < N → defaultValue (ty0 j) = vp_V fs j) (hN : nn + 1 ≤ gN G) (hU : uu + N ≤ gU G) (kk : ∀ σ' : HS, σ' nn = some (.inr (ci, fs)) → (∀ z, z ≠ nn → σ' z = σ z) → V G (A1 G) y cc nL rt d (σ', nn + 1, uu + N) q L (.ref nn :: st) post) : V G (A1 G) y cc nL rt d (σ, nn, uu) pc L st post := h_new ty0 q hd hq hc hin hty hw hi hini hfs hN hU (kk _ (up_s _ _ _) (fun z hz => up_n hz))
theorem h_newaG {N : Nat} {z : Int} (q : Nat) (hd : decode cc pc = .ok (.newarray .int, 2)) (hq : pc + 2 = q) (hz : z = N) (hz2 : N ≤ 134217728) (hN : nn + 1 ≤ gN G) (hU : uu + N ≤ gU G) (kk : ∀ σ' : HS, σ' nn = some (.inl (gK G 0, N, .inl (fun _ => 0))) → (∀ z, z ≠ nn → σ' z = σ z) → V G (A1 G) y cc nL rt d (σ', nn + 1, uu + N) q L (.ref nn :: st) post) : V G (A1 G) y cc nL rt d (σ, nn, uu) pc L (vi z :: st) post := h_newa q hd hq hz hz2 hN hU (kk _ (up_s _ _ _) (fun z hz => up_n hz))
def RowC (G : GT) (σ : HS) (x lim : Nat) : Prop := σ x = some (.inr (5, [vi lim, .ref (x + 1), vi 0])) ∧ σ (x + 1) = some (.inl (gK G 0, 0, .inl (fun _ => 0)))
def MailC (G : GT) (σ : HS) (x : Nat) : Prop := σ x = some (.inr (2, [.ref (x + 1), .ref (x + 3), .ref (x + 5)])) ∧ RowC G σ (x + 1) 960 ∧ RowC G σ (x + 3) 8 ∧ RowC G σ (x + 5) 8
def PortC (G : GT) (σ : HS) (x : Nat) : Prop := σ x = some (.inr (4, [.ref (x + 1), .ref (x + 8), .ref (x + 15), vi 0, vi 0, vi 0, vi 0, vi 0, vi 0, vi 0, vi 0, vi 0])) ∧ MailC G σ (x + 1) ∧ MailC G σ (x + 8) ∧ RowC G σ (x + 15) 120
def StateC (G : GT) (σ : HS) (x : Nat) : Prop := σ x = some (.inr (7, [.ref (x + 1), .ref (x + 3), .ref (x + 5), vi 0, vi (-1), .ref (x + 7), vi 0, vi 0])) ∧ RowC G σ (x + 1) 600 ∧ RowC G σ (x + 3) 200 ∧ RowC G σ (x + 5) 200 ∧ σ (x + 7) = some (.inl (gK G 2, 4, .inr (.inr (.inr (.inr (fun k => some (x + 7 + 1 + 17 * k))))))) ∧ ∀ c, c < 4 → PortC G σ (x + 7 + 1 + 17 * c)
theorem RowC.off {σ σ' : HS} {x lim : Nat} (h : RowC G σ x lim) (he : ∀ z, x ≤ z → z < x + 2 → σ' z = σ z) : RowC G σ' x lim := ⟨by rw [he _ (by omega) (by omega)]; exact h.1, by rw [he _ (by omega) (by omega)]; exact h.2⟩
theorem MailC.off {σ σ' : HS} {x : Nat} (h : MailC G σ x) (he : ∀ z, x ≤ z → z < x + 7 → σ' z = σ z) : MailC G σ' x := ⟨by rw [he _ (by omega) (by omega)]; exact h.1, h.2.1.off (fun z a b => he z (by omega) (by omega)), h.2.2.1.off (fun z a b => he z (by omega) (by omega)), h.2.2.2.off (fun z a b => he z (by omega) (by omega))⟩
theorem PortC.off {σ σ' : HS} {x : Nat} (h : PortC G σ x) (he : ∀ z, x ≤ z → z < x + 17 → σ' z = σ z) : PortC G σ' x := ⟨by rw [he _ (by omega) (by omega)]; exact h.1, h.2.1.off (fun z a b => he z (by omega) (by omega)), h.2.2.1.off (fun z a b => he z (by omega) (by omega)), h.2.2.2.off (fun z a b => he z (by omega) (by omega))⟩
theorem k_Row {x lim : Nat} (hσ : σ x = some (.inr (5, dfX5))) (hN : x + 2 ≤ gN G) (hU : uu ≤ gU G) (hp : ∀ σ' : HS, (∀ z, z < x → σ' z = σ z) → RowC G σ' x lim → post none (σ', x + 2, uu)) : Cm G (A1 G) yX5_init cX5_init 2 none (d + 1) [.ref x, vi lim] (σ, x + 1, uu) post := by
  refine Cm_intro (L := [some (.ref x), some (vi lim)]) (by decide +kernel) (Nat.le_of_ble_eq_true rfl) rfl ?_
  refine s_aload_n 1 dX5_init_0 rfl rfl ?_
  refine s_objInit 4 dX5_init_1 rfl ml_X5_3 (Nat.le_of_ble_eq_true rfl) ?_
  refine s_aload_n 5 dX5_init_4 rfl rfl ?_
  refine s_iconst 6 dX5_init_5 rfl ?_
  refine h_newaG (N := 0) 8 dX5_init_6 rfl rfl (by decide) (by omega) (by omega) (fun σ1 a1 b1 => ?_)
  refine h_putG (Cn := RX5) (T := TX5) (N := 3) tyX5 11 1 dX5_init_8 rfl ((b1 x (by omega)).trans hσ) rfl lay_X5 tyX5_ok nmX5 fl_X5_9 (by decide) (Or.inl rfl) rfl rfl (by show 1 < 3; decide) (fun σ2 a2 b2 => ?_)
  refine s_aload_n 12 dX5_init_11 rfl rfl ?_
  refine s_iload_n 13 dX5_init_12 rfl rfl ?_
  refine h_putG (Cn := RX5) (T := TX5) (N := 3) tyX5 16 0 dX5_init_13 rfl a2 rfl lay_X5 tyX5_ok nmX5 fl_X5_15 (by decide) (Or.inr ⟨rfl, rfl, rfl⟩) rfl rfl (by show 0 < 3; decide) (fun σ3 a3 b3 => ?_)
  refine s_return rfl dX5_init_16 ?_
  refine hp σ3 (fun z hz => by rw [b3 z (by omega), b2 z (by omega), b1 z (by omega)]) ⟨a3, by rw [b3 _ (by omega), b2 _ (by omega)]; exact a1⟩
theorem k_Mail {x : Nat} (hσ : σ x = some (.inr (2, dfX2))) (hN : x + 7 ≤ gN G) (hU : uu + 9 ≤ gU G) (hp : ∀ σ' : HS, (∀ z, z < x → σ' z = σ z) → MailC G σ' x → post none (σ', x + 7, uu + 9)) : Cm G (A1 G) yX2_init cX2_init 1 none (d + 2) [.ref x] (σ, x + 1, uu) post := by
  refine Cm_intro (L := [some (.ref x)]) (by decide +kernel) (Nat.le_of_ble_eq_true rfl) rfl ?_
  refine s_aload_n 1 dX2_init_0 rfl rfl ?_
  refine s_objInit 4 dX2_init_1 rfl ml_X2_3 (Nat.le_of_ble_eq_true rfl) ?_
  refine s_aload_n 5 dX2_init_4 rfl rfl ?_
  refine h_newG (ci := 5) (Cn := RX5) (T := TX5) (N := 3) (fs := dfX5) tyX5 8 dX2_init_5 rfl rfl lay_X5 tyX5_ok cl_X2_9 ib_X5 it_X5 dfX5_ok (by omega) (by omega) (fun σ1 a1 b1 => ?_)
  refine s_dup (q := 9) (hd := dX2_init_8) (hq := rfl) (k := ?_)
  refine s_sipush 12 dX2_init_9 rfl (k := ?_)
  refine s_I1 15 dX2_init_12 rfl km_X5_init ml_X2_11 ds_X5_init (Nat.le_of_ble_eq_true rfl) (k_Row (x := x + 1) (lim := 960) a1 (by omega) (by omega) (fun σ2 b2 a2 => ?_))
  refine ⟨rfl, ?_⟩
  refine h_putG (Cn := RX2) (T := TX2) (N := 3) tyX2 18 0 dX2_init_15 rfl (show σ2 x = _ from by rw [b2 x (by omega), b1 x (by omega)]; exact hσ) rfl lay_X2 tyX2_ok nmX2 fl_X2_14 (by decide) (Or.inr ⟨rfl, rfl, rfl⟩) rfl rfl (by show 0 < 3; decide) (fun σ3 a3 b3 => ?_)
  refine s_aload_n 19 dX2_init_18 rfl rfl ?_
  refine h_newG (ci := 5) (Cn := RX5) (T := TX5) (N := 3) (fs := dfX5) tyX5 22 dX2_init_19 rfl rfl lay_X5 tyX5_ok cl_X2_9 ib_X5 it_X5 dfX5_ok (by omega) (by omega) (fun σ4 a4 b4 => ?_)
  refine s_dup (q := 23) (hd := dX2_init_22) (hq := rfl) (k := ?_)
  refine s_bipush 25 dX2_init_23 rfl (k := ?_)
  refine s_I1 28 dX2_init_25 rfl km_X5_init ml_X2_11 ds_X5_init (Nat.le_of_ble_eq_true rfl) (k_Row (x := x + 3) (lim := 8) a4 (by omega) (by omega) (fun σ5 b5 a5 => ?_))
  refine ⟨rfl, ?_⟩
  refine h_putG (Cn := RX2) (T := TX2) (N := 3) tyX2 31 1 dX2_init_28 rfl (show σ5 x = _ from by rw [b5 x (by omega), b4 x (by omega)]; exact a3) rfl lay_X2 tyX2_ok nmX2 fl_X2_20 (by decide) (Or.inr ⟨rfl, rfl, rfl⟩) rfl rfl (by show 1 < 3; decide) (fun σ6 a6 b6 => ?_)
  refine s_aload_n 32 dX2_init_31 rfl rfl ?_
  refine h_newG (ci := 5) (Cn := RX5) (T := TX5) (N := 3) (fs := dfX5) tyX5 35 dX2_init_32 rfl rfl lay_X5 tyX5_ok cl_X2_9 ib_X5 it_X5 dfX5_ok (by omega) (by omega) (fun σ7 a7 b7 => ?_)
  refine s_dup (q := 36) (hd := dX2_init_35) (hq := rfl) (k := ?_)
  refine s_bipush 38 dX2_init_36 rfl (k := ?_)
  refine s_I1 41 dX2_init_38 rfl km_X5_init ml_X2_11 ds_X5_init (Nat.le_of_ble_eq_true rfl) (k_Row (x := x + 5) (lim := 8) a7 (by omega) (by omega) (fun σ8 b8 a8 => ?_))
  refine ⟨rfl, ?_⟩
  refine h_putG (Cn := RX2) (T := TX2) (N := 3) tyX2 44 2 dX2_init_41 rfl (show σ8 x = _ from by rw [b8 x (by omega), b7 x (by omega)]; exact a6) rfl lay_X2 tyX2_ok nmX2 fl_X2_23 (by decide) (Or.inr ⟨rfl, rfl, rfl⟩) rfl rfl (by show 2 < 3; decide) (fun σ9 a9 b9 => ?_)
  refine s_return rfl dX2_init_44 ?_
  refine hp σ9 (fun z hz => by rw [b9 z (by omega), b8 z (by omega), b7 z (by omega), b6 z (by omega), b5 z (by omega), b4 z (by omega), b3 z (by omega), b2 z (by omega), b1 z (by omega)]) ⟨a9, a2.off (fun z p q => ?_), a5.off (fun z p q => ?_), a8.off (fun z p q => ?_)⟩
  · rw [b9 z (by omega), b8 z (by omega), b7 z (by omega), b6 z (by omega), b5 z (by omega), b4 z (by omega), b3 z (by omega)]
  · rw [b9 z (by omega), b8 z (by omega), b7 z (by omega), b6 z (by omega)]
  · rw [b9 z (by omega)]
theorem k_Port {x : Nat} (hσ : σ x = some (.inr (4, dfX4))) (hN : x + 17 ≤ gN G) (hU : uu + 27 ≤ gU G) (hp : ∀ σ' : HS, (∀ z, z < x → σ' z = σ z) → PortC G σ' x → post none (σ', x + 17, uu + 27)) : Cm G (A1 G) yX4_init cX4_init 1 none (d + 3) [.ref x] (σ, x + 1, uu) post := by
  refine Cm_intro (L := [some (.ref x)]) (by decide +kernel) (Nat.le_of_ble_eq_true rfl) rfl ?_
  refine s_aload_n 1 dX4_init_0 rfl rfl ?_
  refine s_objInit 4 dX4_init_1 rfl ml_X4_3 (Nat.le_of_ble_eq_true rfl) ?_
  refine s_aload_n 5 dX4_init_4 rfl rfl ?_
  refine h_newG (ci := 2) (Cn := RX2) (T := TX2) (N := 3) (fs := dfX2) tyX2 8 dX4_init_5 rfl rfl lay_X2 tyX2_ok cl_X4_9 ib_X2 it_X2 dfX2_ok (by omega) (by omega) (fun σ1 a1 b1 => ?_)
  refine s_dup (q := 9) (hd := dX4_init_8) (hq := rfl) (k := ?_)
  refine s_N0 (host := RX11) 12 dX4_init_9 rfl km_X2_init (by decide) ds_X2_init (Nat.le_of_ble_eq_true rfl) (k_Mail (x := x + 1) a1 (by omega) (by omega) (fun σ2 b2 a2 => ?_))
  refine ⟨rfl, ?_⟩
  refine h_putG (Cn := RX4) (T := TX4) (N := 12) tyX4 15 0 dX4_init_12 rfl (show σ2 x = _ from by rw [b2 x (by omega), b1 x (by omega)]; exact hσ) rfl lay_X4 tyX4_ok nmX4 fl_X4_12 (by decide) (Or.inr ⟨rfl, rfl, rfl⟩) rfl rfl (by show 0 < 12; decide) (fun σ3 a3 b3 => ?_)
  refine s_aload_n 16 dX4_init_15 rfl rfl ?_
  refine h_newG (ci := 2) (Cn := RX2) (T := TX2) (N := 3) (fs := dfX2) tyX2 19 dX4_init_16 rfl rfl lay_X2 tyX2_ok cl_X4_9 ib_X2 it_X2 dfX2_ok (by omega) (by omega) (fun σ4 a4 b4 => ?_)
  refine s_dup (q := 20) (hd := dX4_init_19) (hq := rfl) (k := ?_)
  refine s_N0 (host := RX11) 23 dX4_init_20 rfl km_X2_init (by decide) ds_X2_init (Nat.le_of_ble_eq_true rfl) (k_Mail (x := x + 8) a4 (by omega) (by omega) (fun σ5 b5 a5 => ?_))
  refine ⟨rfl, ?_⟩
  refine h_putG (Cn := RX4) (T := TX4) (N := 12) tyX4 26 1 dX4_init_23 rfl (show σ5 x = _ from by rw [b5 x (by omega), b4 x (by omega)]; exact a3) rfl lay_X4 tyX4_ok nmX4 fl_X4_18 (by decide) (Or.inr ⟨rfl, rfl, rfl⟩) rfl rfl (by show 1 < 12; decide) (fun σ6 a6 b6 => ?_)
  refine s_aload_n 27 dX4_init_26 rfl rfl ?_
  refine h_newG (ci := 5) (Cn := RX5) (T := TX5) (N := 3) (fs := dfX5) tyX5 30 dX4_init_27 rfl rfl lay_X5 tyX5_ok cl_X4_21 ib_X5 it_X5 dfX5_ok (by omega) (by omega) (fun σ7 a7 b7 => ?_)
  refine s_dup (q := 31) (hd := dX4_init_30) (hq := rfl) (k := ?_)
  refine s_bipush 33 dX4_init_31 rfl (k := ?_)
  refine s_I1 36 dX4_init_33 rfl km_X5_init ml_X4_23 ds_X5_init (Nat.le_of_ble_eq_true rfl) (k_Row (x := x + 15) (lim := 120) a7 (by omega) (by omega) (fun σ8 b8 a8 => ?_))
  refine ⟨rfl, ?_⟩
  refine h_putG (Cn := RX4) (T := TX4) (N := 12) tyX4 39 2 dX4_init_36 rfl (show σ8 x = _ from by rw [b8 x (by omega), b7 x (by omega)]; exact a6) rfl lay_X4 tyX4_ok nmX4 fl_X4_26 (by decide) (Or.inr ⟨rfl, rfl, rfl⟩) rfl rfl (by show 2 < 12; decide) (fun σ9 a9 b9 => ?_)
  refine s_return rfl dX4_init_39 ?_
  refine hp σ9 (fun z hz => by rw [b9 z (by omega), b8 z (by omega), b7 z (by omega), b6 z (by omega), b5 z (by omega), b4 z (by omega), b3 z (by omega), b2 z (by omega), b1 z (by omega)]) ⟨a9, a2.off (fun z p q => ?_), a5.off (fun z p q => ?_), a8.off (fun z p q => ?_)⟩
  · rw [b9 z (by omega), b8 z (by omega), b7 z (by omega), b6 z (by omega), b5 z (by omega), b4 z (by omega), b3 z (by omega)]
  · rw [b9 z (by omega), b8 z (by omega), b7 z (by omega), b6 z (by omega)]
  · rw [b9 z (by omega)]
theorem h_anewG {N i t0 : Nat} {z : Int} {ci : ClassId} {Cn : String} (q : Nat) (hd : decode cc pc = .ok (.anewarray i, 3)) (hq : pc + 3 = q) (hw : Cond.classLink y.cls i Cn ∈ gTB) (hao : ∀ U : State, gX G U → va_AO Cn U) (ht : (gT G)[t0]? = some (ci, .object Cn)) (hz : z = N) (hz2 : N ≤ 134217728) (hN : nn + 1 ≤ gN G) (hU : uu + N ≤ gU G) (kk : ∀ σ' : HS, σ' nn = some (.inl (ci, N, .inr (.inr (.inr (.inr (fun _ => none)))))) → (∀ z, z ≠ nn → σ' z = σ z) → V G (A1 G) y cc nL rt d (σ', nn + 1, uu + N) q L (.ref nn :: st) post) : V G (A1 G) y cc nL rt d (σ, nn, uu) pc L (vi z :: st) post := h_anew q hd hq hw hao ht hz hz2 hN hU (kk _ (up_s _ _ _) (fun z hz => up_n hz))
theorem arr4 {ci : ClassId} {x : Nat} {f : Nat → Option Nat} (h : ∀ k, k < 4 → f k = some (x + 7 + 1 + 17 * k)) {D : va_G} {cl : List vw_C} {a : Nat} {H : Heap} (hA : va_at D cl (a, .inl (ci, 4, .inr (.inr (.inr (.inr f))))) H) : va_at D cl (a, .inl (ci, 4, .inr (.inr (.inr (.inr (fun k => some (x + 7 + 1 + 17 * k))))))) H := by
  have hA : H[a]? = some (vp_cell ci (4, .inr (.inr (.inr (.inr f))))) := hA
  show H[a]? = some (vp_cell ci (4, .inr (.inr (.inr (.inr (fun k => some (x + 7 + 1 + 17 * k)))))))
  rw [hA, vp_cell_q, vp_cell_q]
  congr 1
  unfold arrV
  congr 2
  funext j
  exact congrArg va_rf (h j.val j.isLt)
theorem V_re {σ' : HS} (h : ∀ H, A1 G (σ, nn, uu) H → A1 G (σ', nn, uu) H) (k : V G (A1 G) y cc nL rt d (σ', nn, uu) pc L st post) : V G (A1 G) y cc nL rt d (σ, nn, uu) pc L st post := V_lift (Abs := A1 G) fun H hA => ⟨(σ', nn, uu), h H hA, V_post k (fun v b hb => ⟨b, fun _ h => h, hb⟩)⟩
theorem k_State {x : Nat} (hσ : σ x = some (.inr (7, dfX7))) (hN : x + 76 ≤ gN G) (hU : uu + 169 ≤ gU G) (hp : ∀ σ' : HS, (∀ z, z < x → σ' z = σ z) → StateC G σ' x → post none (σ', x + 76, uu + 169)) : Cm G (A1 G) yX7_init cX7_init 2 none (d + 4) [.ref x] (σ, x + 1, uu) post := by
  refine Cm_intro (L := [some (.ref x), none]) (by decide +kernel) (Nat.le_of_ble_eq_true rfl) rfl ?_
  refine s_aload_n 1 dX7_init_0 rfl rfl ?_
  refine s_objInit 4 dX7_init_1 rfl ml_X7_3 (Nat.le_of_ble_eq_true rfl) ?_
  refine s_aload_n 5 dX7_init_4 rfl rfl ?_
  refine h_newG (ci := 5) (Cn := RX5) (T := TX5) (N := 3) (fs := dfX5) tyX5 8 dX7_init_5 rfl rfl lay_X5 tyX5_ok cl_X7_9 ib_X5 it_X5 dfX5_ok (by omega) (by omega) (fun σ1 a1 b1 => ?_)
  refine s_dup (q := 9) (hd := dX7_init_8) (hq := rfl) (k := ?_)
  refine s_sipush 12 dX7_init_9 rfl (k := ?_)
  refine s_I1 15 dX7_init_12 rfl km_X5_init ml_X7_11 ds_X5_init (Nat.le_of_ble_eq_true rfl) (k_Row (x := x + 1) (lim := 600) a1 (by omega) (by omega) (fun σ2 b2 a2 => ?_))
  refine ⟨rfl, ?_⟩
  refine h_putG (Cn := RX7) (T := TX7) (N := 8) tyX7 18 0 dX7_init_15 rfl (show σ2 x = _ from by rw [b2 x (by omega), b1 x (by omega)]; exact hσ) rfl lay_X7 tyX7_ok nmX7 fl_X7_14 (by decide) (Or.inr ⟨rfl, rfl, rfl⟩) rfl rfl (by show 0 < 8; decide) (fun σ3 a3 b3 => ?_)
  refine s_aload_n 19 dX7_init_18 rfl rfl ?_
  refine h_newG (ci := 5) (Cn := RX5) (T := TX5) (N := 3) (fs := dfX5) tyX5 22 dX7_init_19 rfl rfl lay_X5 tyX5_ok cl_X7_9 ib_X5 it_X5 dfX5_ok (by omega) (by omega) (fun σ4 a4 b4 => ?_)
  refine s_dup (q := 23) (hd := dX7_init_22) (hq := rfl) (k := ?_)
  refine s_sipush 26 dX7_init_23 rfl (k := ?_)
  refine s_I1 29 dX7_init_26 rfl km_X5_init ml_X7_11 ds_X5_init (Nat.le_of_ble_eq_true rfl) (k_Row (x := x + 3) (lim := 200) a4 (by omega) (by omega) (fun σ5 b5 a5 => ?_))
  refine ⟨rfl, ?_⟩
  refine h_putG (Cn := RX7) (T := TX7) (N := 8) tyX7 32 1 dX7_init_29 rfl (show σ5 x = _ from by rw [b5 x (by omega), b4 x (by omega)]; exact a3) rfl lay_X7 tyX7_ok nmX7 fl_X7_20 (by decide) (Or.inr ⟨rfl, rfl, rfl⟩) rfl rfl (by show 1 < 8; decide) (fun σ6 a6 b6 => ?_)
  refine s_aload_n 33 dX7_init_32 rfl rfl ?_
  refine h_newG (ci := 5) (Cn := RX5) (T := TX5) (N := 3) (fs := dfX5) tyX5 36 dX7_init_33 rfl rfl lay_X5 tyX5_ok cl_X7_9 ib_X5 it_X5 dfX5_ok (by omega) (by omega) (fun σ7 a7 b7 => ?_)
  refine s_dup (q := 37) (hd := dX7_init_36) (hq := rfl) (k := ?_)
  refine s_sipush 40 dX7_init_37 rfl (k := ?_)
  refine s_I1 43 dX7_init_40 rfl km_X5_init ml_X7_11 ds_X5_init (Nat.le_of_ble_eq_true rfl) (k_Row (x := x + 5) (lim := 200) a7 (by omega) (by omega) (fun σ8 b8 a8 => ?_))
  refine ⟨rfl, ?_⟩
  refine h_putG (Cn := RX7) (T := TX7) (N := 8) tyX7 46 2 dX7_init_43 rfl (show σ8 x = _ from by rw [b8 x (by omega), b7 x (by omega)]; exact a6) rfl lay_X7 tyX7_ok nmX7 fl_X7_23 (by decide) (Or.inr ⟨rfl, rfl, rfl⟩) rfl rfl (by show 2 < 8; decide) (fun σ9 a9 b9 => ?_)
  refine s_aload_n 47 dX7_init_46 rfl rfl ?_
  refine s_iconst 48 dX7_init_47 rfl ?_
  refine h_putG (Cn := RX7) (T := TX7) (N := 8) tyX7 51 4 dX7_init_48 rfl a9 rfl lay_X7 tyX7_ok nmX7 fl_X7_26 (by decide) (Or.inl rfl) rfl rfl (by show 4 < 8; decide) (fun σ10 a10 b10 => ?_)
  refine s_aload_n 52 dX7_init_51 rfl rfl ?_
  refine s_iconst 53 dX7_init_52 rfl ?_
  refine h_anewG (N := 4) (t0 := 2) (Cn := RX4) 56 dX7_init_53 rfl cl_X7_30 (fun U hU => hU.2.1.1) rfl rfl (by decide) (by omega) (by omega) (fun σ11 a11 b11 => ?_)
  refine h_putG (Cn := RX7) (T := TX7) (N := 8) tyX7 59 5 dX7_init_56 rfl ((b11 x (by omega)).trans a10) rfl lay_X7 tyX7_ok nmX7 fl_X7_32 (by decide) (Or.inr ⟨rfl, rfl, rfl⟩) rfl rfl (by show 5 < 8; decide) (fun σ12 a12 b12 => ?_)
  refine s_iconst 60 dX7_init_59 rfl ?_
  refine s_istore_n 61 dX7_init_60 rfl (Nat.le_of_ble_eq_true rfl) rfl ?_
  have key : ∀ (m k : Nat) (σk : HS) (f : Nat → Option Nat), k + m = 4 → (∀ z, z < x + 7 → σk z = σ12 z) → σk (x + 7) = some (.inl (gK G 2, 4, .inr (.inr (.inr (.inr f))))) → (∀ c, c < k → f c = some (x + 7 + 1 + 17 * c) ∧ PortC G σk (x + 7 + 1 + 17 * c)) → V G (A1 G) yX7_init cX7_init 2 none (d + 4) (σk, x + 7 + 1 + 17 * k, uu + 13 + 39 * k) 61 [some (.ref x), some (vi k)] [] post := by
    intro m
    induction m with
    | zero =>
      intro k σk f hk h1 h2 h3
      have ek : k = 4 := by omega
      subst ek
      refine s_iload_n 62 dX7_init_61 rfl rfl ?_
      refine s_iconst 63 dX7_init_62 rfl ?_
      refine s_icmp_ge 66 85 dX7_init_63 rfl rfl (fun g => ?_) (fun g => ?_)
      rotate_left
      · omega
      refine V_re (σ' := up σk (x + 7) (some (.inl (gK G 2, 4, .inr (.inr (.inr (.inr (fun k => some (x + 7 + 1 + 17 * k))))))))) (fun H hH => ⟨hH.1, hH.2.1, fun z e hz => ?_⟩) ?_
      · have hz : up σk (x + 7) _ z = some e := hz
        by_cases ez : z = x + 7
        · subst ez
          rw [up_s] at hz
          cases hz
          obtain ⟨w1, w2⟩ := hH.2.2 (x + 7) _ h2
          exact ⟨w1, arr4 (fun k hk => (h3 k hk).1) w2⟩
        · rw [up_n ez] at hz
          exact hH.2.2 z e hz
      refine s_return rfl dX7_init_85 ?_
      have fr : ∀ z, z < x + 7 → up σk (x + 7) (some (.inl (gK G 2, 4, .inr (.inr (.inr (.inr (fun k => some (x + 7 + 1 + 17 * k)))))))) z = σ12 z := fun z hz => by rw [up_n (by omega), h1 z hz]
      refine hp _ (fun z hz => by rw [fr z (by omega), b12 z (by omega), b11 z (by omega), b10 z (by omega), b9 z (by omega), b8 z (by omega), b7 z (by omega), b6 z (by omega), b5 z (by omega), b4 z (by omega), b3 z (by omega), b2 z (by omega), b1 z (by omega)]) ⟨(fr x (by omega)).trans a12, a2.off (fun z p q => ?_), a5.off (fun z p q => ?_), a8.off (fun z p q => ?_), up_s _ _ _, fun c hc => (h3 c hc).2.off (fun z p q => up_n (by omega))⟩
      · rw [fr z (by omega), b12 z (by omega), b11 z (by omega), b10 z (by omega), b9 z (by omega), b8 z (by omega), b7 z (by omega), b6 z (by omega), b5 z (by omega), b4 z (by omega), b3 z (by omega)]
      · rw [fr z (by omega), b12 z (by omega), b11 z (by omega), b10 z (by omega), b9 z (by omega), b8 z (by omega), b7 z (by omega), b6 z (by omega)]
      · rw [fr z (by omega), b12 z (by omega), b11 z (by omega), b10 z (by omega), b9 z (by omega)]
    | succ m ih =>
      intro k σk f hk h1 h2 h3
      have hx : σk x = some (.inr (7, [.ref (x + 1), .ref (x + 3), .ref (x + 5), vi 0, vi (-1), .ref (x + 7), vi 0, vi 0])) := (h1 x (by omega)).trans a12
      refine s_iload_n 62 dX7_init_61 rfl rfl ?_
      refine s_iconst 63 dX7_init_62 rfl ?_
      refine s_icmp_ge 66 85 dX7_init_63 rfl rfl (fun g => ?_) (fun g => ?_)
      · omega
      refine s_aload_n 67 dX7_init_66 rfl rfl ?_
      refine h_get (Cn := RX7) (T := TX7) (N := 8) 70 5 dX7_init_67 rfl hx rfl lay_X7 fl_X7_32 (by decide) rfl ?_
      refine s_iload_n 71 dX7_init_70 rfl rfl ?_
      refine h_newG (ci := 4) (Cn := RX4) (T := TX4) (N := 12) (fs := dfX4) tyX4 74 dX7_init_71 rfl rfl lay_X4 tyX4_ok cl_X7_30 ib_X4 it_X4 dfX4_ok (by omega) (by omega) (fun σp ap bp => ?_)
      refine s_dup (q := 75) (hd := dX7_init_74) (hq := rfl) (k := ?_)
      refine s_N0 (host := RX11) 78 dX7_init_75 rfl km_X4_init (by decide) ds_X4_init (Nat.le_of_ble_eq_true rfl) (k_Port (x := x + 7 + 1 + 17 * k) ap (by omega) (by omega) (fun σq bq aq => ?_))
      refine ⟨rfl, ?_⟩
      have h2q : σq (x + 7) = some (.inl (gK G 2, 4, .inr (.inr (.inr (.inr f))))) := by rw [bq _ (by omega), bp _ (by omega)]; exact h2
      refine h_aast (ck := 4) (t0 := 2) (r := (RX4, TX4, 12)) 79 dX7_init_78 rfl h2q rfl aq.1 rfl (by omega) (by decide) ?_
      rw [show ((k : Int)).toNat = k from rfl]
      refine s_iinc 82 dX7_init_79 rfl rfl (Nat.le_of_ble_eq_true rfl) rfl ?_
      refine s_goto 61 dX7_init_82 rfl ?_
      have e9 : x + 7 + 1 + 17 * k + 17 = x + 7 + 1 + 17 * (k + 1) := by omega
      have e8 : uu + 13 + 39 * k + 12 + 27 = uu + 13 + 39 * (k + 1) := by omega
      rw [e9, e8]
      refine ih (k + 1) _ (up f k (some (x + 7 + 1 + 17 * k))) (by omega) (fun z hz => by rw [up_n (by omega), bq z (by omega), bp z (by omega), h1 z hz]) (up_s _ _ _) (fun c hc => ?_)
      by_cases e : c = k
      · subst e
        exact ⟨up_s _ _ _, aq.off (fun z p q => up_n (by omega))⟩
      · refine ⟨by rw [up_n e]; exact (h3 c (by omega)).1, (h3 c (by omega)).2.off (fun z p q => by rw [up_n (by omega), bq z (by omega), bp z (by omega)])⟩
  exact key 4 0 σ12 (fun _ => none) (by omega) (fun _ _ => rfl) (by rw [b12 _ (by omega)]; exact a11) (fun c hc => by omega)
end MAKE
