/-! ===== the other objects made ===== -/
section MAKE2
variable {G : GT} {d : Nat} {σ σ' : HS} {uu : Nat} {post : Option Value → HS × Nat × Nat → Prop}
def StufC (σ : HS) (x : Nat) : Prop := σ x = some (.inr (8, [vi 20, vi 10]))
def RulC (G : GT) (σ : HS) (x : Nat) : Prop := σ x = some (.inr (6, [.ref (x + 1), .ref (x + 2), vi 0, vi 1, vi 16, vi 0])) ∧ StufC σ (x + 1) ∧ σ (x + 2) = some (.inl (gK G 0, 4, .inl (fun _ => 0)))
def TapeC (G : GT) (σ : HS) (x : Nat) : Prop := σ x = some (.inr (9, [.ref (x + 1), .ref (x + 3), vi 0, vi 0, vi 0, vi 0])) ∧ RowC G σ (x + 1) 300 ∧ RulC G σ (x + 3)
def FramC (G : GT) (σ : HS) (x : Nat) : Prop := σ x = some (.inr (1, [.ref (x + 1), .ref (x + 4), .ref (x + 6), vi 0, vi 0, .ref (x + 8)])) ∧ RulC G σ (x + 1) ∧ RowC G σ (x + 4) 600 ∧ RowC G σ (x + 6) 600 ∧ RowC G σ (x + 8) 200
def WalkC (σ : HS) (x : Nat) : Prop := σ x = some (.inr (10, [vi 0, vi 0, vi 0]))
def DrawC (σ : HS) (x : Nat) : Prop := σ x = some (.inr (0, [.long 0]))
def PastC (G : GT) (σ : HS) (x : Nat) : Prop := σ x = some (.inr (3, [vi 0, .ref (x + 1), vi 0])) ∧ σ (x + 1) = some (.inl (gK G 3, 13, .inr (.inr (.inr (.inr (fun _ => none))))))
def QuietC (G : GT) (σ : HS) (x : Nat) : Prop := σ x = some (.inr (11, [.ref (x + 1), .ref (x + 7), .ref (x + 9), .ref (x + 11), .ref (x + 21), .ref (x + 22), .ref (x + 23), .ref (x + 25), .ref (x + 101), .ref (x + 177), .ref (x + 178), vi 0, vi 0])) ∧ TapeC G σ (x + 1) ∧ RowC G σ (x + 7) 600 ∧ RowC G σ (x + 9) 120 ∧ FramC G σ (x + 11) ∧ WalkC σ (x + 21) ∧ DrawC σ (x + 22) ∧ PastC G σ (x + 23) ∧ StateC G σ (x + 25) ∧ StateC G σ (x + 101) ∧ σ (x + 177) = some (.inl (gK G 0, 4, .inl (fun _ => 0))) ∧ StateC G σ (x + 178)
theorem StufC.off {x : Nat} (h : StufC σ x) (he : ∀ z, x ≤ z → z < x + 1 → σ' z = σ z) : StufC σ' x := (he x (by omega) (by omega)).trans h
theorem WalkC.off {x : Nat} (h : WalkC σ x) (he : ∀ z, x ≤ z → z < x + 1 → σ' z = σ z) : WalkC σ' x := (he x (by omega) (by omega)).trans h
theorem DrawC.off {x : Nat} (h : DrawC σ x) (he : ∀ z, x ≤ z → z < x + 1 → σ' z = σ z) : DrawC σ' x := (he x (by omega) (by omega)).trans h
theorem RulC.off {x : Nat} (h : RulC G σ x) (he : ∀ z, x ≤ z → z < x + 3 → σ' z = σ z) : RulC G σ' x := ⟨(he x (by omega) (by omega)).trans h.1, h.2.1.off (fun z a b => he z (by omega) (by omega)), (he _ (by omega) (by omega)).trans h.2.2⟩
theorem TapeC.off {x : Nat} (h : TapeC G σ x) (he : ∀ z, x ≤ z → z < x + 6 → σ' z = σ z) : TapeC G σ' x := ⟨(he x (by omega) (by omega)).trans h.1, h.2.1.off (fun z a b => he z (by omega) (by omega)), h.2.2.off (fun z a b => he z (by omega) (by omega))⟩
theorem FramC.off {x : Nat} (h : FramC G σ x) (he : ∀ z, x ≤ z → z < x + 10 → σ' z = σ z) : FramC G σ' x := ⟨(he x (by omega) (by omega)).trans h.1, h.2.1.off (fun z a b => he z (by omega) (by omega)), h.2.2.1.off (fun z a b => he z (by omega) (by omega)), h.2.2.2.1.off (fun z a b => he z (by omega) (by omega)), h.2.2.2.2.off (fun z a b => he z (by omega) (by omega))⟩
theorem PastC.off {x : Nat} (h : PastC G σ x) (he : ∀ z, x ≤ z → z < x + 2 → σ' z = σ z) : PastC G σ' x := ⟨(he x (by omega) (by omega)).trans h.1, (he _ (by omega) (by omega)).trans h.2⟩
theorem StateC.off {x : Nat} (h : StateC G σ x) (he : ∀ z, x ≤ z → z < x + 76 → σ' z = σ z) : StateC G σ' x := ⟨(he x (by omega) (by omega)).trans h.1, h.2.1.off (fun z a b => he z (by omega) (by omega)), h.2.2.1.off (fun z a b => he z (by omega) (by omega)), h.2.2.2.1.off (fun z a b => he z (by omega) (by omega)), (he _ (by omega) (by omega)).trans h.2.2.2.2.1, fun c hc => (h.2.2.2.2.2 c hc).off (fun z a b => he z (by omega) (by omega))⟩
theorem k_Stuf {x : Nat} (hσ : σ x = some (.inr (8, dfX8))) (hN : x + 1 ≤ gN G) (hU : uu + 0 ≤ gU G) (hp : ∀ σ' : HS, (∀ z, z < x → σ' z = σ z) → StufC σ' x → post none (σ', x + 1, uu + 0)) : Cm G (A1 G) yX8_init cX8_init 1 none (d + 1) [.ref x] (σ, x + 1, uu) post := by
  refine Cm_intro (L := [some (.ref x)]) (by decide +kernel) (Nat.le_of_ble_eq_true rfl) rfl ?_
  refine s_aload_n 1 dX8_init_0 rfl rfl ?_
  refine s_objInit 4 dX8_init_1 rfl ml_X8_3 (Nat.le_of_ble_eq_true rfl) ?_
  refine s_aload_n 5 dX8_init_4 rfl rfl ?_
  refine s_bipush 7 dX8_init_5 rfl (k := ?_)
  refine h_putG (Cn := RX8) (T := TX8) (N := 2) tyX8 10 0 dX8_init_7 rfl hσ rfl lay_X8 tyX8_ok nmX8 fl_X8_9 (by decide) (Or.inl rfl) rfl rfl (by show 0 < 2; decide) (fun σ1 a1 b1 => ?_)
  refine s_aload_n 11 dX8_init_10 rfl rfl ?_
  refine s_bipush 13 dX8_init_11 rfl (k := ?_)
  refine h_putG (Cn := RX8) (T := TX8) (N := 2) tyX8 16 1 dX8_init_13 rfl a1 rfl lay_X8 tyX8_ok nmX8 fl_X8_15 (by decide) (Or.inl rfl) rfl rfl (by show 1 < 2; decide) (fun σ2 a2 b2 => ?_)
  refine s_return rfl dX8_init_16 ?_
  refine hp σ2 (fun z hz => by rw [b2 z (by omega), b1 z (by omega)]) a2
theorem k_Rul {x : Nat} (hσ : σ x = some (.inr (6, dfX6))) (hN : x + 3 ≤ gN G) (hU : uu + 6 ≤ gU G) (hp : ∀ σ' : HS, (∀ z, z < x → σ' z = σ z) → RulC G σ' x → post none (σ', x + 3, uu + 6)) : Cm G (A1 G) yX6_init cX6_init 1 none (d + 2) [.ref x] (σ, x + 1, uu) post := by
  refine Cm_intro (L := [some (.ref x)]) (by decide +kernel) (Nat.le_of_ble_eq_true rfl) rfl ?_
  refine s_aload_n 1 dX6_init_0 rfl rfl ?_
  refine s_objInit 4 dX6_init_1 rfl ml_X6_3 (Nat.le_of_ble_eq_true rfl) ?_
  refine s_aload_n 5 dX6_init_4 rfl rfl ?_
  refine h_newG (ci := 8) (Cn := RX8) (T := TX8) (N := 2) (fs := dfX8) tyX8 8 dX6_init_5 rfl rfl lay_X8 tyX8_ok cl_X6_9 ib_X8 it_X8 dfX8_ok (by omega) (by omega) (fun σ1 a1 b1 => ?_)
  refine s_dup (q := 9) (hd := dX6_init_8) (hq := rfl) (k := ?_)
  refine s_N0 (host := RX11) 12 dX6_init_9 rfl km_X8_init (by decide) ds_X8_init (Nat.le_of_ble_eq_true rfl) (k_Stuf (x := x + 1) a1 (by omega) (by omega) (fun σ2 b2 a2 => ?_))
  refine ⟨rfl, ?_⟩
  refine h_putG (Cn := RX6) (T := TX6) (N := 6) tyX6 15 0 dX6_init_12 rfl (show σ2 x = _ from by rw [b2 x (by omega), b1 x (by omega)]; exact hσ) rfl lay_X6 tyX6_ok nmX6 fl_X6_12 (by decide) (Or.inr ⟨rfl, rfl, rfl⟩) rfl rfl (by show 0 < 6; decide) (fun σ3 a3 b3 => ?_)
  refine s_aload_n 16 dX6_init_15 rfl rfl ?_
  refine s_iconst 17 dX6_init_16 rfl ?_
  refine h_newaG (N := 4) 19 dX6_init_17 rfl rfl (by decide) (by omega) (by omega) (fun σ4 a4 b4 => ?_)
  refine h_putG (Cn := RX6) (T := TX6) (N := 6) tyX6 22 1 dX6_init_19 rfl (show σ4 x = _ from by rw [b4 x (by omega)]; exact a3) rfl lay_X6 tyX6_ok nmX6 fl_X6_18 (by decide) (Or.inr ⟨rfl, rfl, rfl⟩) rfl rfl (by show 1 < 6; decide) (fun σ5 a5 b5 => ?_)
  refine s_aload_n 23 dX6_init_22 rfl rfl ?_
  refine s_iconst 24 dX6_init_23 rfl ?_
  refine h_putG (Cn := RX6) (T := TX6) (N := 6) tyX6 27 2 dX6_init_24 rfl a5 rfl lay_X6 tyX6_ok nmX6 fl_X6_22 (by decide) (Or.inl rfl) rfl rfl (by show 2 < 6; decide) (fun σ6 a6 b6 => ?_)
  refine s_aload_n 28 dX6_init_27 rfl rfl ?_
  refine s_iconst 29 dX6_init_28 rfl ?_
  refine h_putG (Cn := RX6) (T := TX6) (N := 6) tyX6 32 3 dX6_init_29 rfl a6 rfl lay_X6 tyX6_ok nmX6 fl_X6_26 (by decide) (Or.inl rfl) rfl rfl (by show 3 < 6; decide) (fun σ7 a7 b7 => ?_)
  refine s_aload_n 33 dX6_init_32 rfl rfl ?_
  refine s_bipush 35 dX6_init_33 rfl (k := ?_)
  refine h_putG (Cn := RX6) (T := TX6) (N := 6) tyX6 38 4 dX6_init_35 rfl a7 rfl lay_X6 tyX6_ok nmX6 fl_X6_29 (by decide) (Or.inl rfl) rfl rfl (by show 4 < 6; decide) (fun σ8 a8 b8 => ?_)
  refine s_return rfl dX6_init_38 ?_
  refine hp σ8 (fun z hz => by rw [b8 z (by omega), b7 z (by omega), b6 z (by omega), b5 z (by omega), b4 z (by omega), b3 z (by omega), b2 z (by omega), b1 z (by omega)]) ⟨a8, a2.off (fun z p1 p2 => by rw [b8 z (by omega), b7 z (by omega), b6 z (by omega), b5 z (by omega), b4 z (by omega), b3 z (by omega)]), by rw [b8 _ (by omega), b7 _ (by omega), b6 _ (by omega), b5 _ (by omega)]; exact a4⟩
theorem k_Tape {x : Nat} (hσ : σ x = some (.inr (9, dfX9))) (hN : x + 6 ≤ gN G) (hU : uu + 15 ≤ gU G) (hp : ∀ σ' : HS, (∀ z, z < x → σ' z = σ z) → TapeC G σ' x → post none (σ', x + 6, uu + 15)) : Cm G (A1 G) yX9_init cX9_init 1 none (d + 3) [.ref x] (σ, x + 1, uu) post := by
  refine Cm_intro (L := [some (.ref x)]) (by decide +kernel) (Nat.le_of_ble_eq_true rfl) rfl ?_
  refine s_aload_n 1 dX9_init_0 rfl rfl ?_
  refine s_objInit 4 dX9_init_1 rfl ml_X9_3 (Nat.le_of_ble_eq_true rfl) ?_
  refine s_aload_n 5 dX9_init_4 rfl rfl ?_
  refine h_newG (ci := 5) (Cn := RX5) (T := TX5) (N := 3) (fs := dfX5) tyX5 8 dX9_init_5 rfl rfl lay_X5 tyX5_ok cl_X9_9 ib_X5 it_X5 dfX5_ok (by omega) (by omega) (fun σ1 a1 b1 => ?_)
  refine s_dup (q := 9) (hd := dX9_init_8) (hq := rfl) (k := ?_)
  refine s_sipush 12 dX9_init_9 rfl (k := ?_)
  refine s_I1 15 dX9_init_12 rfl km_X5_init ml_X9_11 ds_X5_init (Nat.le_of_ble_eq_true rfl) (k_Row (x := x + 1) (lim := 300) a1 (by omega) (by omega) (fun σ2 b2 a2 => ?_))
  refine ⟨rfl, ?_⟩
  refine h_putG (Cn := RX9) (T := TX9) (N := 6) tyX9 18 0 dX9_init_15 rfl (show σ2 x = _ from by rw [b2 x (by omega), b1 x (by omega)]; exact hσ) rfl lay_X9 tyX9_ok nmX9 fl_X9_14 (by decide) (Or.inr ⟨rfl, rfl, rfl⟩) rfl rfl (by show 0 < 6; decide) (fun σ3 a3 b3 => ?_)
  refine s_aload_n 19 dX9_init_18 rfl rfl ?_
  refine h_newG (ci := 6) (Cn := RX6) (T := TX6) (N := 6) (fs := dfX6) tyX6 22 dX9_init_19 rfl rfl lay_X6 tyX6_ok cl_X9_20 ib_X6 it_X6 dfX6_ok (by omega) (by omega) (fun σ4 a4 b4 => ?_)
  refine s_dup (q := 23) (hd := dX9_init_22) (hq := rfl) (k := ?_)
  refine s_N0 (host := RX11) 26 dX9_init_23 rfl km_X6_init (by decide) ds_X6_init (Nat.le_of_ble_eq_true rfl) (k_Rul (x := x + 3) a4 (by omega) (by omega) (fun σ5 b5 a5 => ?_))
  refine ⟨rfl, ?_⟩
  refine h_putG (Cn := RX9) (T := TX9) (N := 6) tyX9 29 1 dX9_init_26 rfl (show σ5 x = _ from by rw [b5 x (by omega), b4 x (by omega)]; exact a3) rfl lay_X9 tyX9_ok nmX9 fl_X9_23 (by decide) (Or.inr ⟨rfl, rfl, rfl⟩) rfl rfl (by show 1 < 6; decide) (fun σ6 a6 b6 => ?_)
  refine s_return rfl dX9_init_29 ?_
  refine hp σ6 (fun z hz => by rw [b6 z (by omega), b5 z (by omega), b4 z (by omega), b3 z (by omega), b2 z (by omega), b1 z (by omega)]) ⟨a6, a2.off (fun z p1 p2 => by rw [b6 z (by omega), b5 z (by omega), b4 z (by omega), b3 z (by omega)]), a5.off (fun z p1 p2 => by rw [b6 z (by omega)])⟩
theorem k_Fram {x : Nat} (hσ : σ x = some (.inr (1, dfX1))) (hN : x + 10 ≤ gN G) (hU : uu + 21 ≤ gU G) (hp : ∀ σ' : HS, (∀ z, z < x → σ' z = σ z) → FramC G σ' x → post none (σ', x + 10, uu + 21)) : Cm G (A1 G) yX1_init cX1_init 1 none (d + 3) [.ref x] (σ, x + 1, uu) post := by
  refine Cm_intro (L := [some (.ref x)]) (by decide +kernel) (Nat.le_of_ble_eq_true rfl) rfl ?_
  refine s_aload_n 1 dX1_init_0 rfl rfl ?_
  refine s_objInit 4 dX1_init_1 rfl ml_X1_3 (Nat.le_of_ble_eq_true rfl) ?_
  refine s_aload_n 5 dX1_init_4 rfl rfl ?_
  refine h_newG (ci := 6) (Cn := RX6) (T := TX6) (N := 6) (fs := dfX6) tyX6 8 dX1_init_5 rfl rfl lay_X6 tyX6_ok cl_X1_9 ib_X6 it_X6 dfX6_ok (by omega) (by omega) (fun σ1 a1 b1 => ?_)
  refine s_dup (q := 9) (hd := dX1_init_8) (hq := rfl) (k := ?_)
  refine s_N0 (host := RX11) 12 dX1_init_9 rfl km_X6_init (by decide) ds_X6_init (Nat.le_of_ble_eq_true rfl) (k_Rul (x := x + 1) a1 (by omega) (by omega) (fun σ2 b2 a2 => ?_))
  refine ⟨rfl, ?_⟩
  refine h_putG (Cn := RX1) (T := TX1) (N := 6) tyX1 15 0 dX1_init_12 rfl (show σ2 x = _ from by rw [b2 x (by omega), b1 x (by omega)]; exact hσ) rfl lay_X1 tyX1_ok nmX1 fl_X1_12 (by decide) (Or.inr ⟨rfl, rfl, rfl⟩) rfl rfl (by show 0 < 6; decide) (fun σ3 a3 b3 => ?_)
  refine s_aload_n 16 dX1_init_15 rfl rfl ?_
  refine h_newG (ci := 5) (Cn := RX5) (T := TX5) (N := 3) (fs := dfX5) tyX5 19 dX1_init_16 rfl rfl lay_X5 tyX5_ok cl_X1_18 ib_X5 it_X5 dfX5_ok (by omega) (by omega) (fun σ4 a4 b4 => ?_)
  refine s_dup (q := 20) (hd := dX1_init_19) (hq := rfl) (k := ?_)
  refine s_sipush 23 dX1_init_20 rfl (k := ?_)
  refine s_I1 26 dX1_init_23 rfl km_X5_init ml_X1_20 ds_X5_init (Nat.le_of_ble_eq_true rfl) (k_Row (x := x + 4) (lim := 600) a4 (by omega) (by omega) (fun σ5 b5 a5 => ?_))
  refine ⟨rfl, ?_⟩
  refine h_putG (Cn := RX1) (T := TX1) (N := 6) tyX1 29 1 dX1_init_26 rfl (show σ5 x = _ from by rw [b5 x (by omega), b4 x (by omega)]; exact a3) rfl lay_X1 tyX1_ok nmX1 fl_X1_23 (by decide) (Or.inr ⟨rfl, rfl, rfl⟩) rfl rfl (by show 1 < 6; decide) (fun σ6 a6 b6 => ?_)
  refine s_aload_n 30 dX1_init_29 rfl rfl ?_
  refine h_newG (ci := 5) (Cn := RX5) (T := TX5) (N := 3) (fs := dfX5) tyX5 33 dX1_init_30 rfl rfl lay_X5 tyX5_ok cl_X1_18 ib_X5 it_X5 dfX5_ok (by omega) (by omega) (fun σ7 a7 b7 => ?_)
  refine s_dup (q := 34) (hd := dX1_init_33) (hq := rfl) (k := ?_)
  refine s_sipush 37 dX1_init_34 rfl (k := ?_)
  refine s_I1 40 dX1_init_37 rfl km_X5_init ml_X1_20 ds_X5_init (Nat.le_of_ble_eq_true rfl) (k_Row (x := x + 6) (lim := 600) a7 (by omega) (by omega) (fun σ8 b8 a8 => ?_))
  refine ⟨rfl, ?_⟩
  refine h_putG (Cn := RX1) (T := TX1) (N := 6) tyX1 43 2 dX1_init_40 rfl (show σ8 x = _ from by rw [b8 x (by omega), b7 x (by omega)]; exact a6) rfl lay_X1 tyX1_ok nmX1 fl_X1_27 (by decide) (Or.inr ⟨rfl, rfl, rfl⟩) rfl rfl (by show 2 < 6; decide) (fun σ9 a9 b9 => ?_)
  refine s_aload_n 44 dX1_init_43 rfl rfl ?_
  refine h_newG (ci := 5) (Cn := RX5) (T := TX5) (N := 3) (fs := dfX5) tyX5 47 dX1_init_44 rfl rfl lay_X5 tyX5_ok cl_X1_18 ib_X5 it_X5 dfX5_ok (by omega) (by omega) (fun σ10 a10 b10 => ?_)
  refine s_dup (q := 48) (hd := dX1_init_47) (hq := rfl) (k := ?_)
  refine s_sipush 51 dX1_init_48 rfl (k := ?_)
  refine s_I1 54 dX1_init_51 rfl km_X5_init ml_X1_20 ds_X5_init (Nat.le_of_ble_eq_true rfl) (k_Row (x := x + 8) (lim := 200) a10 (by omega) (by omega) (fun σ11 b11 a11 => ?_))
  refine ⟨rfl, ?_⟩
  refine h_putG (Cn := RX1) (T := TX1) (N := 6) tyX1 57 5 dX1_init_54 rfl (show σ11 x = _ from by rw [b11 x (by omega), b10 x (by omega)]; exact a9) rfl lay_X1 tyX1_ok nmX1 fl_X1_30 (by decide) (Or.inr ⟨rfl, rfl, rfl⟩) rfl rfl (by show 5 < 6; decide) (fun σ12 a12 b12 => ?_)
  refine s_return rfl dX1_init_57 ?_
  refine hp σ12 (fun z hz => by rw [b12 z (by omega), b11 z (by omega), b10 z (by omega), b9 z (by omega), b8 z (by omega), b7 z (by omega), b6 z (by omega), b5 z (by omega), b4 z (by omega), b3 z (by omega), b2 z (by omega), b1 z (by omega)]) ⟨a12, a2.off (fun z p1 p2 => by rw [b12 z (by omega), b11 z (by omega), b10 z (by omega), b9 z (by omega), b8 z (by omega), b7 z (by omega), b6 z (by omega), b5 z (by omega), b4 z (by omega), b3 z (by omega)]), a5.off (fun z p1 p2 => by rw [b12 z (by omega), b11 z (by omega), b10 z (by omega), b9 z (by omega), b8 z (by omega), b7 z (by omega), b6 z (by omega)]), a8.off (fun z p1 p2 => by rw [b12 z (by omega), b11 z (by omega), b10 z (by omega), b9 z (by omega)]), a11.off (fun z p1 p2 => by rw [b12 z (by omega)])⟩
theorem k_Walk {x : Nat} (hσ : σ x = some (.inr (10, dfX10))) (hN : x + 1 ≤ gN G) (hU : uu + 0 ≤ gU G) (hp : ∀ σ' : HS, (∀ z, z < x → σ' z = σ z) → WalkC σ' x → post none (σ', x + 1, uu + 0)) : Cm G (A1 G) yX10_init cX10_init 1 none (d + 1) [.ref x] (σ, x + 1, uu) post := by
  refine Cm_intro (L := [some (.ref x)]) (by decide +kernel) (Nat.le_of_ble_eq_true rfl) rfl ?_
  refine s_aload_n 1 dX10_init_0 rfl rfl ?_
  refine s_objInit 4 dX10_init_1 rfl ml_X10_1 (Nat.le_of_ble_eq_true rfl) ?_
  refine s_return rfl dX10_init_4 ?_
  exact hp σ (fun _ _ => rfl) hσ
theorem k_Draw {x : Nat} (hσ : σ x = some (.inr (0, dfX0))) (hN : x + 1 ≤ gN G) (hU : uu + 0 ≤ gU G) (hp : ∀ σ' : HS, (∀ z, z < x → σ' z = σ z) → DrawC σ' x → post none (σ', x + 1, uu + 0)) : Cm G (A1 G) yX0_init cX0_init 1 none (d + 1) [.ref x] (σ, x + 1, uu) post := by
  refine Cm_intro (L := [some (.ref x)]) (by decide +kernel) (Nat.le_of_ble_eq_true rfl) rfl ?_
  refine s_aload_n 1 dX0_init_0 rfl rfl ?_
  refine s_objInit 4 dX0_init_1 rfl ml_X0_1 (Nat.le_of_ble_eq_true rfl) ?_
  refine s_return rfl dX0_init_4 ?_
  exact hp σ (fun _ _ => rfl) hσ
theorem k_Past {x : Nat} (hσ : σ x = some (.inr (3, dfX3))) (hN : x + 2 ≤ gN G) (hU : uu + 13 ≤ gU G) (hp : ∀ σ' : HS, (∀ z, z < x → σ' z = σ z) → PastC G σ' x → post none (σ', x + 2, uu + 13)) : Cm G (A1 G) yX3_init cX3_init 1 none (d + 1) [.ref x] (σ, x + 1, uu) post := by
  refine Cm_intro (L := [some (.ref x)]) (by decide +kernel) (Nat.le_of_ble_eq_true rfl) rfl ?_
  refine s_aload_n 1 dX3_init_0 rfl rfl ?_
  refine s_objInit 4 dX3_init_1 rfl ml_X3_3 (Nat.le_of_ble_eq_true rfl) ?_
  refine s_aload_n 5 dX3_init_4 rfl rfl ?_
  refine s_bipush 7 dX3_init_5 rfl (k := ?_)
  refine h_anewG (N := 13) (t0 := 3) (Cn := RX7) 10 dX3_init_7 rfl cl_X3_9 (fun U hU => hU.2.1.2) rfl rfl (by decide) (by omega) (by omega) (fun σ1 a1 b1 => ?_)
  refine h_putG (Cn := RX3) (T := TX3) (N := 3) tyX3 13 1 dX3_init_10 rfl (show σ1 x = _ from by rw [b1 x (by omega)]; exact hσ) rfl lay_X3 tyX3_ok nmX3 fl_X3_11 (by decide) (Or.inr ⟨rfl, rfl, rfl⟩) rfl rfl (by show 1 < 3; decide) (fun σ2 a2 b2 => ?_)
  refine s_return rfl dX3_init_13 ?_
  refine hp σ2 (fun z hz => by rw [b2 z (by omega), b1 z (by omega)]) ⟨a2, by rw [b2 _ (by omega)]; exact a1⟩
theorem k_Quiet {x : Nat} (hσ : σ x = some (.inr (11, dfX11))) (hN : x + 254 ≤ gN G) (hU : uu + 609 ≤ gU G) (hp : ∀ σ' : HS, (∀ z, z < x → σ' z = σ z) → QuietC G σ' x → post none (σ', x + 254, uu + 609)) : Cm G (A1 G) yX11_init cX11_init 1 none (d + 5) [.ref x] (σ, x + 1, uu) post := by
  refine Cm_intro (L := [some (.ref x)]) (by decide +kernel) (Nat.le_of_ble_eq_true rfl) rfl ?_
  refine s_aload_n 1 dX11_init_0 rfl rfl ?_
  refine s_objInit 4 dX11_init_1 rfl ml_X11_3 (Nat.le_of_ble_eq_true rfl) ?_
  refine s_aload_n 5 dX11_init_4 rfl rfl ?_
  refine h_newG (ci := 9) (Cn := RX9) (T := TX9) (N := 6) (fs := dfX9) tyX9 8 dX11_init_5 rfl rfl lay_X9 tyX9_ok cl_X11_9 ib_X9 it_X9 dfX9_ok (by omega) (by omega) (fun σ1 a1 b1 => ?_)
  refine s_dup (q := 9) (hd := dX11_init_8) (hq := rfl) (k := ?_)
  refine s_N0 (host := RX11) 12 dX11_init_9 rfl km_X9_init (by decide) ds_X9_init (Nat.le_of_ble_eq_true rfl) (k_Tape (x := x + 1) a1 (by omega) (by omega) (fun σ2 b2 a2 => ?_))
  refine ⟨rfl, ?_⟩
  refine h_putG (Cn := RX11) (T := TX11) (N := 13) tyX11 15 0 dX11_init_12 rfl (show σ2 x = _ from by rw [b2 x (by omega), b1 x (by omega)]; exact hσ) rfl lay_X11 tyX11_ok nmX11 fl_X11_12 (by decide) (Or.inr ⟨rfl, rfl, rfl⟩) rfl rfl (by show 0 < 13; decide) (fun σ3 a3 b3 => ?_)
  refine s_aload_n 16 dX11_init_15 rfl rfl ?_
  refine h_newG (ci := 5) (Cn := RX5) (T := TX5) (N := 3) (fs := dfX5) tyX5 19 dX11_init_16 rfl rfl lay_X5 tyX5_ok cl_X11_16 ib_X5 it_X5 dfX5_ok (by omega) (by omega) (fun σ4 a4 b4 => ?_)
  refine s_dup (q := 20) (hd := dX11_init_19) (hq := rfl) (k := ?_)
  refine s_sipush 23 dX11_init_20 rfl (k := ?_)
  refine s_I1 26 dX11_init_23 rfl km_X5_init ml_X11_18 ds_X5_init (Nat.le_of_ble_eq_true rfl) (k_Row (x := x + 7) (lim := 600) a4 (by omega) (by omega) (fun σ5 b5 a5 => ?_))
  refine ⟨rfl, ?_⟩
  refine h_putG (Cn := RX11) (T := TX11) (N := 13) tyX11 29 1 dX11_init_26 rfl (show σ5 x = _ from by rw [b5 x (by omega), b4 x (by omega)]; exact a3) rfl lay_X11 tyX11_ok nmX11 fl_X11_21 (by decide) (Or.inr ⟨rfl, rfl, rfl⟩) rfl rfl (by show 1 < 13; decide) (fun σ6 a6 b6 => ?_)
  refine s_aload_n 30 dX11_init_29 rfl rfl ?_
  refine h_newG (ci := 5) (Cn := RX5) (T := TX5) (N := 3) (fs := dfX5) tyX5 33 dX11_init_30 rfl rfl lay_X5 tyX5_ok cl_X11_16 ib_X5 it_X5 dfX5_ok (by omega) (by omega) (fun σ7 a7 b7 => ?_)
  refine s_dup (q := 34) (hd := dX11_init_33) (hq := rfl) (k := ?_)
  refine s_bipush 36 dX11_init_34 rfl (k := ?_)
  refine s_I1 39 dX11_init_36 rfl km_X5_init ml_X11_18 ds_X5_init (Nat.le_of_ble_eq_true rfl) (k_Row (x := x + 9) (lim := 120) a7 (by omega) (by omega) (fun σ8 b8 a8 => ?_))
  refine ⟨rfl, ?_⟩
  refine h_putG (Cn := RX11) (T := TX11) (N := 13) tyX11 42 2 dX11_init_39 rfl (show σ8 x = _ from by rw [b8 x (by omega), b7 x (by omega)]; exact a6) rfl lay_X11 tyX11_ok nmX11 fl_X11_25 (by decide) (Or.inr ⟨rfl, rfl, rfl⟩) rfl rfl (by show 2 < 13; decide) (fun σ9 a9 b9 => ?_)
  refine s_aload_n 43 dX11_init_42 rfl rfl ?_
  refine h_newG (ci := 1) (Cn := RX1) (T := TX1) (N := 6) (fs := dfX1) tyX1 46 dX11_init_43 rfl rfl lay_X1 tyX1_ok cl_X11_28 ib_X1 it_X1 dfX1_ok (by omega) (by omega) (fun σ10 a10 b10 => ?_)
  refine s_dup (q := 47) (hd := dX11_init_46) (hq := rfl) (k := ?_)
  refine s_N0 (host := RX11) 50 dX11_init_47 rfl km_X1_init (by decide) ds_X1_init (Nat.le_of_ble_eq_true rfl) (k_Fram (x := x + 11) a10 (by omega) (by omega) (fun σ11 b11 a11 => ?_))
  refine ⟨rfl, ?_⟩
  refine h_putG (Cn := RX11) (T := TX11) (N := 13) tyX11 53 3 dX11_init_50 rfl (show σ11 x = _ from by rw [b11 x (by omega), b10 x (by omega)]; exact a9) rfl lay_X11 tyX11_ok nmX11 fl_X11_31 (by decide) (Or.inr ⟨rfl, rfl, rfl⟩) rfl rfl (by show 3 < 13; decide) (fun σ12 a12 b12 => ?_)
  refine s_aload_n 54 dX11_init_53 rfl rfl ?_
  refine h_newG (ci := 10) (Cn := RX10) (T := TX10) (N := 3) (fs := dfX10) tyX10 57 dX11_init_54 rfl rfl lay_X10 tyX10_ok cl_X11_35 ib_X10 it_X10 dfX10_ok (by omega) (by omega) (fun σ13 a13 b13 => ?_)
  refine s_dup (q := 58) (hd := dX11_init_57) (hq := rfl) (k := ?_)
  refine s_N0 (host := RX11) 61 dX11_init_58 rfl km_X10_init (by decide) ds_X10_init (Nat.le_of_ble_eq_true rfl) (k_Walk (x := x + 21) a13 (by omega) (by omega) (fun σ14 b14 a14 => ?_))
  refine ⟨rfl, ?_⟩
  refine h_putG (Cn := RX11) (T := TX11) (N := 13) tyX11 64 4 dX11_init_61 rfl (show σ14 x = _ from by rw [b14 x (by omega), b13 x (by omega)]; exact a12) rfl lay_X11 tyX11_ok nmX11 fl_X11_38 (by decide) (Or.inr ⟨rfl, rfl, rfl⟩) rfl rfl (by show 4 < 13; decide) (fun σ15 a15 b15 => ?_)
  refine s_aload_n 65 dX11_init_64 rfl rfl ?_
  refine h_newG (ci := 0) (Cn := RX0) (T := TX0) (N := 1) (fs := dfX0) tyX0 68 dX11_init_65 rfl rfl lay_X0 tyX0_ok cl_X11_42 ib_X0 it_X0 dfX0_ok (by omega) (by omega) (fun σ16 a16 b16 => ?_)
  refine s_dup (q := 69) (hd := dX11_init_68) (hq := rfl) (k := ?_)
  refine s_N0 (host := RX11) 72 dX11_init_69 rfl km_X0_init (by decide) ds_X0_init (Nat.le_of_ble_eq_true rfl) (k_Draw (x := x + 22) a16 (by omega) (by omega) (fun σ17 b17 a17 => ?_))
  refine ⟨rfl, ?_⟩
  refine h_putG (Cn := RX11) (T := TX11) (N := 13) tyX11 75 5 dX11_init_72 rfl (show σ17 x = _ from by rw [b17 x (by omega), b16 x (by omega)]; exact a15) rfl lay_X11 tyX11_ok nmX11 fl_X11_45 (by decide) (Or.inr ⟨rfl, rfl, rfl⟩) rfl rfl (by show 5 < 13; decide) (fun σ18 a18 b18 => ?_)
  refine s_aload_n 76 dX11_init_75 rfl rfl ?_
  refine h_newG (ci := 3) (Cn := RX3) (T := TX3) (N := 3) (fs := dfX3) tyX3 79 dX11_init_76 rfl rfl lay_X3 tyX3_ok cl_X11_49 ib_X3 it_X3 dfX3_ok (by omega) (by omega) (fun σ19 a19 b19 => ?_)
  refine s_dup (q := 80) (hd := dX11_init_79) (hq := rfl) (k := ?_)
  refine s_N0 (host := RX11) 83 dX11_init_80 rfl km_X3_init (by decide) ds_X3_init (Nat.le_of_ble_eq_true rfl) (k_Past (x := x + 23) a19 (by omega) (by omega) (fun σ20 b20 a20 => ?_))
  refine ⟨rfl, ?_⟩
  refine h_putG (Cn := RX11) (T := TX11) (N := 13) tyX11 86 6 dX11_init_83 rfl (show σ20 x = _ from by rw [b20 x (by omega), b19 x (by omega)]; exact a18) rfl lay_X11 tyX11_ok nmX11 fl_X11_52 (by decide) (Or.inr ⟨rfl, rfl, rfl⟩) rfl rfl (by show 6 < 13; decide) (fun σ21 a21 b21 => ?_)
  refine s_aload_n 87 dX11_init_86 rfl rfl ?_
  refine h_newG (ci := 7) (Cn := RX7) (T := TX7) (N := 8) (fs := dfX7) tyX7 90 dX11_init_87 rfl rfl lay_X7 tyX7_ok cl_X11_56 ib_X7 it_X7 dfX7_ok (by omega) (by omega) (fun σ22 a22 b22 => ?_)
  refine s_dup (q := 91) (hd := dX11_init_90) (hq := rfl) (k := ?_)
  refine s_I0 94 dX11_init_91 rfl km_X7_init ml_X11_58 ds_X7_init (Nat.le_of_ble_eq_true rfl) (k_State (x := x + 25) a22 (by omega) (by omega) (fun σ23 b23 a23 => ?_))
  refine ⟨rfl, ?_⟩
  refine h_putG (Cn := RX11) (T := TX11) (N := 13) tyX11 97 7 dX11_init_94 rfl (show σ23 x = _ from by rw [b23 x (by omega), b22 x (by omega)]; exact a21) rfl lay_X11 tyX11_ok nmX11 fl_X11_59 (by decide) (Or.inr ⟨rfl, rfl, rfl⟩) rfl rfl (by show 7 < 13; decide) (fun σ24 a24 b24 => ?_)
  refine s_aload_n 98 dX11_init_97 rfl rfl ?_
  refine h_newG (ci := 7) (Cn := RX7) (T := TX7) (N := 8) (fs := dfX7) tyX7 101 dX11_init_98 rfl rfl lay_X7 tyX7_ok cl_X11_56 ib_X7 it_X7 dfX7_ok (by omega) (by omega) (fun σ25 a25 b25 => ?_)
  refine s_dup (q := 102) (hd := dX11_init_101) (hq := rfl) (k := ?_)
  refine s_I0 105 dX11_init_102 rfl km_X7_init ml_X11_58 ds_X7_init (Nat.le_of_ble_eq_true rfl) (k_State (x := x + 101) a25 (by omega) (by omega) (fun σ26 b26 a26 => ?_))
  refine ⟨rfl, ?_⟩
  refine h_putG (Cn := RX11) (T := TX11) (N := 13) tyX11 108 8 dX11_init_105 rfl (show σ26 x = _ from by rw [b26 x (by omega), b25 x (by omega)]; exact a24) rfl lay_X11 tyX11_ok nmX11 fl_X11_63 (by decide) (Or.inr ⟨rfl, rfl, rfl⟩) rfl rfl (by show 8 < 13; decide) (fun σ27 a27 b27 => ?_)
  refine s_aload_n 109 dX11_init_108 rfl rfl ?_
  refine s_iconst 110 dX11_init_109 rfl ?_
  refine h_newaG (N := 4) 112 dX11_init_110 rfl rfl (by decide) (by omega) (by omega) (fun σ28 a28 b28 => ?_)
  refine h_putG (Cn := RX11) (T := TX11) (N := 13) tyX11 115 9 dX11_init_112 rfl (show σ28 x = _ from by rw [b28 x (by omega)]; exact a27) rfl lay_X11 tyX11_ok nmX11 fl_X11_66 (by decide) (Or.inr ⟨rfl, rfl, rfl⟩) rfl rfl (by show 9 < 13; decide) (fun σ29 a29 b29 => ?_)
  refine s_aload_n 116 dX11_init_115 rfl rfl ?_
  refine h_newG (ci := 7) (Cn := RX7) (T := TX7) (N := 8) (fs := dfX7) tyX7 119 dX11_init_116 rfl rfl lay_X7 tyX7_ok cl_X11_56 ib_X7 it_X7 dfX7_ok (by omega) (by omega) (fun σ30 a30 b30 => ?_)
  refine s_dup (q := 120) (hd := dX11_init_119) (hq := rfl) (k := ?_)
  refine s_I0 123 dX11_init_120 rfl km_X7_init ml_X11_58 ds_X7_init (Nat.le_of_ble_eq_true rfl) (k_State (x := x + 178) a30 (by omega) (by omega) (fun σ31 b31 a31 => ?_))
  refine ⟨rfl, ?_⟩
  refine h_putG (Cn := RX11) (T := TX11) (N := 13) tyX11 126 10 dX11_init_123 rfl (show σ31 x = _ from by rw [b31 x (by omega), b30 x (by omega)]; exact a29) rfl lay_X11 tyX11_ok nmX11 fl_X11_70 (by decide) (Or.inl rfl) rfl rfl (by show 10 < 13; decide) (fun σ32 a32 b32 => ?_)
  refine s_return rfl dX11_init_126 ?_
  refine hp σ32 (fun z hz => by rw [b32 z (by omega), b31 z (by omega), b30 z (by omega), b29 z (by omega), b28 z (by omega), b27 z (by omega), b26 z (by omega), b25 z (by omega), b24 z (by omega), b23 z (by omega), b22 z (by omega), b21 z (by omega), b20 z (by omega), b19 z (by omega), b18 z (by omega), b17 z (by omega), b16 z (by omega), b15 z (by omega), b14 z (by omega), b13 z (by omega), b12 z (by omega), b11 z (by omega), b10 z (by omega), b9 z (by omega), b8 z (by omega), b7 z (by omega), b6 z (by omega), b5 z (by omega), b4 z (by omega), b3 z (by omega), b2 z (by omega), b1 z (by omega)]) ⟨a32, a2.off (fun z p1 p2 => by rw [b32 z (by omega), b31 z (by omega), b30 z (by omega), b29 z (by omega), b28 z (by omega), b27 z (by omega), b26 z (by omega), b25 z (by omega), b24 z (by omega), b23 z (by omega), b22 z (by omega), b21 z (by omega), b20 z (by omega), b19 z (by omega), b18 z (by omega), b17 z (by omega), b16 z (by omega), b15 z (by omega), b14 z (by omega), b13 z (by omega), b12 z (by omega), b11 z (by omega), b10 z (by omega), b9 z (by omega), b8 z (by omega), b7 z (by omega), b6 z (by omega), b5 z (by omega), b4 z (by omega), b3 z (by omega)]), a5.off (fun z p1 p2 => by rw [b32 z (by omega), b31 z (by omega), b30 z (by omega), b29 z (by omega), b28 z (by omega), b27 z (by omega), b26 z (by omega), b25 z (by omega), b24 z (by omega), b23 z (by omega), b22 z (by omega), b21 z (by omega), b20 z (by omega), b19 z (by omega), b18 z (by omega), b17 z (by omega), b16 z (by omega), b15 z (by omega), b14 z (by omega), b13 z (by omega), b12 z (by omega), b11 z (by omega), b10 z (by omega), b9 z (by omega), b8 z (by omega), b7 z (by omega), b6 z (by omega)]), a8.off (fun z p1 p2 => by rw [b32 z (by omega), b31 z (by omega), b30 z (by omega), b29 z (by omega), b28 z (by omega), b27 z (by omega), b26 z (by omega), b25 z (by omega), b24 z (by omega), b23 z (by omega), b22 z (by omega), b21 z (by omega), b20 z (by omega), b19 z (by omega), b18 z (by omega), b17 z (by omega), b16 z (by omega), b15 z (by omega), b14 z (by omega), b13 z (by omega), b12 z (by omega), b11 z (by omega), b10 z (by omega), b9 z (by omega)]), a11.off (fun z p1 p2 => by rw [b32 z (by omega), b31 z (by omega), b30 z (by omega), b29 z (by omega), b28 z (by omega), b27 z (by omega), b26 z (by omega), b25 z (by omega), b24 z (by omega), b23 z (by omega), b22 z (by omega), b21 z (by omega), b20 z (by omega), b19 z (by omega), b18 z (by omega), b17 z (by omega), b16 z (by omega), b15 z (by omega), b14 z (by omega), b13 z (by omega), b12 z (by omega)]), a14.off (fun z p1 p2 => by rw [b32 z (by omega), b31 z (by omega), b30 z (by omega), b29 z (by omega), b28 z (by omega), b27 z (by omega), b26 z (by omega), b25 z (by omega), b24 z (by omega), b23 z (by omega), b22 z (by omega), b21 z (by omega), b20 z (by omega), b19 z (by omega), b18 z (by omega), b17 z (by omega), b16 z (by omega), b15 z (by omega)]), a17.off (fun z p1 p2 => by rw [b32 z (by omega), b31 z (by omega), b30 z (by omega), b29 z (by omega), b28 z (by omega), b27 z (by omega), b26 z (by omega), b25 z (by omega), b24 z (by omega), b23 z (by omega), b22 z (by omega), b21 z (by omega), b20 z (by omega), b19 z (by omega), b18 z (by omega)]), a20.off (fun z p1 p2 => by rw [b32 z (by omega), b31 z (by omega), b30 z (by omega), b29 z (by omega), b28 z (by omega), b27 z (by omega), b26 z (by omega), b25 z (by omega), b24 z (by omega), b23 z (by omega), b22 z (by omega), b21 z (by omega)]), a23.off (fun z p1 p2 => by rw [b32 z (by omega), b31 z (by omega), b30 z (by omega), b29 z (by omega), b28 z (by omega), b27 z (by omega), b26 z (by omega), b25 z (by omega), b24 z (by omega)]), a26.off (fun z p1 p2 => by rw [b32 z (by omega), b31 z (by omega), b30 z (by omega), b29 z (by omega), b28 z (by omega), b27 z (by omega)]), by rw [b32 _ (by omega), b31 _ (by omega), b30 _ (by omega), b29 _ (by omega)]; exact a28, a31.off (fun z p1 p2 => by rw [b32 z (by omega)])⟩
end MAKE2
