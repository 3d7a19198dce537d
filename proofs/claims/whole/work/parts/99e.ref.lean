/-! ===== the reference made ===== -/
def dfX12 : List Value := [vi 0, .null, vi 0, vi 0, vi 0, vi 0, vi 0, vi 0, vi 0, vi 0, vi 0, vi 0, vi 0, vi 0, vi 0, .null, .null, vi 0, vi 0, vi 0, vi 0, vi 0, vi 0, vi 0, .null, .null, vi 0, .null, vi 0, vi 0, .null, vi 0, .null, vi 0, .null, .null, .long 0, .null, vi 0, .null, .null, vi 0, .null, vi 0]
theorem dfX12_ok : ∀ j, j < 44 → defaultValue (tyX12 j) = vp_V dfX12 j := by
  intro j hj
  match j, hj with
  | 0, _ => rfl
  | 1, _ => rfl
  | 2, _ => rfl
  | 3, _ => rfl
  | 4, _ => rfl
  | 5, _ => rfl
  | 6, _ => rfl
  | 7, _ => rfl
  | 8, _ => rfl
  | 9, _ => rfl
  | 10, _ => rfl
  | 11, _ => rfl
  | 12, _ => rfl
  | 13, _ => rfl
  | 14, _ => rfl
  | 15, _ => rfl
  | 16, _ => rfl
  | 17, _ => rfl
  | 18, _ => rfl
  | 19, _ => rfl
  | 20, _ => rfl
  | 21, _ => rfl
  | 22, _ => rfl
  | 23, _ => rfl
  | 24, _ => rfl
  | 25, _ => rfl
  | 26, _ => rfl
  | 27, _ => rfl
  | 28, _ => rfl
  | 29, _ => rfl
  | 30, _ => rfl
  | 31, _ => rfl
  | 32, _ => rfl
  | 33, _ => rfl
  | 34, _ => rfl
  | 35, _ => rfl
  | 36, _ => rfl
  | 37, _ => rfl
  | 38, _ => rfl
  | 39, _ => rfl
  | 40, _ => rfl
  | 41, _ => rfl
  | 42, _ => rfl
  | 43, _ => rfl
  | n + 44, h => exact absurd h (by omega)
def iM0 : Nat → Int := fun k => if k = 19 then 20 else if k = 20 then 10 else 0
def RefC (G : GT) (σ : HS) (x : Nat) : Prop := σ x = some (.inr (12, fM x iM0 0)) ∧ ∀ j, 1 ≤ j → j ≤ 14 → σ (x + j) = some (.inl (gK G 0, ml j, .inl (fun _ => 0)))
section REF
variable {G : GT} {d : Nat} {σ σ' : HS} {uu : Nat} {post : Option Value → HS × Nat × Nat → Prop}
set_option maxRecDepth 20000 in
theorem k_Ref {x : Nat} (hσ : σ x = some (.inr (12, dfX12))) (hN : x + 15 ≤ gN G) (hU : uu + 145467 ≤ gU G) (hp : ∀ σ' : HS, (∀ z, z < x → σ' z = σ z) → RefC G σ' x → post none (σ', x + 15, uu + 145467)) : Cm G (A1 G) yX12_init cX12_init 1 none (d + 1) [.ref x] (σ, x + 1, uu) post := by
  refine Cm_intro (L := [some (.ref x)]) (by decide +kernel) (Nat.le_of_ble_eq_true rfl) rfl ?_
  refine s_aload_n 1 dX12_init_0 rfl rfl ?_
  refine s_objInit 4 dX12_init_1 rfl ml_X12_3 (Nat.le_of_ble_eq_true rfl) ?_
  refine s_aload_n 5 dX12_init_4 rfl rfl ?_
  refine s_sipush 8 dX12_init_5 rfl (k := ?_)
  refine h_newaG (N := 300) 10 dX12_init_8 rfl rfl (by decide) (by omega) (by omega) (fun σ1 a1 b1 => ?_)
  refine h_putG (Cn := RX12) (T := TX12) (N := 44) tyX12 13 1 dX12_init_10 rfl (show σ1 x = _ from by rw [b1 x (by omega)]; exact hσ) rfl lay_X12 tyX12_ok nmX12 fl_X12_9 (by decide) (Or.inr ⟨rfl, rfl, rfl⟩) rfl rfl (by show 1 < 44; decide) (fun σ2 a2 b2 => ?_)
  replace a2 : σ2 x = some (.inr (12, [vi 0, .ref (x + 1), vi 0, vi 0, vi 0, vi 0, vi 0, vi 0, vi 0, vi 0, vi 0, vi 0, vi 0, vi 0, vi 0, .null, .null, vi 0, vi 0, vi 0, vi 0, vi 0, vi 0, vi 0, .null, .null, vi 0, .null, vi 0, vi 0, .null, vi 0, .null, vi 0, .null, .null, .long 0, .null, vi 0, .null, .null, vi 0, .null, vi 0])) := a2
  refine s_aload_n 14 dX12_init_13 rfl rfl ?_
  refine s_iconst 15 dX12_init_14 rfl ?_
  refine h_newaG (N := 4) 17 dX12_init_15 rfl rfl (by decide) (by omega) (by omega) (fun σ3 a3 b3 => ?_)
  refine h_putG (Cn := RX12) (T := TX12) (N := 44) tyX12 20 15 dX12_init_17 rfl (show σ3 x = _ from by rw [b3 x (by omega)]; exact a2) rfl lay_X12 tyX12_ok nmX12 fl_X12_13 (by decide) (Or.inr ⟨rfl, rfl, rfl⟩) rfl rfl (by show 15 < 44; decide) (fun σ4 a4 b4 => ?_)
  replace a4 : σ4 x = some (.inr (12, [vi 0, .ref (x + 1), vi 0, vi 0, vi 0, vi 0, vi 0, vi 0, vi 0, vi 0, vi 0, vi 0, vi 0, vi 0, vi 0, .ref (x + 2), .null, vi 0, vi 0, vi 0, vi 0, vi 0, vi 0, vi 0, .null, .null, vi 0, .null, vi 0, vi 0, .null, vi 0, .null, vi 0, .null, .null, .long 0, .null, vi 0, .null, .null, vi 0, .null, vi 0])) := a4
  refine s_aload_n 21 dX12_init_20 rfl rfl ?_
  refine s_sipush 24 dX12_init_21 rfl (k := ?_)
  refine h_newaG (N := 9309) 26 dX12_init_24 rfl rfl (by decide) (by omega) (by omega) (fun σ5 a5 b5 => ?_)
  refine h_putG (Cn := RX12) (T := TX12) (N := 44) tyX12 29 16 dX12_init_26 rfl (show σ5 x = _ from by rw [b5 x (by omega)]; exact a4) rfl lay_X12 tyX12_ok nmX12 fl_X12_16 (by decide) (Or.inr ⟨rfl, rfl, rfl⟩) rfl rfl (by show 16 < 44; decide) (fun σ6 a6 b6 => ?_)
  replace a6 : σ6 x = some (.inr (12, [vi 0, .ref (x + 1), vi 0, vi 0, vi 0, vi 0, vi 0, vi 0, vi 0, vi 0, vi 0, vi 0, vi 0, vi 0, vi 0, .ref (x + 2), .ref (x + 3), vi 0, vi 0, vi 0, vi 0, vi 0, vi 0, vi 0, .null, .null, vi 0, .null, vi 0, vi 0, .null, vi 0, .null, vi 0, .null, .null, .long 0, .null, vi 0, .null, .null, vi 0, .null, vi 0])) := a6
  refine s_aload_n 30 dX12_init_29 rfl rfl ?_
  refine s_bipush 32 dX12_init_30 rfl (k := ?_)
  refine h_putG (Cn := RX12) (T := TX12) (N := 44) tyX12 35 19 dX12_init_32 rfl a6 rfl lay_X12 tyX12_ok nmX12 fl_X12_19 (by decide) (Or.inl rfl) rfl rfl (by show 19 < 44; decide) (fun σ7 a7 b7 => ?_)
  replace a7 : σ7 x = some (.inr (12, [vi 0, .ref (x + 1), vi 0, vi 0, vi 0, vi 0, vi 0, vi 0, vi 0, vi 0, vi 0, vi 0, vi 0, vi 0, vi 0, .ref (x + 2), .ref (x + 3), vi 0, vi 0, vi 20, vi 0, vi 0, vi 0, vi 0, .null, .null, vi 0, .null, vi 0, vi 0, .null, vi 0, .null, vi 0, .null, .null, .long 0, .null, vi 0, .null, .null, vi 0, .null, vi 0])) := a7
  refine s_aload_n 36 dX12_init_35 rfl rfl ?_
  refine s_bipush 38 dX12_init_36 rfl (k := ?_)
  refine h_putG (Cn := RX12) (T := TX12) (N := 44) tyX12 41 20 dX12_init_38 rfl a7 rfl lay_X12 tyX12_ok nmX12 fl_X12_23 (by decide) (Or.inl rfl) rfl rfl (by show 20 < 44; decide) (fun σ8 a8 b8 => ?_)
  replace a8 : σ8 x = some (.inr (12, [vi 0, .ref (x + 1), vi 0, vi 0, vi 0, vi 0, vi 0, vi 0, vi 0, vi 0, vi 0, vi 0, vi 0, vi 0, vi 0, .ref (x + 2), .ref (x + 3), vi 0, vi 0, vi 20, vi 10, vi 0, vi 0, vi 0, .null, .null, vi 0, .null, vi 0, vi 0, .null, vi 0, .null, vi 0, .null, .null, .long 0, .null, vi 0, .null, .null, vi 0, .null, vi 0])) := a8
  refine s_aload_n 42 dX12_init_41 rfl rfl ?_
  refine s_iconst 43 dX12_init_42 rfl ?_
  refine h_newaG (N := 4) 45 dX12_init_43 rfl rfl (by decide) (by omega) (by omega) (fun σ9 a9 b9 => ?_)
  refine h_putG (Cn := RX12) (T := TX12) (N := 44) tyX12 48 24 dX12_init_45 rfl (show σ9 x = _ from by rw [b9 x (by omega)]; exact a8) rfl lay_X12 tyX12_ok nmX12 fl_X12_26 (by decide) (Or.inr ⟨rfl, rfl, rfl⟩) rfl rfl (by show 24 < 44; decide) (fun σ10 a10 b10 => ?_)
  replace a10 : σ10 x = some (.inr (12, [vi 0, .ref (x + 1), vi 0, vi 0, vi 0, vi 0, vi 0, vi 0, vi 0, vi 0, vi 0, vi 0, vi 0, vi 0, vi 0, .ref (x + 2), .ref (x + 3), vi 0, vi 0, vi 20, vi 10, vi 0, vi 0, vi 0, .ref (x + 4), .null, vi 0, .null, vi 0, vi 0, .null, vi 0, .null, vi 0, .null, .null, .long 0, .null, vi 0, .null, .null, vi 0, .null, vi 0])) := a10
  refine s_aload_n 49 dX12_init_48 rfl rfl ?_
  refine s_sipush 52 dX12_init_49 rfl (k := ?_)
  refine h_newaG (N := 1400) 54 dX12_init_52 rfl rfl (by decide) (by omega) (by omega) (fun σ11 a11 b11 => ?_)
  refine h_putG (Cn := RX12) (T := TX12) (N := 44) tyX12 57 25 dX12_init_54 rfl (show σ11 x = _ from by rw [b11 x (by omega)]; exact a10) rfl lay_X12 tyX12_ok nmX12 fl_X12_29 (by decide) (Or.inr ⟨rfl, rfl, rfl⟩) rfl rfl (by show 25 < 44; decide) (fun σ12 a12 b12 => ?_)
  replace a12 : σ12 x = some (.inr (12, [vi 0, .ref (x + 1), vi 0, vi 0, vi 0, vi 0, vi 0, vi 0, vi 0, vi 0, vi 0, vi 0, vi 0, vi 0, vi 0, .ref (x + 2), .ref (x + 3), vi 0, vi 0, vi 20, vi 10, vi 0, vi 0, vi 0, .ref (x + 4), .ref (x + 5), vi 0, .null, vi 0, vi 0, .null, vi 0, .null, vi 0, .null, .null, .long 0, .null, vi 0, .null, .null, vi 0, .null, vi 0])) := a12
  refine s_aload_n 58 dX12_init_57 rfl rfl ?_
  refine s_sipush 61 dX12_init_58 rfl (k := ?_)
  refine h_newaG (N := 1400) 63 dX12_init_61 rfl rfl (by decide) (by omega) (by omega) (fun σ13 a13 b13 => ?_)
  refine h_putG (Cn := RX12) (T := TX12) (N := 44) tyX12 66 27 dX12_init_63 rfl (show σ13 x = _ from by rw [b13 x (by omega)]; exact a12) rfl lay_X12 tyX12_ok nmX12 fl_X12_32 (by decide) (Or.inr ⟨rfl, rfl, rfl⟩) rfl rfl (by show 27 < 44; decide) (fun σ14 a14 b14 => ?_)
  replace a14 : σ14 x = some (.inr (12, [vi 0, .ref (x + 1), vi 0, vi 0, vi 0, vi 0, vi 0, vi 0, vi 0, vi 0, vi 0, vi 0, vi 0, vi 0, vi 0, .ref (x + 2), .ref (x + 3), vi 0, vi 0, vi 20, vi 10, vi 0, vi 0, vi 0, .ref (x + 4), .ref (x + 5), vi 0, .ref (x + 6), vi 0, vi 0, .null, vi 0, .null, vi 0, .null, .null, .long 0, .null, vi 0, .null, .null, vi 0, .null, vi 0])) := a14
  refine s_aload_n 67 dX12_init_66 rfl rfl ?_
  refine s_sipush 70 dX12_init_67 rfl (k := ?_)
  refine h_newaG (N := 1400) 72 dX12_init_70 rfl rfl (by decide) (by omega) (by omega) (fun σ15 a15 b15 => ?_)
  refine h_putG (Cn := RX12) (T := TX12) (N := 44) tyX12 75 30 dX12_init_72 rfl (show σ15 x = _ from by rw [b15 x (by omega)]; exact a14) rfl lay_X12 tyX12_ok nmX12 fl_X12_35 (by decide) (Or.inr ⟨rfl, rfl, rfl⟩) rfl rfl (by show 30 < 44; decide) (fun σ16 a16 b16 => ?_)
  replace a16 : σ16 x = some (.inr (12, [vi 0, .ref (x + 1), vi 0, vi 0, vi 0, vi 0, vi 0, vi 0, vi 0, vi 0, vi 0, vi 0, vi 0, vi 0, vi 0, .ref (x + 2), .ref (x + 3), vi 0, vi 0, vi 20, vi 10, vi 0, vi 0, vi 0, .ref (x + 4), .ref (x + 5), vi 0, .ref (x + 6), vi 0, vi 0, .ref (x + 7), vi 0, .null, vi 0, .null, .null, .long 0, .null, vi 0, .null, .null, vi 0, .null, vi 0])) := a16
  refine s_aload_n 76 dX12_init_75 rfl rfl ?_
  refine s_ldc (111708) 78 dX12_init_76 rfl kc_X12_38 rfl ?_
  refine h_newaG (N := 111708) 80 dX12_init_78 rfl rfl (by decide) (by omega) (by omega) (fun σ17 a17 b17 => ?_)
  refine h_putG (Cn := RX12) (T := TX12) (N := 44) tyX12 83 32 dX12_init_80 rfl (show σ17 x = _ from by rw [b17 x (by omega)]; exact a16) rfl lay_X12 tyX12_ok nmX12 fl_X12_39 (by decide) (Or.inr ⟨rfl, rfl, rfl⟩) rfl rfl (by show 32 < 44; decide) (fun σ18 a18 b18 => ?_)
  replace a18 : σ18 x = some (.inr (12, [vi 0, .ref (x + 1), vi 0, vi 0, vi 0, vi 0, vi 0, vi 0, vi 0, vi 0, vi 0, vi 0, vi 0, vi 0, vi 0, .ref (x + 2), .ref (x + 3), vi 0, vi 0, vi 20, vi 10, vi 0, vi 0, vi 0, .ref (x + 4), .ref (x + 5), vi 0, .ref (x + 6), vi 0, vi 0, .ref (x + 7), vi 0, .ref (x + 8), vi 0, .null, .null, .long 0, .null, vi 0, .null, .null, vi 0, .null, vi 0])) := a18
  refine s_aload_n 84 dX12_init_83 rfl rfl ?_
  refine s_sipush 87 dX12_init_84 rfl (k := ?_)
  refine h_newaG (N := 9309) 89 dX12_init_87 rfl rfl (by decide) (by omega) (by omega) (fun σ19 a19 b19 => ?_)
  refine h_putG (Cn := RX12) (T := TX12) (N := 44) tyX12 92 34 dX12_init_89 rfl (show σ19 x = _ from by rw [b19 x (by omega)]; exact a18) rfl lay_X12 tyX12_ok nmX12 fl_X12_42 (by decide) (Or.inr ⟨rfl, rfl, rfl⟩) rfl rfl (by show 34 < 44; decide) (fun σ20 a20 b20 => ?_)
  replace a20 : σ20 x = some (.inr (12, [vi 0, .ref (x + 1), vi 0, vi 0, vi 0, vi 0, vi 0, vi 0, vi 0, vi 0, vi 0, vi 0, vi 0, vi 0, vi 0, .ref (x + 2), .ref (x + 3), vi 0, vi 0, vi 20, vi 10, vi 0, vi 0, vi 0, .ref (x + 4), .ref (x + 5), vi 0, .ref (x + 6), vi 0, vi 0, .ref (x + 7), vi 0, .ref (x + 8), vi 0, .ref (x + 9), .null, .long 0, .null, vi 0, .null, .null, vi 0, .null, vi 0])) := a20
  refine s_aload_n 93 dX12_init_92 rfl rfl ?_
  refine s_iconst 94 dX12_init_93 rfl ?_
  refine h_newaG (N := 4) 96 dX12_init_94 rfl rfl (by decide) (by omega) (by omega) (fun σ21 a21 b21 => ?_)
  refine h_putG (Cn := RX12) (T := TX12) (N := 44) tyX12 99 35 dX12_init_96 rfl (show σ21 x = _ from by rw [b21 x (by omega)]; exact a20) rfl lay_X12 tyX12_ok nmX12 fl_X12_45 (by decide) (Or.inr ⟨rfl, rfl, rfl⟩) rfl rfl (by show 35 < 44; decide) (fun σ22 a22 b22 => ?_)
  replace a22 : σ22 x = some (.inr (12, [vi 0, .ref (x + 1), vi 0, vi 0, vi 0, vi 0, vi 0, vi 0, vi 0, vi 0, vi 0, vi 0, vi 0, vi 0, vi 0, .ref (x + 2), .ref (x + 3), vi 0, vi 0, vi 20, vi 10, vi 0, vi 0, vi 0, .ref (x + 4), .ref (x + 5), vi 0, .ref (x + 6), vi 0, vi 0, .ref (x + 7), vi 0, .ref (x + 8), vi 0, .ref (x + 9), .ref (x + 10), .long 0, .null, vi 0, .null, .null, vi 0, .null, vi 0])) := a22
  refine s_aload_n 100 dX12_init_99 rfl rfl ?_
  refine s_bipush 102 dX12_init_100 rfl (k := ?_)
  refine h_newaG (N := 120) 104 dX12_init_102 rfl rfl (by decide) (by omega) (by omega) (fun σ23 a23 b23 => ?_)
  refine h_putG (Cn := RX12) (T := TX12) (N := 44) tyX12 107 37 dX12_init_104 rfl (show σ23 x = _ from by rw [b23 x (by omega)]; exact a22) rfl lay_X12 tyX12_ok nmX12 fl_X12_48 (by decide) (Or.inr ⟨rfl, rfl, rfl⟩) rfl rfl (by show 37 < 44; decide) (fun σ24 a24 b24 => ?_)
  replace a24 : σ24 x = some (.inr (12, [vi 0, .ref (x + 1), vi 0, vi 0, vi 0, vi 0, vi 0, vi 0, vi 0, vi 0, vi 0, vi 0, vi 0, vi 0, vi 0, .ref (x + 2), .ref (x + 3), vi 0, vi 0, vi 20, vi 10, vi 0, vi 0, vi 0, .ref (x + 4), .ref (x + 5), vi 0, .ref (x + 6), vi 0, vi 0, .ref (x + 7), vi 0, .ref (x + 8), vi 0, .ref (x + 9), .ref (x + 10), .long 0, .ref (x + 11), vi 0, .null, .null, vi 0, .null, vi 0])) := a24
  refine s_aload_n 108 dX12_init_107 rfl rfl ?_
  refine s_sipush 111 dX12_init_108 rfl (k := ?_)
  refine h_newaG (N := 600) 113 dX12_init_111 rfl rfl (by decide) (by omega) (by omega) (fun σ25 a25 b25 => ?_)
  refine h_putG (Cn := RX12) (T := TX12) (N := 44) tyX12 116 39 dX12_init_113 rfl (show σ25 x = _ from by rw [b25 x (by omega)]; exact a24) rfl lay_X12 tyX12_ok nmX12 fl_X12_51 (by decide) (Or.inr ⟨rfl, rfl, rfl⟩) rfl rfl (by show 39 < 44; decide) (fun σ26 a26 b26 => ?_)
  replace a26 : σ26 x = some (.inr (12, [vi 0, .ref (x + 1), vi 0, vi 0, vi 0, vi 0, vi 0, vi 0, vi 0, vi 0, vi 0, vi 0, vi 0, vi 0, vi 0, .ref (x + 2), .ref (x + 3), vi 0, vi 0, vi 20, vi 10, vi 0, vi 0, vi 0, .ref (x + 4), .ref (x + 5), vi 0, .ref (x + 6), vi 0, vi 0, .ref (x + 7), vi 0, .ref (x + 8), vi 0, .ref (x + 9), .ref (x + 10), .long 0, .ref (x + 11), vi 0, .ref (x + 12), .null, vi 0, .null, vi 0])) := a26
  refine s_aload_n 117 dX12_init_116 rfl rfl ?_
  refine s_sipush 120 dX12_init_117 rfl (k := ?_)
  refine h_newaG (N := 600) 122 dX12_init_120 rfl rfl (by decide) (by omega) (by omega) (fun σ27 a27 b27 => ?_)
  refine h_putG (Cn := RX12) (T := TX12) (N := 44) tyX12 125 40 dX12_init_122 rfl (show σ27 x = _ from by rw [b27 x (by omega)]; exact a26) rfl lay_X12 tyX12_ok nmX12 fl_X12_54 (by decide) (Or.inr ⟨rfl, rfl, rfl⟩) rfl rfl (by show 40 < 44; decide) (fun σ28 a28 b28 => ?_)
  replace a28 : σ28 x = some (.inr (12, [vi 0, .ref (x + 1), vi 0, vi 0, vi 0, vi 0, vi 0, vi 0, vi 0, vi 0, vi 0, vi 0, vi 0, vi 0, vi 0, .ref (x + 2), .ref (x + 3), vi 0, vi 0, vi 20, vi 10, vi 0, vi 0, vi 0, .ref (x + 4), .ref (x + 5), vi 0, .ref (x + 6), vi 0, vi 0, .ref (x + 7), vi 0, .ref (x + 8), vi 0, .ref (x + 9), .ref (x + 10), .long 0, .ref (x + 11), vi 0, .ref (x + 12), .ref (x + 13), vi 0, .null, vi 0])) := a28
  refine s_aload_n 126 dX12_init_125 rfl rfl ?_
  refine s_sipush 129 dX12_init_126 rfl (k := ?_)
  refine h_newaG (N := 9309) 131 dX12_init_129 rfl rfl (by decide) (by omega) (by omega) (fun σ29 a29 b29 => ?_)
  refine h_putG (Cn := RX12) (T := TX12) (N := 44) tyX12 134 42 dX12_init_131 rfl (show σ29 x = _ from by rw [b29 x (by omega)]; exact a28) rfl lay_X12 tyX12_ok nmX12 fl_X12_57 (by decide) (Or.inr ⟨rfl, rfl, rfl⟩) rfl rfl (by show 42 < 44; decide) (fun σ30 a30 b30 => ?_)
  replace a30 : σ30 x = some (.inr (12, [vi 0, .ref (x + 1), vi 0, vi 0, vi 0, vi 0, vi 0, vi 0, vi 0, vi 0, vi 0, vi 0, vi 0, vi 0, vi 0, .ref (x + 2), .ref (x + 3), vi 0, vi 0, vi 20, vi 10, vi 0, vi 0, vi 0, .ref (x + 4), .ref (x + 5), vi 0, .ref (x + 6), vi 0, vi 0, .ref (x + 7), vi 0, .ref (x + 8), vi 0, .ref (x + 9), .ref (x + 10), .long 0, .ref (x + 11), vi 0, .ref (x + 12), .ref (x + 13), vi 0, .ref (x + 14), vi 0])) := a30
  refine s_return rfl dX12_init_134 ?_
  refine hp σ30 (fun z hz => by rw [b30 z (by omega), b29 z (by omega), b28 z (by omega), b27 z (by omega), b26 z (by omega), b25 z (by omega), b24 z (by omega), b23 z (by omega), b22 z (by omega), b21 z (by omega), b20 z (by omega), b19 z (by omega), b18 z (by omega), b17 z (by omega), b16 z (by omega), b15 z (by omega), b14 z (by omega), b13 z (by omega), b12 z (by omega), b11 z (by omega), b10 z (by omega), b9 z (by omega), b8 z (by omega), b7 z (by omega), b6 z (by omega), b5 z (by omega), b4 z (by omega), b3 z (by omega), b2 z (by omega), b1 z (by omega)]) ⟨a30, fun j h1 h2 => ?_⟩
  match j, h1, h2 with
  | 1, _, _ => rw [b30 (x + 1) (by omega), b29 (x + 1) (by omega), b28 (x + 1) (by omega), b27 (x + 1) (by omega), b26 (x + 1) (by omega), b25 (x + 1) (by omega), b24 (x + 1) (by omega), b23 (x + 1) (by omega), b22 (x + 1) (by omega), b21 (x + 1) (by omega), b20 (x + 1) (by omega), b19 (x + 1) (by omega), b18 (x + 1) (by omega), b17 (x + 1) (by omega), b16 (x + 1) (by omega), b15 (x + 1) (by omega), b14 (x + 1) (by omega), b13 (x + 1) (by omega), b12 (x + 1) (by omega), b11 (x + 1) (by omega), b10 (x + 1) (by omega), b9 (x + 1) (by omega), b8 (x + 1) (by omega), b7 (x + 1) (by omega), b6 (x + 1) (by omega), b5 (x + 1) (by omega), b4 (x + 1) (by omega), b3 (x + 1) (by omega), b2 (x + 1) (by omega)]; exact a1
  | 2, _, _ => rw [b30 (x + 2) (by omega), b29 (x + 2) (by omega), b28 (x + 2) (by omega), b27 (x + 2) (by omega), b26 (x + 2) (by omega), b25 (x + 2) (by omega), b24 (x + 2) (by omega), b23 (x + 2) (by omega), b22 (x + 2) (by omega), b21 (x + 2) (by omega), b20 (x + 2) (by omega), b19 (x + 2) (by omega), b18 (x + 2) (by omega), b17 (x + 2) (by omega), b16 (x + 2) (by omega), b15 (x + 2) (by omega), b14 (x + 2) (by omega), b13 (x + 2) (by omega), b12 (x + 2) (by omega), b11 (x + 2) (by omega), b10 (x + 2) (by omega), b9 (x + 2) (by omega), b8 (x + 2) (by omega), b7 (x + 2) (by omega), b6 (x + 2) (by omega), b5 (x + 2) (by omega), b4 (x + 2) (by omega)]; exact a3
  | 3, _, _ => rw [b30 (x + 3) (by omega), b29 (x + 3) (by omega), b28 (x + 3) (by omega), b27 (x + 3) (by omega), b26 (x + 3) (by omega), b25 (x + 3) (by omega), b24 (x + 3) (by omega), b23 (x + 3) (by omega), b22 (x + 3) (by omega), b21 (x + 3) (by omega), b20 (x + 3) (by omega), b19 (x + 3) (by omega), b18 (x + 3) (by omega), b17 (x + 3) (by omega), b16 (x + 3) (by omega), b15 (x + 3) (by omega), b14 (x + 3) (by omega), b13 (x + 3) (by omega), b12 (x + 3) (by omega), b11 (x + 3) (by omega), b10 (x + 3) (by omega), b9 (x + 3) (by omega), b8 (x + 3) (by omega), b7 (x + 3) (by omega), b6 (x + 3) (by omega)]; exact a5
  | 4, _, _ => rw [b30 (x + 4) (by omega), b29 (x + 4) (by omega), b28 (x + 4) (by omega), b27 (x + 4) (by omega), b26 (x + 4) (by omega), b25 (x + 4) (by omega), b24 (x + 4) (by omega), b23 (x + 4) (by omega), b22 (x + 4) (by omega), b21 (x + 4) (by omega), b20 (x + 4) (by omega), b19 (x + 4) (by omega), b18 (x + 4) (by omega), b17 (x + 4) (by omega), b16 (x + 4) (by omega), b15 (x + 4) (by omega), b14 (x + 4) (by omega), b13 (x + 4) (by omega), b12 (x + 4) (by omega), b11 (x + 4) (by omega), b10 (x + 4) (by omega)]; exact a9
  | 5, _, _ => rw [b30 (x + 5) (by omega), b29 (x + 5) (by omega), b28 (x + 5) (by omega), b27 (x + 5) (by omega), b26 (x + 5) (by omega), b25 (x + 5) (by omega), b24 (x + 5) (by omega), b23 (x + 5) (by omega), b22 (x + 5) (by omega), b21 (x + 5) (by omega), b20 (x + 5) (by omega), b19 (x + 5) (by omega), b18 (x + 5) (by omega), b17 (x + 5) (by omega), b16 (x + 5) (by omega), b15 (x + 5) (by omega), b14 (x + 5) (by omega), b13 (x + 5) (by omega), b12 (x + 5) (by omega)]; exact a11
  | 6, _, _ => rw [b30 (x + 6) (by omega), b29 (x + 6) (by omega), b28 (x + 6) (by omega), b27 (x + 6) (by omega), b26 (x + 6) (by omega), b25 (x + 6) (by omega), b24 (x + 6) (by omega), b23 (x + 6) (by omega), b22 (x + 6) (by omega), b21 (x + 6) (by omega), b20 (x + 6) (by omega), b19 (x + 6) (by omega), b18 (x + 6) (by omega), b17 (x + 6) (by omega), b16 (x + 6) (by omega), b15 (x + 6) (by omega), b14 (x + 6) (by omega)]; exact a13
  | 7, _, _ => rw [b30 (x + 7) (by omega), b29 (x + 7) (by omega), b28 (x + 7) (by omega), b27 (x + 7) (by omega), b26 (x + 7) (by omega), b25 (x + 7) (by omega), b24 (x + 7) (by omega), b23 (x + 7) (by omega), b22 (x + 7) (by omega), b21 (x + 7) (by omega), b20 (x + 7) (by omega), b19 (x + 7) (by omega), b18 (x + 7) (by omega), b17 (x + 7) (by omega), b16 (x + 7) (by omega)]; exact a15
  | 8, _, _ => rw [b30 (x + 8) (by omega), b29 (x + 8) (by omega), b28 (x + 8) (by omega), b27 (x + 8) (by omega), b26 (x + 8) (by omega), b25 (x + 8) (by omega), b24 (x + 8) (by omega), b23 (x + 8) (by omega), b22 (x + 8) (by omega), b21 (x + 8) (by omega), b20 (x + 8) (by omega), b19 (x + 8) (by omega), b18 (x + 8) (by omega)]; exact a17
  | 9, _, _ => rw [b30 (x + 9) (by omega), b29 (x + 9) (by omega), b28 (x + 9) (by omega), b27 (x + 9) (by omega), b26 (x + 9) (by omega), b25 (x + 9) (by omega), b24 (x + 9) (by omega), b23 (x + 9) (by omega), b22 (x + 9) (by omega), b21 (x + 9) (by omega), b20 (x + 9) (by omega)]; exact a19
  | 10, _, _ => rw [b30 (x + 10) (by omega), b29 (x + 10) (by omega), b28 (x + 10) (by omega), b27 (x + 10) (by omega), b26 (x + 10) (by omega), b25 (x + 10) (by omega), b24 (x + 10) (by omega), b23 (x + 10) (by omega), b22 (x + 10) (by omega)]; exact a21
  | 11, _, _ => rw [b30 (x + 11) (by omega), b29 (x + 11) (by omega), b28 (x + 11) (by omega), b27 (x + 11) (by omega), b26 (x + 11) (by omega), b25 (x + 11) (by omega), b24 (x + 11) (by omega)]; exact a23
  | 12, _, _ => rw [b30 (x + 12) (by omega), b29 (x + 12) (by omega), b28 (x + 12) (by omega), b27 (x + 12) (by omega), b26 (x + 12) (by omega)]; exact a25
  | 13, _, _ => rw [b30 (x + 13) (by omega), b29 (x + 13) (by omega), b28 (x + 13) (by omega)]; exact a27
  | 14, _, _ => rw [b30 (x + 14) (by omega)]; exact a29
  | 0, h1, _ => exact absurd h1 (by decide)
  | j + 15, _, h2 => exact absurd h2 (by omega)
theorem RefC.rep {x : Nat} : RepM iM0 (fun _ _ => 0) ([], [], [], (fun _ => 0), 0, ru1, (fun _ => 0), st0 (fun _ => 0), [], none) :=
  ⟨⟨rfl, sg_nil _ _⟩, ⟨rfl, sg_nil _ _⟩, ⟨rfl, sg_nil _ _⟩, fun _ _ => rfl, rfl, ⟨rfl, rfl⟩, ⟨by decide, by decide⟩, rfl, rfl, fun e => absurd e (by decide)⟩
theorem sy0_wf : WfSy 0 sy0 := by
  have hb : byt [] := fun x hx => absurd hx List.not_mem_nil
  exact ⟨⟨by decide, hb⟩, ⟨by decide, hb⟩, ⟨by decide, hb⟩, fun _ _ => ⟨Int.le_refl 0, Int.le_refl 0⟩, Or.inl rfl, ⟨⟨by decide, by decide⟩, by decide, by decide⟩, fun _ => ⟨rfl, rfl, rfl, rfl⟩, by decide, fun e => absurd e (by decide)⟩
end REF
