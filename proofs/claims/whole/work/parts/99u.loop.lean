/-! ===== the law's loop ===== -/
section LLOOP
variable {G : GT} {b Ln q m0 C0 U0 : Nat} {xs : Nat → Int32} {post : Option Value → LT → Prop}
theorem l_sw {k : Nat} {a : PT} {mt : MT} {o : Int64} {Y : SY} {l5 l6 : Option Value} (hG : LawG G b Ln xs C0 U0) (hk : 6 * (k : Int) + 6 ≤ Ln) (hI : LI q C0 U0 k a mt Y) (hT : LTail G b q m0 C0 U0 k post) : V G (AL G m0) yL_law cL_law 7 (some .boolean) 12 (a, mt, o) 33 [some (.ref b), some (.ref q), some (.ref m0), some (.ref (m0 + 15)), some (vi (6 * (k : Int))), l5, l6] [] post := by
  have hS := hG.1
  have hLn := hG.2.1
  refine s_aload_n 34 dL_law_33 rfl rfl ?_
  refine s_iload 36 dL_law_34 rfl rfl ?_
  refine s_sld 37 dL_law_36 rfl hS (by omega) (by omega) ?_
  refine s_bipush (q := 39) (hd := dL_law_37) (hq := rfl) (k := ?_)
  refine s_iand 40 (Int32.ofInt (scI xs (6 * (k : Int)).toNat) &&& Int32.ofInt 63).toInt dL_law_39 rfl (Int32.ofInt_toInt _).symm ?_
  have hr : rg (Int32.ofInt (scI xs (6 * (k : Int)).toNat) &&& Int32.ofInt 63).toInt := scI_rg (fun _ => Int32.ofInt (scI xs (6 * (k : Int)).toNat) &&& Int32.ofInt 63) 0
  refine s_tabL [196, 269, 294, 307, 320, 345, 370, 395, 420, 457, 482, 519, 588, 613, 638, 663, 688, 756, 793, 818, 843, 868, 881, 906, 943, 980, 1005, 1042, 1079, 1104, 1117, 1130, 1143, 1168, 1193] 1218 dL_law_40 rfl rfl rfl (by decide) ⟨fun _ => lc_0 hG hk hI hT, fun _ => lc_1 hG hk hI hT, fun _ => lc_2 hG hk hI hT, fun _ => lc_3 hG hk hI hT, fun _ => lc_4 hG hk hI hT, fun _ => lc_5 hG hk hI hT, fun _ => lc_6 hG hk hI hT, fun _ => lc_7 hG hk hI hT, fun _ => lc_8 hG hk hI hT, fun _ => lc_9 hG hk hI hT, fun _ => lc_10 hG hk hI hT, fun _ => lc_11 hG hk hI hT, fun _ => lc_12 hG hk hI hT, fun _ => lc_13 hG hk hI hT, fun _ => lc_14 hG hk hI hT, fun _ => lc_15 hG hk hI hT, fun _ => lc_16 hG hk hI hT, fun _ => lc_17 hG hk hI hT, fun _ => lc_18 hG hk hI hT, fun _ => lc_19 hG hk hI hT, fun _ => lc_20 hG hk hI hT, fun _ => lc_21 hG hk hI hT, fun _ => lc_22 hG hk hI hT, fun _ => lc_23 hG hk hI hT, fun _ => lc_24 hG hk hI hT, fun _ => lc_25 hG hk hI hT, fun _ => lc_26 hG hk hI hT, fun _ => lc_27 hG hk hI hT, fun _ => lc_28 hG hk hI hT, fun _ => lc_29 hG hk hI hT, fun _ => lc_30 hG hk hI hT, fun _ => lc_31 hG hk hI hT, fun _ => lc_32 hG hk hI hT, fun _ => lc_33 hG hk hI hT, fun _ => lc_34 hG hk hI hT, trivial⟩ (fun _ => ?_) hr
  obtain ⟨hP, hM, hW⟩ := hI
  exact hT _ _ _ _ _ _ ⟨hP.more (by omega) (by omega), hM, wf_up0 hW⟩
theorem l_loop (hG : LawG G b Ln xs C0 U0) (hp : ∀ s, post (some (vb true)) s) : ∀ (f k : Nat), Ln ≤ 6 * k + 6 * f → ∀ (a : PT) (mt : MT) (o : Int64) (Y : SY) (l5 l6 : Option Value), k ≤ 513 → LI q C0 U0 k a mt Y → V G (AL G m0) yL_law cL_law 7 (some .boolean) 12 (a, mt, o) 23 [some (.ref b), some (.ref q), some (.ref m0), some (.ref (m0 + 15)), some (vi (6 * (k : Int))), l5, l6] [] post := by
  intro f
  induction f with
  | zero =>
    intro k hf a mt o Y l5 l6 h5 hI
    have hS := hG.1
    have hLn := hG.2.1
    refine s_iload 25 dL_law_23 rfl rfl ?_
    refine s_aload_n 26 dL_law_25 rfl rfl ?_
    refine s_slenX 27 dL_law_26 rfl hS ?_
    refine s_bipush (q := 29) (hd := dL_law_27) (hq := rfl) (k := ?_)
    refine s_isub 30 dL_law_29 rfl ?_
    refine s_icmp_gt 33 1224 dL_law_30 rfl rfl (fun h => ?_) (fun h => ?_)
    · refine s_iconst 1225 dL_law_1224 rfl ?_
      exact s_zreturn1 rfl dL_law_1225 (hp _)
    · omega
  | succ f ih =>
    intro k hf a mt o Y l5 l6 h5 hI
    have hS := hG.1
    have hLn := hG.2.1
    refine s_iload 25 dL_law_23 rfl rfl ?_
    refine s_aload_n 26 dL_law_25 rfl rfl ?_
    refine s_slenX 27 dL_law_26 rfl hS ?_
    refine s_bipush (q := 29) (hd := dL_law_27) (hq := rfl) (k := ?_)
    refine s_isub 30 dL_law_29 rfl ?_
    refine s_icmp_gt 33 1224 dL_law_30 rfl rfl (fun h => ?_) (fun h => ?_)
    · refine s_iconst 1225 dL_law_1224 rfl ?_
      exact s_zreturn1 rfl dL_law_1225 (hp _)
    · refine l_sw hG (by omega) hI ?_
      intro a2 mt2 o2 Y2 m5 m6 hI2
      refine s_iinc 1221 dL_law_1218 rfl rfl (Nat.le_of_ble_eq_true rfl) rfl ?_
      refine s_goto 23 dL_law_1221 rfl ?_
      have e9 : 6 * (k : Int) + 6 = 6 * ((k + 1 : Nat) : Int) := by omega
      rw [e9]
      exact ih (k + 1) (by omega) a2 mt2 o2 Y2 m5 m6 (by omega) hI2
end LLOOP
/-! ===== its beginning: a program, a reference, one long ===== -/
theorem QuietC.off {G : GT} {σ σ' : HS} {x : Nat} (h : QuietC G σ x) (he : ∀ z, x ≤ z → z < x + 254 → σ' z = σ z) : QuietC G σ' x := by
  obtain ⟨h0, h1, h2, h3, h4, h5, h6, h7, h8, h9, h10, h11⟩ := h
  exact ⟨(he x (by omega) (by omega)).trans h0, h1.off (fun z a b => he z (by omega) (by omega)), h2.off (fun z a b => he z (by omega) (by omega)), h3.off (fun z a b => he z (by omega) (by omega)), h4.off (fun z a b => he z (by omega) (by omega)), h5.off (fun z a b => he z (by omega) (by omega)), h6.off (fun z a b => he z (by omega) (by omega)), h7.off (fun z a b => he z (by omega) (by omega)), h8.off (fun z a b => he z (by omega) (by omega)), h9.off (fun z a b => he z (by omega) (by omega)), (he _ (by omega) (by omega)).trans h10, h11.off (fun z a b => he z (by omega) (by omega))⟩
theorem iM0_rg (k : Nat) : rg (iM0 k) := by
  unfold iM0
  repeat' split
  all_goals exact ⟨by decide, by decide⟩
theorem psum_zero (n : Nat) (f : Nat → Nat) (h : ∀ i, f i = 0) : psum f n = 0 := by
  induction n with
  | zero => rfl
  | succ n ih => show psum f n + f n = 0; rw [ih, h]
section LSTART
variable {G : GT} {b Ln : Nat} {xs : Nat → Int32}
theorem l_rel {σ : HS} {q : Nat} (hq : q = gB G) (hN : gN G = gB G + 601024) (hU : gU G = 7293034) (hQ : QuietC G σ q) (hR : RefC G σ (q + 254)) (ho : σ (q + 254 + 15) = some (.inl (gK G 1, 1, .inr (.inl (fun _ => 0))))) : ∃ a : PT, RelL G (q + 254) (σ, q + 270, 146134) (a, (iM0, (fun _ _ => 0), 0), 0) ∧ RepP q (q + 3266) 752547 a sy0 := by
  have h0 : RQ G (FL G (q + 254) (iM0, (fun _ _ => 0), 0) 0) σ (q + 270) 146134 q (q + 254) (fun _ => 0) (fun _ _ => 0) (fun _ => []) (fun _ _ => none) (fun _ => 0) (q + 270) 146134 := by
    refine ⟨fun _ => 0, fun _ => 0, ⟨fun x e he => absurd rfl (cP_T he), fun x e he => ⟨?_, rfl⟩, fun x hx => absurd (show 100 ≤ 0 from hx) (by decide), fun x y hx => absurd (show 100 ≤ 0 from hx) (by decide), fun x k => (show rg 0 from ⟨by decide, by decide⟩), ?_, ?_, by omega, by omega⟩, fun w hw1 hw2 => ⟨rfl, FL_n (by omega), fun r hr => absurd (show 100 ≤ 0 from hr) (by decide)⟩⟩
    · have hd9 := FL_dom he
      by_cases h1 : x = q + 254
      · subst h1; rw [FL_0] at he; rw [hR.1]; exact he
      · by_cases h2 : x = q + 254 + 15
        · subst h2
          rw [FL_o] at he
          rw [ho, ← he]
          congr 6
          exact (up_self rfl).symm
        · obtain ⟨j, rfl⟩ := Nat.exists_eq_add_of_le hd9.1
          rw [FL_r (j := j) (by omega)] at he
          rw [hR.2 j (by omega) (by omega)]
          exact he
    · have e9 : psum (potC (fun _ => 0) (fun _ => 0)) (q + 270) = 0 := psum_zero _ _ (fun i => rfl)
      rw [e9]; exact Nat.le_refl _
    · have e9 : psum (potU (fun _ => 0) (fun _ => 0)) (q + 270) = 0 := psum_zero _ _ (fun i => rfl)
      rw [e9]; exact Nat.le_refl _
  obtain ⟨T', N', R', P', S', h1, -, -, -, -, -, h2⟩ := h0.quiet (Nat.le_refl _) (by omega) hQ (by omega) (by omega)
  obtain ⟨cp, cq, h3, -⟩ := h1
  exact ⟨(T', N', R', P', S', q + 270 + 396, 146134 + 121136), ⟨⟨cp, cq, h3⟩, iM0_rg, fun _ _ => (show rg 0 from ⟨by decide, by decide⟩)⟩, h2 _ _ _ _ (by omega) (by omega)⟩
theorem l_start {σ0 : HS} (hS : ScrG G b Ln xs) (hLn : Ln ≤ 3072) (hl : (gL G).stackTraces = false) (hN : gN G = gB G + 601024) (hU : gU G = 7293034) : V G (A1 G) yL_law cL_law 7 (some .boolean) 12 (σ0, gB G, 0) 0 [some (.ref b), none, none, none, none, none, none] [] (fun v _ => v = some (vb true)) := by
  generalize hq : gB G = q
  have hq : q = gB G := hq.symm
  refine h_newG (ci := 11) (Cn := RX11) (T := TX11) (N := 13) (fs := dfX11) tyX11 3 dL_law_0 rfl rfl lay_X11 tyX11_ok cl_L_8 ib_X11 it_X11 dfX11_ok (by omega) (by omega) (fun σ1 a1 b1 => ?_)
  refine s_dup (q := 4) (hd := dL_law_3) (hq := rfl) (k := ?_)
  refine s_I0 7 dL_law_4 rfl km_X11_init ml_L_15 ds_X11_init (Nat.le_of_ble_eq_true rfl) (k_Quiet a1 (by omega) (by omega) (fun σ2 a2 hQ => ?_))
  refine ⟨rfl, ?_⟩
  refine s_astore_n 8 dL_law_7 rfl (Nat.le_of_ble_eq_true rfl) rfl ?_
  refine h_newG (ci := 12) (Cn := RX12) (T := TX12) (N := 44) (fs := dfX12) tyX12 11 dL_law_8 rfl rfl lay_X12 tyX12_ok cl_L_16 ib_X12 it_X12 dfX12_ok (by omega) (by omega) (fun σ3 a3 b3 => ?_)
  refine s_dup (q := 12) (hd := dL_law_11) (hq := rfl) (k := ?_)
  refine s_I0 15 dL_law_12 rfl km_X12_init ml_L_18 ds_X12_init (Nat.le_of_ble_eq_true rfl) (k_Ref a3 (by omega) (by omega) (fun σ4 a4 hR => ?_))
  refine ⟨rfl, ?_⟩
  refine s_astore_n 16 dL_law_15 rfl (Nat.le_of_ble_eq_true rfl) rfl ?_
  refine s_iconst 17 dL_law_16 rfl ?_
  refine h_newl (N := 1) 19 dL_law_17 rfl rfl (by decide) (by omega) (by omega) ?_
  refine s_astore_n 20 dL_law_19 rfl (Nat.le_of_ble_eq_true rfl) rfl ?_
  refine s_iconst 21 dL_law_20 rfl ?_
  refine s_istore 23 dL_law_21 rfl (Nat.le_of_ble_eq_true rfl) rfl ?_
  have hQ5 : QuietC G (up σ4 (q + 254 + 15) (some (.inl (gK G 1, 1, .inr (.inl (fun _ => 0)))))) q := hQ.off (fun z c1 c2 => by rw [up_n (by omega), a4 z (by omega), b3 z (by omega)])
  have hR5 : RefC G (up σ4 (q + 254 + 15) (some (.inl (gK G 1, 1, .inr (.inl (fun _ => 0)))))) (q + 254) := ⟨by rw [up_n (by omega)]; exact hR.1, fun j c1 c2 => by rw [up_n (by omega)]; exact hR.2 j c1 c2⟩
  obtain ⟨a, hRel, hP⟩ := l_rel hq hN hU hQ5 hR5 (up_s _ _ _)
  have hG : LawG G b Ln xs (q + 3266) 752547 := ⟨hS, hLn, by omega, by omega, hl⟩
  refine V_post (post2 := fun v a' => ∃ b' : LT, (∀ H, A1 G a' H → AL G (q + 254) b' H) ∧ v = some (vb true)) ?_ (fun v b' h => h.choose_spec.2)
  refine V_drop (post2 := fun v (_ : LT) => v = some (vb true)) AL_iff hRel ?_
  exact l_loop (f := 512) (k := 0) hG (fun _ => rfl) (by omega) a (iM0, (fun _ _ => 0), 0) 0 sy0 none none (by decide) ⟨hP, RefC.rep (x := 0), sy0_wf⟩
end LSTART
