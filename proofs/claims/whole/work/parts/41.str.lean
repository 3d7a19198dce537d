/-! ===== written texts: length, charAt ===== -/
def txt (tx : String) : List Int := tx.toList.map (fun c => (c.toNat : Int))
section STR
variable {α : Type} {G : GT} {Abs : α → Heap → Prop} {y : MethodName} {cc : ByteArray} {nL : Nat} {rt : Option FieldType} {d : Nat} {a : α} {pc : Nat} {L : List (Option Value)} {st : List Value} {post : Option Value → α → Prop} {y2 : MethodName} {cc2 : ByteArray} {nL2 : Nat} {rt2 : Option FieldType} {r : String × Nat × String}
theorem s_ldcS {i : Nat} (q j : Nat) (hd : decode cc pc = .ok (.ldc i, 2)) (hq : pc + 2 = q) (hj : gSt[j]? = some r) (h1 : r.1 = y.cls) (h2 : r.2.1 = i) (k : V G Abs y cc nL rt d a q L (.ref (gAK G j) :: st) post) : V G Abs y cc nL rt d a pc L st post := by
  subst hq
  subst h2
  intro n u p e s m args below meth c H locs ls C hB hn hg hA hl hL
  refine va_ldcS C.1.1 C.1.2.1 C.1.2.2.2.1 (tx := r.2.2) ?_ hd (k n u p e s m args below meth c H locs ls C hB hn hg hA hl hL)
  rw [← h1]
  exact (C.2.2.2.2.1.2.2.2.2 j _ hj).1
theorem s_sval {i : Nat} (q j : Nat) (hd : decode cc pc = .ok (.getfield i, 3)) (hq : pc + 3 = q) (hj : gSt[j]? = some r) (hw : Cond.fieldLink y.cls i "java/lang/String" "value" "[B" ∈ gTB) (k : V G Abs y cc nL rt d a q L (.ref (gAV G j) :: st) post) : V G Abs y cc nL rt d a pc L (.ref (gAK G j) :: st) post := by
  subst hq
  intro n u p e s m args below meth c H locs ls C hB hn hg hA hl hL
  obtain ⟨cf, k', fi, f, cell, h1, h2, h3, h4, h5, h6⟩ := va_OF.kept (H1 := H) (C.2.2.2.2.1.2.2.2.2 j _ hj).2.2.2.1 (fun a _ hq => hB.2.2.2 a (by omega))
  exact W.getf C.1.1 C.1.2.1 C.1.2.2.2.1 (C.1.2.2.2.2 _ hw) h1 h2 h3 h4 (v := .ref (gAV G j)) h5 rfl rfl hd (k n u p e s m args below meth c H locs ls C hB hn hg hA hl hL)
theorem s_scod {i : Nat} (q j : Nat) (hd : decode cc pc = .ok (.getfield i, 3)) (hq : pc + 3 = q) (hj : gSt[j]? = some r) (hw : Cond.fieldLink y.cls i "java/lang/String" "coder" "B" ∈ gTB) (k : V G Abs y cc nL rt d a q L (vi 0 :: st) post) : V G Abs y cc nL rt d a pc L (.ref (gAK G j) :: st) post := by
  subst hq
  intro n u p e s m args below meth c H locs ls C hB hn hg hA hl hL
  obtain ⟨cf, k', fi, f, cell, h1, h2, h3, h4, h5, h6⟩ := va_OF.kept (H1 := H) (C.2.2.2.2.1.2.2.2.2 j _ hj).2.2.1 (fun a _ hq => hB.2.2.2 a (by omega))
  exact W.getf C.1.1 C.1.2.1 C.1.2.2.2.1 (C.1.2.2.2.2 _ hw) h1 h2 h3 h4 (v := .int 0) h5 rfl rfl hd (k n u p e s m args below meth c H locs ls C hB hn hg hA hl hL)
theorem s_compact {i : Nat} (q : Nat) (hd : decode cc pc = .ok (.getstatic i, 3)) (hq : pc + 3 = q) (hw : Cond.fieldLink y.cls i "java/lang/String" "COMPACT_STRINGS" "Z" ∈ gTB) (k : V G Abs y cc nL rt d a q L (vb true :: st) post) : V G Abs y cc nL rt d a pc L st post := by
  subst hq
  intro n u p e s m args below meth c H locs ls C hB hn hg hA hl hL
  obtain ⟨cf, kf, fi, f, a', cell, h1, h2, h3, h4, h5, h6, h7, h8⟩ := va_Z.kept (H1 := H) C.2.2.2.2.1.2.2.2.1.1.1 (fun a _ hq => hB.2.2.2 a (by omega))
  exact W.gets C.1.1 C.1.2.1 C.1.2.2.2.1 (C.1.2.2.2.2 _ hw) h1 h2 h3 h4 h5 (fun e => by rw [e] at h6; cases h6) h7 rfl hd (k n u p e s m args below meth c H locs ls C hB hn hg hA hl hL)
theorem s_sioobe {i : Nat} (q : Nat) (hd : decode cc pc = .ok (.getstatic i, 3)) (hq : pc + 3 = q) (hw : Cond.fieldLink y.cls i "jdk/internal/util/Preconditions" "SIOOBE_FORMATTER" "Ljava/util/function/BiFunction;" ∈ gTB) (k : ∀ v : Value, v.category = 1 → V G Abs y cc nL rt d a q L (v :: st) post) : V G Abs y cc nL rt d a pc L st post := by
  subst hq
  intro n u p e s m args below meth c H locs ls C hB hn hg hA hl hL
  rcases va_Zq.kept (H1 := H) C.2.2.2.2.1.2.2.2.1.1.2 (fun a _ hq => hB.2.2.2 a (by omega)) with ⟨cf, kf, fi, f, a', cell, h1, h2, h3, h4, h5, h6, h7, h8⟩ | ⟨t, cf, kf, fi, f, a', cell, h1, h2, h3, h4, h5, h6, h7, h8⟩
  · exact W.gets C.1.1 C.1.2.1 C.1.2.2.2.1 (C.1.2.2.2.2 _ hw) h1 h2 h3 h4 h5 (fun e => by rw [e] at h6; cases h6) h7 rfl hd (k .null rfl n u p e s m args below meth c H locs ls C hB hn hg hA hl hL)
  · exact W.gets C.1.1 C.1.2.1 C.1.2.2.2.1 (C.1.2.2.2.2 _ hw) h1 h2 h3 h4 h5 (fun e => by rw [e] at h6; cases h6) h7 rfl hd (k (.ref t) rfl n u p e s m args below meth c H locs ls C hB hn hg hA hl hL)
theorem s_slen (q j : Nat) (hd : decode cc pc = .ok (.arraylength, 1)) (hq : pc + 1 = q) (hj : gSt[j]? = some r) (k : V G Abs y cc nL rt d a q L (vi r.2.2.length :: st) post) : V G Abs y cc nL rt d a pc L (.ref (gAV G j) :: st) post := by
  subst hq
  intro n u p e s m args below meth c H locs ls C hB hn hg hA hl hL
  obtain ⟨cell, h1, h2, h3, h4, h5, h6, h7⟩ := va_T.kept (H1 := H) (C.2.2.2.2.1.2.2.2.2 j _ hj).2.2.2.2 (fun a _ hq => hB.2.2.2 a (by omega))
  exact W.alen (n := Int32.ofInt (r.2.2.length : Int)) C.1.1 C.1.2.1 h1 h2 (by rw [h5]; exact Int32.ofInt_eq_ofNat.symm) rfl rfl hd (k n u p e s m args below meth c H locs ls C hB hn hg hA hl hL)
theorem txt_at {tx : String} {k : Nat} (h : k < tx.length) : (txt tx).getD k 0 = ((tx.toList.getD k ' ').toNat : Int) := by
  unfold txt
  rw [List.getD_eq_getElem?_getD, List.getD_eq_getElem?_getD, List.getElem?_map, List.getElem?_eq_getElem (show k < tx.toList.length from h)]
  rfl
theorem s_sbald {z : Nat} (q j : Nat) (hd : decode cc pc = .ok (.baload, 1)) (hq : pc + 1 = q) (hj : gSt[j]? = some r) (hz : z < r.2.2.length) (hl1 : r.2.2.length < 100) (k : V G Abs y cc nL rt d a q L (vi ((txt r.2.2).getD z 0) :: st) post) : V G Abs y cc nL rt d a pc L (vi z :: .ref (gAV G j) :: st) post := by
  subst hq
  intro n u p e s m args below meth c H locs ls C hB hn hg hA hl hL
  obtain ⟨cell, h1, h2, h3, h4, h5, h6, h7⟩ := va_T.kept (H1 := H) (C.2.2.2.2.1.2.2.2.2 j _ hj).2.2.2.2 (fun a _ hq => hB.2.2.2 a (by omega))
  obtain ⟨e1, e2⟩ := ix_nat (z := (z : Int)) (N := r.2.2.length) ⟨by omega, by omega⟩ (by omega)
  have e2 : (Int32.ofInt (z : Int)).toNatClampNeg = z := by simpa using e2
  rw [txt_at hz] at k
  refine W.bald (v := vi ((r.2.2.toList.getD z ' ').toNat : Int)) C.1.1 C.1.2.1 h1 h2 h3 ?_ ?_ rfl rfl hd (k n u p e s m args below meth c H locs ls C hB hn hg hA hl hL)
  · rintro (h | h)
    · exact e1 (Or.inl h)
    · rw [e2] at h; omega
  · rw [e2, h6 z hz]
    show some (Value.int (Int32.ofNat _)) = some (Value.int (Int32.ofInt _))
    rw [Int32.ofInt_eq_ofNat]
theorem s_i2c {z : Int} (q : Nat) (hd : decode cc pc = .ok (.i2c, 1)) (hq : pc + 1 = q) (hz : 0 ≤ z ∧ z < 65536) (k : V G Abs y cc nL rt d a q L (vi z :: st) post) : V G Abs y cc nL rt d a pc L (vi z :: st) post := by
  subst hq
  intro n u p e s m args below meth c H locs ls C hB hn hg hA hl hL
  refine lv_i2c C.1.1 C.1.2.1 (v := Int32.ofInt z) hd ?_ (k n u p e s m args below meth c H locs ls C hB hn hg hA hl hL)
  obtain ⟨m, rfl⟩ := Int.eq_ofNat_of_zero_le hz.1
  rw [oI_nI]
  apply Int32.toBitVec_inj.mp
  apply BitVec.eq_of_toNat_eq
  show (UInt32.toNat _) = _
  simp [nI, Int32.toUInt32, UInt32.toNat_mod]
  omega
theorem s_nreturn {z : Int} (ty : FieldType) (hrt : rt = some ty) (hn1 : narrow ty (vi z) = vi z) (hty : ty = .char ∨ ty = .byte) (hd : decode cc pc = .ok (.ireturn, 1)) (h : post (some (vi z)) a) : V G Abs y cc nL rt d a pc L ([vi z]) post := by
  intro n u p e s m args below meth c H locs ls C hB hn hg hA hl hL
  refine W.widen (k := gN G - n) (n := gU G - u) (by have := hB.2.1; omega) (by have := hB.2.2.1; omega) ?_
  rcases hty with rfl | rfl
  · exact W.zret (ty := .char) C.1.1 C.1.2.1 (by rw [← hrt]; exact C.2.1) hn1 (fun t ht _ => ⟨_, a, rfl, h, by rw [ht]; exact hB, by rw [ht]; exact hA⟩) hl hd (hlocks := C.2.2.1)
  · exact W.zret (ty := .byte) C.1.1 C.1.2.1 (by rw [← hrt]; exact C.2.1) hn1 (fun t ht _ => ⟨_, a, rfl, h, by rw [ht]; exact hB, by rw [ht]; exact hA⟩) hl hd (hlocks := C.2.2.1)
theorem s_callVS {K : Option Value → α → Prop} {i : Nat} (As : List Value) {rest : List Value} (q j : Nat) (hd : decode cc pc = .ok (.invokevirtual i, 3)) (hq : pc + 3 = q) (hj : gSt[j]? = some r) (hy2 : y2.cls = "java/lang/String") (hm : gMV y2 cc2 nL2 rt2) (hw : Cond.methodLink y.cls i y2 ∈ gTB) (hds : (parseMethodDescriptor y2.desc).map (fun d => d.parameters.length) = some As.length) (hrest : (rest.map fun v => v.category).sum ≤ 8)
    (h : Cm G Abs y2 cc2 nL2 rt2 d (.ref (gAK G j) :: As) a K) (k : ∀ v a', K v a' → V G Abs y cc nL rt (d + 1) a' q L (v.toList ++ rest) post) : V G Abs y cc nL rt (d + 1) a pc L (As.reverse ++ .ref (gAK G j) :: rest) post := by
  subst hq
  intro n u p e s m args below meth c H locs ls C hB hn hg hA hl hL
  have hM := h H.size (gs H (gB G))
  have cw := cwV (R := gR G (d + 1) n u) (rm := gR G d H.size (gs H (gB G))) (own := y.cls) (index := i) (C := y2.cls) (ws := Cond.code y2 cc2 nL2 rt2 :: gTB) As.length C.1.2.2.2.2 (goodTB (by
    intro w hw1
    simp only [wsV, List.cons_append, List.nil_append, List.mem_cons] at hw1
    rcases hw1 with rfl | rfl | rfl | rfl | rfl | hw1
    · exact hw
    · exact hm.2.1
    · exact hm.2.2.1
    · exact hm.2.2.2.1
    · exact hm.1
    · exact hw1)) rfl rfl rfl ⟨rfl, hm.2.2.2.2.1.1, hm.2.2.2.2.1.2, hds⟩ (gR_fit hm.2.2.2.2.2 _ _)
  obtain ⟨cell, q1, q2, q3, -⟩ := va_O.kept (H1 := H) (C.2.2.2.2.1.2.2.2.2 j _ hj).2.1 (fun a _ hq => hB.2.2.2 a (by omega))
  exact call_back C hl hL (va_runV (g := F0 m pc ls (As.reverse ++ .ref (gAK G j) :: rest)) C.1 hM cw ⟨gPc_blind G Abs _ _ _ a, ⟨cell, q1, q2, by rw [hy2]; exact q3⟩, gPre C hB hA (.ref (gAK G j) :: As)⟩ rfl rfl hL.1 rfl (lv_room hrest) hd (gR_pay (d := d) hB hn hg)) k
theorem s_callSO {K : Option Value → α → Prop} {i : Nat} (As : List Value) {rest : List Value} (q : Nat) (hd : decode cc pc = .ok (.invokestatic i, 3)) (hq : pc + 3 = q) (hm : gMS y2 cc2 nL2 rt2) (hw : Cond.methodLink y.cls i y2 ∈ gTB) (hds : (parseMethodDescriptor y2.desc).map (fun d => d.parameters.length) = some As.length) (hrest : (rest.map fun v => v.category).sum ≤ 8)
    (h : Cm G Abs y2 cc2 nL2 rt2 d As a K) (k : ∀ v a', K v a' → V G Abs y cc nL rt (d + 1) a' q L (v.toList ++ rest) post) : V G Abs y cc nL rt (d + 1) a pc L (As.reverse ++ rest) post := by
  subst hq
  intro n u p e s m args below meth c H locs ls C hB hn hg hA hl hL
  have hM := h H.size (gs H (gB G))
  have cw := va_cwS (R := gR G (d + 1) n u) (rm := gR G d H.size (gs H (gB G))) (own := y.cls) (index := i) (ws := Cond.code y2 cc2 nL2 rt2 :: gTB) As.length C.1.2.2.2.2 (goodTB (by
    intro w hw1
    simp only [va_wsS, List.cons_append, List.nil_append, List.mem_cons] at hw1
    rcases hw1 with rfl | rfl | rfl | rfl | hw1
    · exact hw
    · exact hm.2.1
    · exact hm.2.2.1
    · exact hm.1
    · exact hw1)) rfl rfl rfl ⟨hm.2.2.2.1.1, hm.2.2.2.1.2, hds⟩ (gR_fit hm.2.2.2.2 _ _)
  exact call_back C hl hL (va_runS (g := F0 m pc ls (As.reverse ++ rest)) C.1 hM cw ⟨gPc_blind G Abs _ _ _ a, gPre C hB hA As⟩ rfl rfl hL.1 rfl (lv_room hrest) hd (gR_pay (d := d) hB hn hg)) k
end STR
section STRM
variable {α : Type} {G : GT} {Abs : α → Heap → Prop} {d : Nat} {a : α} {post : Option Value → α → Prop} {r : String × Nat × String} {j : Nat}
theorem c_coder (hj : gSt[j]? = some r) (hp : post (some (vi 0)) a) : Cm G Abs yJ0_coder_7d493 cJ0_coder_7d493 1 (some .byte) d [.ref (gAK G j)] a post := by
  refine Cm_intro (L := [some (.ref (gAK G j))]) (by decide +kernel) (Nat.le_of_ble_eq_true rfl) rfl ?_
  refine s_compact 3 dJ0_coder_7d493_0 rfl fl_J0_38 ?_
  refine s_if_eqb 6 13 dJ0_coder_7d493_3 rfl rfl (fun h => absurd h (by decide)) (fun _ => ?_)
  refine s_aload_n 7 dJ0_coder_7d493_6 rfl rfl ?_
  refine s_scod 10 j dJ0_coder_7d493_7 rfl hj fl_J0_15 ?_
  refine s_goto 14 dJ0_coder_7d493_10 rfl ?_
  exact s_nreturn .byte rfl rfl (Or.inr rfl) dJ0_coder_7d493_14 hp
theorem c_isLatin1 (hj : gSt[j]? = some r) (hp : post (some (vb true)) a) : Cm G Abs yJ0_isLatin1_aae02 cJ0_isLatin1_aae02 1 (some .boolean) d [.ref (gAK G j)] a post := by
  refine Cm_intro (L := [some (.ref (gAK G j))]) (by decide +kernel) (Nat.le_of_ble_eq_true rfl) rfl ?_
  refine s_compact 3 dJ0_isLatin1_aae02_0 rfl fl_J0_38 ?_
  refine s_if_eqb 6 17 dJ0_isLatin1_aae02_3 rfl rfl (fun h => absurd h (by decide)) (fun _ => ?_)
  refine s_aload_n 7 dJ0_isLatin1_aae02_6 rfl rfl ?_
  refine s_scod 10 j dJ0_isLatin1_aae02_7 rfl hj fl_J0_15 ?_
  refine s_if_ne 13 17 dJ0_isLatin1_aae02_10 rfl rfl (fun h => absurd rfl h) (fun _ => ?_)
  refine s_iconst 14 dJ0_isLatin1_aae02_13 rfl ?_
  refine s_goto 18 dJ0_isLatin1_aae02_14 rfl ?_
  exact s_zreturn1 rfl dJ0_isLatin1_aae02_18 hp
theorem c_slength (hj : gSt[j]? = some r) (hl : r.2.2.length < 100) (hp : post (some (vi r.2.2.length)) a) : Cm G Abs yJ0_length_8abf5 cJ0_length_8abf5 1 (some .int) (d + 1) [.ref (gAK G j)] a post := by
  refine Cm_intro (L := [some (.ref (gAK G j))]) (by decide +kernel) (Nat.le_of_ble_eq_true rfl) rfl ?_
  refine s_aload_n 1 dJ0_length_8abf5_0 rfl rfl ?_
  refine s_sval 4 j dJ0_length_8abf5_1 rfl hj fl_J0_9 ?_
  refine s_slen 5 j dJ0_length_8abf5_4 rfl hj ?_
  refine s_aload_n 6 dJ0_length_8abf5_5 rfl rfl ?_
  refine s_callVS (K := fun v a' => v = some (vi 0) ∧ a' = a) [] 9 j dJ0_length_8abf5_6 rfl hj rfl km_J0_coder_7d493 ml_J0_335 (by decide +kernel) (Nat.le_of_ble_eq_true rfl) (c_coder hj ⟨rfl, rfl⟩) ?_
  rintro v a' ⟨rfl, rfl⟩
  refine s_ishr 10 r.2.2.length dJ0_length_8abf5_9 rfl ?_ ?_
  · have := shr_k (x := (r.2.2.length : Int)) (by omega) 0 (by decide)
    simpa using this
  · exact s_ireturn rfl dJ0_length_8abf5_10 hp
theorem c_check3 {k m : Nat} {v : Value} (hk : k < m) (hm : m < 100) (hv : v.category = 1) (hp : post (some (vi k)) a) : Cm G Abs yJ3_checkIndex_8e157 cJ3_checkIndex_8e157 3 (some .int) d [vi k, vi m, v] a post := by
  refine Cm_intro (L := [some (vi k), some (vi m), some v]) (by decide +kernel) ?_ ?_ ?_
  · cases v <;> first | exact Nat.le_of_ble_eq_true rfl | exact absurd hv (by show ¬ (2 = 1); decide)
  · cases v <;> first | rfl | exact absurd hv (by show ¬ (2 = 1); decide)
  refine s_iload_n 1 dJ3_checkIndex_8e157_0 rfl rfl ?_
  refine s_if_lt 4 9 dJ3_checkIndex_8e157_1 rfl rfl (fun h => by omega) (fun _ => ?_)
  refine s_iload_n 5 dJ3_checkIndex_8e157_4 rfl rfl ?_
  refine s_iload_n 6 dJ3_checkIndex_8e157_5 rfl rfl ?_
  refine s_icmp_lt 9 16 dJ3_checkIndex_8e157_6 rfl rfl (fun _ => ?_) (fun h => by omega)
  refine s_iload_n 17 dJ3_checkIndex_8e157_16 rfl rfl ?_
  exact s_ireturn rfl dJ3_checkIndex_8e157_17 hp
theorem c_check2 {k m : Nat} (hk : k < m) (hm : m < 100) (hp : post none a) : Cm G Abs yJ0_checkIndex_df160 cJ0_checkIndex_df160 2 none (d + 1) [vi k, vi m] a post := by
  refine Cm_intro (L := [some (vi k), some (vi m)]) (by decide +kernel) (Nat.le_of_ble_eq_true rfl) rfl ?_
  refine s_iload_n 1 dJ0_checkIndex_df160_0 rfl rfl ?_
  refine s_iload_n 2 dJ0_checkIndex_df160_1 rfl rfl ?_
  refine s_sioobe 5 dJ0_checkIndex_df160_2 rfl fl_J0_1053 (fun v hv => ?_)
  refine s_callSO (K := fun w a' => w = some (vi k) ∧ a' = a) [vi k, vi m, v] 8 dJ0_checkIndex_df160_5 rfl km_J3_checkIndex_8e157 ml_J0_1059 ds_J3_checkIndex_8e157 (Nat.le_of_ble_eq_true rfl) (c_check3 hk hm hv ⟨rfl, rfl⟩) ?_
  rintro w a' ⟨rfl, rfl⟩
  refine s_pop (v := vi k) rfl 9 dJ0_checkIndex_df160_8 rfl ?_
  exact s_return rfl dJ0_checkIndex_df160_9 hp
theorem c_lat1 {k : Nat} (hj : gSt[j]? = some r) (hl : r.2.2.length < 100) (hk : k < r.2.2.length) (hc : 0 ≤ (txt r.2.2).getD k 0 ∧ (txt r.2.2).getD k 0 < 128) (hp : post (some (vi ((txt r.2.2).getD k 0))) a) : Cm G Abs yJ1_charAt_3b067 cJ1_charAt_3b067 2 (some .char) (d + 2) [.ref (gAV G j), vi k] a post := by
  refine Cm_intro (L := [some (.ref (gAV G j)), some (vi k)]) (by decide +kernel) (Nat.le_of_ble_eq_true rfl) rfl ?_
  refine s_iload_n 1 dJ1_charAt_3b067_0 rfl rfl ?_
  refine s_aload_n 2 dJ1_charAt_3b067_1 rfl rfl ?_
  refine s_slen 3 j dJ1_charAt_3b067_2 rfl hj ?_
  refine s_callSO (K := fun w a' => w = none ∧ a' = a) [vi k, vi r.2.2.length] 6 dJ1_charAt_3b067_3 rfl km_J0_checkIndex_df160 ml_J1_9 ds_J0_checkIndex_df160 (Nat.le_of_ble_eq_true rfl) (c_check2 hk hl ⟨rfl, rfl⟩) ?_
  rintro w a' ⟨rfl, rfl⟩
  refine s_aload_n 7 dJ1_charAt_3b067_6 rfl rfl ?_
  refine s_iload_n 8 dJ1_charAt_3b067_7 rfl rfl ?_
  refine s_sbald 9 j dJ1_charAt_3b067_8 rfl hj hk hl ?_
  refine s_sipush 12 dJ1_charAt_3b067_9 rfl (by decide) ?_
  refine s_iand 13 ((txt r.2.2).getD k 0) dJ1_charAt_3b067_12 rfl ?_ ?_
  · rw [and_255]
    congr 1
    omega
  refine s_i2c 14 dJ1_charAt_3b067_13 rfl (by omega) ?_
  refine s_nreturn .char rfl ?_ (Or.inl rfl) dJ1_charAt_3b067_14 hp
  obtain ⟨c, hc1, hc2⟩ : ∃ c : Nat, c < 128 ∧ (txt r.2.2).getD k 0 = c := ⟨((txt r.2.2).getD k 0).toNat, by omega, by omega⟩
  rw [hc2]
  exact (show ∀ c : Nat, c < 128 → narrow .char (vi c) = vi c by decide +kernel) c hc1
theorem c_scharAt {k : Nat} (hj : gSt[j]? = some r) (hl : r.2.2.length < 100) (hk : k < r.2.2.length) (hc : 0 ≤ (txt r.2.2).getD k 0 ∧ (txt r.2.2).getD k 0 < 128) (hp : post (some (vi ((txt r.2.2).getD k 0))) a) : Cm G Abs yJ0_charAt_5068e cJ0_charAt_5068e 2 (some .char) (d + 3) [.ref (gAK G j), vi k] a post := by
  refine Cm_intro (L := [some (.ref (gAK G j)), some (vi k)]) (by decide +kernel) (Nat.le_of_ble_eq_true rfl) rfl ?_
  refine s_aload_n 1 dJ0_charAt_5068e_0 rfl rfl ?_
  refine s_callVS (K := fun v a' => v = some (vb true) ∧ a' = a) [] 4 j dJ0_charAt_5068e_1 rfl hj rfl km_J0_isLatin1_aae02 ml_J0_492 (by decide +kernel) (Nat.le_of_ble_eq_true rfl) (c_isLatin1 hj ⟨rfl, rfl⟩) ?_
  rintro v a' ⟨rfl, rfl⟩
  refine s_if_eqb 7 16 dJ0_charAt_5068e_4 rfl rfl (fun h => absurd h (by decide)) (fun _ => ?_)
  refine s_aload_n 8 dJ0_charAt_5068e_7 rfl rfl ?_
  refine s_sval 11 j dJ0_charAt_5068e_8 rfl hj fl_J0_9 ?_
  refine s_iload_n 12 dJ0_charAt_5068e_11 rfl rfl ?_
  refine s_callSO (K := fun w b => w = some (vi ((txt r.2.2).getD k 0)) ∧ b = a') [.ref (gAV G j), vi k] 15 dJ0_charAt_5068e_12 rfl km_J1_charAt_3b067 ml_J0_495 ds_J1_charAt_3b067 (Nat.le_of_ble_eq_true rfl) (c_lat1 hj hl hk hc ⟨rfl, rfl⟩) ?_
  rintro w b ⟨rfl, rfl⟩
  refine s_nreturn .char rfl ?_ (Or.inl rfl) dJ0_charAt_5068e_15 hp
  obtain ⟨c, hc1, hc2⟩ : ∃ c : Nat, c < 128 ∧ (txt r.2.2).getD k 0 = c := ⟨((txt r.2.2).getD k 0).toNat, by omega, by omega⟩
  rw [hc2]
  exact (show ∀ c : Nat, c < 128 → narrow .char (vi c) = vi c by decide +kernel) c hc1
end STRM
/-- all written texts are short, of small letters (and a blank) -/
theorem gSt_ok : ∀ (j : Nat) (r : String × Nat × String), gSt[j]? = some r → r.2.2.length < 100 ∧ ∀ k, k < r.2.2.length → 0 ≤ (txt r.2.2).getD k 0 ∧ (txt r.2.2).getD k 0 < 128 := by
  have h : ∀ r ∈ gSt, r.2.2.length < 100 ∧ ∀ k, k < r.2.2.length → 0 ≤ (txt r.2.2).getD k 0 ∧ (txt r.2.2).getD k 0 < 128 := by decide +kernel
  exact fun j r hj => h r (List.mem_of_getElem? hj)
