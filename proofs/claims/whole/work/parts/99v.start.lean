/-! ===== what holds at the law's entry: classes, rows, texts, statics ===== -/
def stF (own : String) (k : Nat) : Term := .field (.string own k) "java/lang/String" "value" "[B"
def stW (r : String × Nat × String) : List Cond := .exactly (.string r.1 r.2.1) "java/lang/String" :: .eq (.field (.string r.1 r.2.1) "java/lang/String" "coder" "B") (.int 0) :: .arrayOf (stF r.1 r.2.1) .byte :: .eq (.length (stF r.1 r.2.1)) (.int (Int32.ofNat r.2.2.length)) :: (List.range r.2.2.length).map (fun j => .eq (.elem (stF r.1 r.2.1) (.int (Int32.ofNat j))) (.int (Int32.ofNat (r.2.2.toList.getD j ' ').toNat)))
set_option maxRecDepth 100000 in
theorem st_all : gSt.flatMap stW = ([54, 55, 56, 57, 58, 59, 60, 61, 62, 63, 64, 65, 66, 67, 68, 69, 70, 71, 73, 74, 75, 76, 77, 78, 79, 80, 81, 84, 85, 86, 87, 88, 89, 90, 91, 92, 96, 97, 98, 99, 100, 101, 102, 103, 108, 109, 110, 111, 112, 113, 114, 115, 116, 117, 118, 124, 125, 126, 127, 128, 129, 130, 131, 132, 139, 140, 141, 142, 143, 144, 145, 146, 147, 148, 149, 157, 158, 159, 160, 161, 162, 163, 164, 173, 174, 175, 176, 177, 178, 179, 189, 190, 191, 192, 193, 194, 195, 206, 207, 208, 209, 210, 211, 212, 213, 214, 215, 216, 217, 218, 219, 220, 221, 222, 223, 224, 236, 237, 238, 239, 240, 241, 242, 243, 244, 245, 246, 247, 248, 249, 250, 251, 264, 265, 266, 267, 268, 269, 270, 284, 285, 286, 287, 288, 289, 290, 291, 292, 307, 308, 309, 310, 311, 312, 313, 314, 315, 331, 332, 333, 334, 335, 336, 337, 338, 339, 340, 341, 358, 359, 360, 361, 362, 363, 364, 365, 366, 367, 368, 386, 387, 388, 389, 390, 391, 392, 393, 394, 413, 414, 415, 416, 417, 418, 419, 420, 440, 441, 442, 443, 444, 445, 446, 467, 468, 469, 470, 471, 472, 473, 495, 496, 497, 498, 499, 500, 501, 502, 525, 526, 527, 528, 529, 530, 531, 532, 533, 534, 535] : List Nat).filterMap (fun i => (flatC (Jvm.Cond.and given_1 narrow_1))[i]?) := by decide +kernel
theorem st_ref : gSt.map (fun r => Cond.stringRef r.1 r.2.1 r.2.2) = ([466, 519, 520, 521, 522, 523, 532, 533, 542, 543, 544, 1052, 1078, 1265, 1276, 1277, 1278, 1287, 1292, 1293, 1294, 1295, 1296, 1297] : List Nat).filterMap (fun i => tables_1[i]?) := by decide +kernel
theorem st_nest : gNl.map (fun r => Cond.methodLinkNest r.1 r.2.1 r.2.2.1 r.2.2.2) = ([34, 65, 71, 149, 154, 187, 205, 216, 244, 250] : List Nat).filterMap (fun i => tables_1[i]?) := by decide +kernel
theorem st_short : ∀ r ∈ gSt, r.2.2.length < 100 := by decide +kernel
theorem pick_mem {big : List Cond} {ps : List Nat} {w : Cond} (h : w ∈ ps.filterMap (fun i => big[i]?)) : w ∈ big := by
  obtain ⟨i, -, hi⟩ := List.mem_filterMap.mp h
  exact List.mem_of_getElem? hi
section LENTRY
variable {s : State} {args : Array Value}
theorem e_known (hts : ∀ w ∈ gTB, w.before args s = true) : ∃ D : va_G, ∀ (c : Nat) (q : vw_C), vwCl[c]? = some q → u_Kn s q.1 q.2.1 q.2.2 (D.1 c) (D.2 c) := by
  have h : ∀ c : Nat, ∃ p : ClassId × (Nat → Nat), ∀ q : vw_C, vwCl[c]? = some q → u_Kn s q.1 q.2.1 q.2.2 p.1 p.2 := fun c => match c with
    | 0 => by
      obtain ⟨cC, iS, h⟩ := u_known (C := RX0) (T := TX0) (N := 1) (n := 1) hts lay_X0 (hts _ ib_X0)
      exact ⟨(cC, iS), fun q hq => by cases hq; exact h⟩
    | 1 => by
      obtain ⟨cC, iS, h⟩ := u_known (C := RX1) (T := TX1) (N := 6) (n := 6) hts lay_X1 (hts _ ib_X1)
      exact ⟨(cC, iS), fun q hq => by cases hq; exact h⟩
    | 2 => by
      obtain ⟨cC, iS, h⟩ := u_known (C := RX2) (T := TX2) (N := 3) (n := 3) hts lay_X2 (hts _ ib_X2)
      exact ⟨(cC, iS), fun q hq => by cases hq; exact h⟩
    | 3 => by
      obtain ⟨cC, iS, h⟩ := u_known (C := RX3) (T := TX3) (N := 3) (n := 3) hts lay_X3 (hts _ ib_X3)
      exact ⟨(cC, iS), fun q hq => by cases hq; exact h⟩
    | 4 => by
      obtain ⟨cC, iS, h⟩ := u_known (C := RX4) (T := TX4) (N := 12) (n := 12) hts lay_X4 (hts _ ib_X4)
      exact ⟨(cC, iS), fun q hq => by cases hq; exact h⟩
    | 5 => by
      obtain ⟨cC, iS, h⟩ := u_known (C := RX5) (T := TX5) (N := 3) (n := 3) hts lay_X5 (hts _ ib_X5)
      exact ⟨(cC, iS), fun q hq => by cases hq; exact h⟩
    | 6 => by
      obtain ⟨cC, iS, h⟩ := u_known (C := RX6) (T := TX6) (N := 6) (n := 6) hts lay_X6 (hts _ ib_X6)
      exact ⟨(cC, iS), fun q hq => by cases hq; exact h⟩
    | 7 => by
      obtain ⟨cC, iS, h⟩ := u_known (C := RX7) (T := TX7) (N := 8) (n := 8) hts lay_X7 (hts _ ib_X7)
      exact ⟨(cC, iS), fun q hq => by cases hq; exact h⟩
    | 8 => by
      obtain ⟨cC, iS, h⟩ := u_known (C := RX8) (T := TX8) (N := 2) (n := 2) hts lay_X8 (hts _ ib_X8)
      exact ⟨(cC, iS), fun q hq => by cases hq; exact h⟩
    | 9 => by
      obtain ⟨cC, iS, h⟩ := u_known (C := RX9) (T := TX9) (N := 6) (n := 6) hts lay_X9 (hts _ ib_X9)
      exact ⟨(cC, iS), fun q hq => by cases hq; exact h⟩
    | 10 => by
      obtain ⟨cC, iS, h⟩ := u_known (C := RX10) (T := TX10) (N := 3) (n := 3) hts lay_X10 (hts _ ib_X10)
      exact ⟨(cC, iS), fun q hq => by cases hq; exact h⟩
    | 11 => by
      obtain ⟨cC, iS, h⟩ := u_known (C := RX11) (T := TX11) (N := 13) (n := 13) hts lay_X11 (hts _ ib_X11)
      exact ⟨(cC, iS), fun q hq => by cases hq; exact h⟩
    | 12 => by
      obtain ⟨cC, iS, h⟩ := u_known (C := RX12) (T := TX12) (N := 44) (n := 44) hts lay_X12 (hts _ ib_X12)
      exact ⟨(cC, iS), fun q hq => by cases hq; exact h⟩
    | n + 13 => ⟨(0, fun _ => 0), fun q hq => by simp [vwCl] at hq⟩
  obtain ⟨f, hf⟩ := Classical.axiomOfChoice h
  exact ⟨(fun c => (f c).1, fun c => (f c).2), hf⟩
theorem e_arrI (h : (Cond.arrayClass .int).before args s = true) : ∃ c, ArrOfT s c .int ∧ va_RA s c .int := by
  obtain ⟨c, k, comp, h1, h2, h3⟩ := Cond.arrayClass_spec (args := args) (first := s) (o := none) (s := s) (idx := []) h
  exact ⟨c, fun n z => ⟨fun k9 h9 => (by cases h9), k, h2, comp, h3⟩, h1⟩
theorem e_arrL (h : (Cond.arrayClass .long).before args s = true) : ∃ c, ArrOfT s c .long ∧ va_RA s c .long := by
  obtain ⟨c, k, comp, h1, h2, h3⟩ := Cond.arrayClass_spec (args := args) (first := s) (o := none) (s := s) (idx := []) h
  exact ⟨c, fun n z => ⟨fun k9 h9 => (by cases h9), k, h2, comp, h3⟩, h1⟩
theorem e_arrO {C : String} (h : (Cond.arrayOver (.object C)).before args s = true) : ∃ c, ArrOfT s c (.object C) ∧ va_RA s c (.object C) := by
  obtain ⟨comp, c, k, h1, h2, h3, h4, h5⟩ := Cond.arrayOver_spec (args := args) (first := s) (o := none) (s := s) (idx := []) h
  exact ⟨c, fun n z => ⟨fun k9 h9 => (by cases h9), k, h3, comp, h4⟩, k, comp, h3, h4, h1, h5⟩
/-- a written text stands in the heap: its object, its bytes -/
def e_tx (A : Nat → Prop) (U : State) (r : String × Nat × String) (q : Nat × Nat) : Prop := vk_R r.1 r.2.1 r.2.2 q.1 U ∧ va_O "java/lang/String" q.1 A U U.heap ∧ va_OF "java/lang/String" "coder" "B" (.int 0) q.1 A U U.heap ∧ va_OF "java/lang/String" "value" "[B" (.ref q.2) q.1 A U U.heap ∧ va_T .byte q.2 r.2.2.length (fun j => .int (Int32.ofNat (r.2.2.toList.getD j ' ').toNat)) A U U.heap
theorem e_same {ty : FieldType} {t n : Nat} {f g : Nat → Value} {A : Nat → Prop} {U : State} {H : Heap} (h : va_T ty t n f A U H) (hg : ∀ j, j < n → f j = g j) : va_T ty t n g A U H := by
  obtain ⟨cell, a1, a2, a3, a4, a5, a6, a7⟩ := h
  exact ⟨cell, a1, a2, a3, a4, a5, fun j hj => hg j hj ▸ a6 j hj, a7⟩
/-- a property of the numbers below 1 -/
theorem e_one {Z : Nat → Prop} (h : Z 0) : ∀ i : Nat, i < 1 → Z i := fun i hi => by
  cases i with
  | zero => exact h
  | succ i => omega
def e_by (t : String) : List Int32 := (List.range t.length).map fun j => Int32.ofNat (t.toList.getD j ' ').toNat
theorem e_by_at {t : String} {j : Nat} (h : j < t.length) : (e_by t).getD j 0 = Int32.ofNat (t.toList.getD j ' ').toNat := by
  unfold e_by
  rw [List.getD_eq_getElem?_getD, List.getElem?_map, List.getElem?_range h]
  rfl
/-- one text, by the rule for rows of texts, the row being this text alone -/
theorem e_text {A : Nat → Prop} (hA : ∀ a : Nat, a < s.heap.size → ¬ A a) (r : String × Nat × String) (hl : r.2.2.length < 100) (href : (Cond.stringRef r.1 r.2.1 r.2.2).before args s = true) (h : ∀ w ∈ stW r, w.before args s = true) : ∃ q : Nat × Nat, e_tx A s r q := by
  have hw : ∀ (k : Nat) (w : Cond), (stW r)[k]? = some w → w.before args s = true := fun k w hk => h w (List.mem_of_getElem? hk)
  obtain ⟨aK, aV, hS, hv⟩ := vk_Sof (args := args) (s := s) (N := 1) (tm := fun _ => .string r.1 r.2.1) (len := [r.2.2.length]) (byt := [e_by r.2.2]) (A := A)
    (e_one (by show r.2.2.length < 2 ^ 31; omega)) (e_one (hw 0 _ rfl)) (e_one (hw 1 _ rfl)) (e_one (hw 2 _ rfl)) (e_one (hw 3 _ rfl))
    (e_one fun j hj => by
      have hj : j < r.2.2.length := hj
      show (Cond.eq _ (.int ((e_by r.2.2).getD j 0))).before args s = true
      rw [e_by_at hj]
      refine hw (j + 4) _ ?_
      show ((List.range r.2.2.length).map _)[j]? = _
      rw [List.getElem?_map, List.getElem?_range hj]
      rfl)
    (fun i j hi hj hij => absurd (by omega : i = j) hij) hA
  obtain ⟨b1, b2, b3, b4⟩ := hS.1 0 (Nat.le_refl 1)
  exact ⟨(aK 0, aV 0), vk_R.of href (hv 0 (Nat.le_refl 1)), b1, b2, b3, e_same b4 fun j hj => congrArg Value.int (e_by_at hj)⟩
theorem e_texts {A : Nat → Prop} (hA : ∀ a : Nat, a < s.heap.size → ¬ A a) (hts : ∀ w ∈ lw_tbl, w.before args s = true) (hgv : (Jvm.Cond.and given_1 narrow_1).before args s = true) : ∃ ad : Nat → Nat × Nat, ∀ (i : Nat) (r : String × Nat × String), gSt[i]? = some r → e_tx A s r (ad i) := by
  have hf := flat_of_before _ hgv
  have each : ∀ r ∈ gSt, ∃ q, e_tx A s r q := fun r hm => e_text (args := args) hA r (st_short r hm) (hts _ (List.mem_append_right _ (pick_mem (by rw [← st_ref]; exact List.mem_map.mpr ⟨r, hm, rfl⟩)))) (fun w hw => hf w (pick_mem (by rw [← st_all]; exact List.mem_flatMap.mpr ⟨r, hm, hw⟩)))
  refine ⟨fun i => match h : gSt[i]? with
    | none => (0, 0)
    | some r => (each r (List.mem_of_getElem? h)).choose, fun i r hr => ?_⟩
  show e_tx A s r (match h : gSt[i]? with
    | none => (0, 0)
    | some r => (each r (List.mem_of_getElem? h)).choose)
  split
  · rename_i h
    cases h.symm.trans hr
  · rename_i r' h
    cases h.symm.trans hr
    exact (each r (List.mem_of_getElem? h)).choose_spec
theorem tb_in {w : Cond} (i : Nat) (h : tables_1[i]? = some w) : w ∈ lw_tbl := List.mem_append_right _ (List.mem_of_getElem? h)
theorem e_all {b Ln : Nat} {xs : Nat → Int32} (l : Launch) (hts : ∀ w ∈ lw_tbl, w.before args s = true) (hgv : (Jvm.Cond.and given_1 narrow_1).before args s = true) (hX : va_X b Ln xs s s.heap) (hbl : b < s.heap.size) : ∃ G : GT, gL G = l ∧ gB G = s.heap.size ∧ gH G = s.heap ∧ gN G = s.heap.size + 601024 ∧ gU G = 7293034 ∧ (va_K (gD G) vwCl (gT G) s ∧ gX G s) ∧ ScrG G b Ln xs := by
  have hg : ∀ w ∈ gTB, w.before args s = true := fun w hw => hts w (List.mem_filter.mp hw).1
  have hf := flat_of_before _ hgv
  have hA : ∀ a : Nat, a < s.heap.size → ¬ (fun q : Nat => s.heap.size ≤ q) a := fun a h => Nat.not_le.mpr h
  obtain ⟨D, hD⟩ := e_known hg
  obtain ⟨cI, i1, i2⟩ := e_arrI (hg _ ac_int)
  obtain ⟨cL, l1, l2⟩ := e_arrL (hg _ ac_long)
  have hP4 : (Cond.arrayOver (.object RX4)).before args s = true := hts _ (tb_in 242 (by decide +kernel))
  have hP7 : (Cond.arrayOver (.object RX7)).before args s = true := hts _ (tb_in 221 (by decide +kernel))
  obtain ⟨cP, p1, p2⟩ := e_arrO hP4
  obtain ⟨cS, s1, s2⟩ := e_arrO hP7
  obtain ⟨ad, had⟩ := e_texts (args := args) hA hts hgv
  refine ⟨(l, D, s.heap.size, s.heap, s.heap.size + 601024, 7293034, (fun k => if k = 0 then cI else if k = 1 then cL else if k = 2 then cP else cS), (fun i => (ad i).1), (fun i => if i = 99 then b else (ad i).2)), rfl, rfl, rfl, rfl, rfl, ⟨⟨hD, fun k q hk => ?_⟩, ⟨fun r hr => va_Nw.of rfl (hts _ (List.mem_append_right _ (pick_mem (by rw [← st_nest]; exact List.mem_map.mpr ⟨r, hr, rfl⟩)))), ⟨hP4, hP7⟩, ⟨⟨va_Zof (hts _ (tb_in 480 (by decide +kernel))) (hts _ (tb_in 16 (by decide +kernel))) (va_eqt (hf _ (List.mem_of_getElem? (i := 4) (by decide +kernel)))) hA, va_Zqof (hts _ (tb_in 496 (by decide +kernel))) (hts _ (tb_in 18 (by decide +kernel))) (hf _ (List.mem_of_getElem? (i := 5) (by decide +kernel))) hA⟩, ⟨vx_Zqof (hts _ (tb_in 1040 (by decide +kernel))) (hts _ (tb_in 20 (by decide +kernel))) (hf _ (List.mem_of_getElem? (i := 9) (by decide +kernel))) hA, vx_Zqof (hts _ (tb_in 1042 (by decide +kernel))) (hts _ (tb_in 20 (by decide +kernel))) (hf _ (List.mem_of_getElem? (i := 10) (by decide +kernel))) hA⟩, ?_, va_Nw.of rfl (hts _ (tb_in 1015 (by decide +kernel))), ?_⟩, fun i r hr => ?_⟩⟩, ?_⟩
  · match k, hk with
    | 0, hk => cases hk; exact ⟨i1, i2⟩
    | 1, hk => cases hk; exact ⟨l1, l2⟩
    | 2, hk => cases hk; exact ⟨p1, p2⟩
    | 3, hk => cases hk; exact ⟨s1, s2⟩
    | k + 4, hk => simp at hk
  · intro x hx
    simp only [List.mem_cons, List.not_mem_nil, or_false] at hx
    rcases hx with rfl | rfl | rfl
    · exact va_Nw.of rfl (hts _ (tb_in 1017 (by decide +kernel)))
    · exact va_Nw.of rfl (hts _ (tb_in 1019 (by decide +kernel)))
    · exact va_Nw.of rfl (hts _ (tb_in 1021 (by decide +kernel)))
  · intro cell hc
    obtain ⟨scr, x1, x2, x3, -⟩ := hX
    have hc : s.heap[b]? = some cell := hc
    cases Option.some.inj (x1.symm.trans hc)
    exact ⟨x2, x3⟩
  · have h9 := had i r hr
    have hi : i ≠ 99 := fun e => by
      rw [e, show gSt[99]? = none from rfl] at hr
      cases hr
    refine ⟨h9.1, h9.2.1, h9.2.2.1, ?_, ?_⟩
    · show va_OF _ _ _ (.ref (if i = 99 then b else (ad i).2)) _ _ _ _
      rw [if_neg hi]
      exact h9.2.2.2.1
    · show va_T _ (if i = 99 then b else (ad i).2) _ _ _ _ _
      rw [if_neg hi]
      exact h9.2.2.2.2
  · obtain ⟨scr, x1, x2, x3, x4, x5⟩ := hX
    exact ⟨rfl, hbl, scr, x1, x4, x5⟩
end LENTRY
