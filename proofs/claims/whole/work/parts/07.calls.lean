/-! ===== calls ===== -/
section CALLS
variable {α : Type} {G : GT} {Abs : α → Heap → Prop} {y : MethodName} {cc : ByteArray} {nL : Nat} {rt : Option FieldType} {d : Nat} {a : α} {pc : Nat} {L : List (Option Value)} {post : Option Value → α → Prop} {y2 : MethodName} {cc2 : ByteArray} {nL2 : Nat} {rt2 : Option FieldType}
def gPc {α : Type} (G : GT) (Abs : α → Heap → Prop) (av : List Value) (n u : Nat) (a : α) : Array Value → State → Prop := va_Pc av (fun U => U.heap.size = n ∧ gs U.heap (gB G) = u ∧ gBase G U.heap ∧ (va_K (gD G) vwCl (gT G) U ∧ gX G U) ∧ Abs a U.heap)
theorem gPc_blind (G : GT) (Abs : α → Heap → Prop) (av : List Value) (n u : Nat) (a : α) : FrameBlind (gPc G Abs av n u a) := fun v U g mk q => ⟨q.1, q.2.1, q.2.2.1, q.2.2.2.1, ⟨va_K.moved (u := U) (U := U.calling g mk v) (Vm.Alike.refl U.vm) q.2.2.2.2.1.1, q.2.2.2.2.1.2.calling g mk v⟩, q.2.2.2.2.2⟩
theorem call_back {K : Option Value → α → Prop} {n u : Nat} {p : Program} {e : Env} {s : State} {m : MethodId} {args : Array Value} {below : List Frame} {meth : Method} {c : Code} {H : Heap} {locs : List Loc} {ls : Array Slot} {st0 rest : List Value} {av : Array Value}
    (C : gCtx G y cc nL rt n u p s m args meth c) (hl : ∀ q ∈ locs, gB G ≤ q.base) (hL : lv_has ls nL (lvl 0 L))
    (hrun : va_Run p (gL G) e (gR G (d + 1) n u) s m args below meth c H locs (H.size - n) (gs H n) (gN G - H.size) (gU G - gs H (gB G)) (F0 m pc ls st0) rest (gQ G Abs K av) (fun q => gB G ≤ q))
    (k : ∀ v a', K v a' → V G Abs y cc nL rt (d + 1) a' (pc + 3) L (v.toList ++ rest) post) : W p (gL G) e (gR G (d + 1) n u) s m args below meth c H locs (H.size - n) (gs H n) (MQ below (gQ G Abs post) args s (gN G - n) (gU G - u) (fun q => gB G ≤ q)) (F0 m pc ls st0) := by
  intro T hT X
  obtain ⟨v, st₀, t, T', Lc, h0, X', hLc, e1, e2, ⟨v', a', ev, hp, hB', hA'⟩, hgo⟩ := hrun T hT X
  cases ev
  have X2 := stand_tight X'
  have hs : s.heap.size = n := C.2.2.2.2.2.1
  have hu : gs s.heap (gB G) = u := C.2.2.2.2.2.2.1
  have hg2 := gs_stand X2 (b := gB G) C.2.2.2.2.2.2.2.1
  have h2 : s.heap.size ≤ T'.heap.size := X'.same.2.1
  rw [e1, hu, hs] at hg2
  rw [e1, hs] at h2
  rw [e1, hs] at X2
  obtain ⟨t2, a1, b1⟩ := k v a' hp n u p e s m args below meth c t.heap (locs ++ Lc) ls C hB' h2 hg2 hA' (fun q hq => (List.mem_append.mp hq).elim (hl q) (hLc q)) hL T' e1 X2
  exact ⟨t2, hgo t2 a1, b1⟩
theorem goodTB {ws : List Cond} (h : ∀ w ∈ ws, w ∈ gTB) : GoodIn gTB ws := fun w hw => ⟨h w hw, good_of_word (gTB_ok (h w hw))⟩
theorem gR_fit {n u : Nat} (h : nL2 ≤ 17) (n' u' : Nat) : (gR G d n' u').frames + 1 ≤ (gR G (d + 1) n u).frames ∧ 8 + (nL2 + 11) + (gR G d n' u').locals ≤ (gR G (d + 1) n u).locals := ⟨Nat.le_refl _, by show 8 + (nL2 + 11) + 36 * d ≤ 36 * (d + 1); omega⟩
theorem gR_pay {H : Heap} {n u : Nat} (hB : gBase G H) (hn : n ≤ H.size) (hg : gs H (gB G) = u + gs H n) : H.size - n + (gN G - H.size) ≤ (gR G (d + 1) n u).cells ∧ gs H n + (gU G - gs H (gB G)) ≤ (gR G (d + 1) n u).slots := ⟨by show _ ≤ gN G - n; have := hB.2.1; omega, by show _ ≤ gU G - u; have := hB.2.2.1; omega⟩
theorem gPre {H : Heap} {n u : Nat} {p : Program} {s : State} {m : MethodId} {args : Array Value} {meth : Method} {c : Code} (C : gCtx G y cc nL rt n u p s m args meth c) (hB : gBase G H) (hA : Abs a H) (av : List Value) : ∀ U : State, U.heap = H → s.WarmedH U.vm → gPc G Abs av H.size (gs H (gB G)) a av.toArray U := fun U hU hW => ⟨rfl, by rw [hU], by rw [hU], by rw [hU]; exact hB, ⟨va_K.moved hW.alike C.2.2.2.2.1.1, C.2.2.2.2.1.2.warm hW⟩, by rw [hU]; exact hA⟩
theorem s_callV {K : Option Value → α → Prop} {b i ci N : Nat} {T : u_T} (As : List Value) {rest : List Value} (q : Nat) (hd : decode cc pc = .ok (.invokevirtual i, 3)) (hq : pc + 3 = q) (hm : gMV y2 cc2 nL2 rt2) (hw : Cond.methodLink y.cls i y2 ∈ gTB) (hds : (parseMethodDescriptor y2.desc).map (fun d => d.parameters.length) = some As.length) (hrest : (rest.map fun v => v.category).sum ≤ 8) (hr : ∀ H, Abs a H → ∃ fs, va_at (gD G) vwCl (b, .inr (ci, fs)) H) (hci : vwCl[ci]? = some (y2.cls, T, N))
    (h : Cm G Abs y2 cc2 nL2 rt2 d (.ref b :: As) a K) (k : ∀ v a', K v a' → V G Abs y cc nL rt (d + 1) a' q L (v.toList ++ rest) post) : V G Abs y cc nL rt (d + 1) a pc L (As.reverse ++ .ref b :: rest) post := by
  subst hq
  intro n u p e s m args below meth c H locs ls C hB hn hg hA hl hL
  have hM := h H.size (gs H (gB G))
  have cw := cwV (R := gR G (d + 1) n u) (rm := gR G d H.size (gs H (gB G))) (own := y.cls) (index := i) (C := y2.cls) (ws := Cond.code y2 cc2 nL2 rt2 :: gTB) As.length C.1.2.2.2.2 (goodTB (by
    intro w hw1
    simp only [wsV, List.cons_append, List.nil_append, List.mem_cons] at hw1
    rcases hw1 with rfl | rfl | rfl | rfl | rfl | hw1
    · exact hw
    · exact hm.2.1
    · exact hm.2.2.1
    · exact hm.2.2.2.1
    · exact hm.1
    · exact hw1)) rfl rfl rfl ⟨rfl, hm.2.2.2.2.1.1, hm.2.2.2.2.1.2, hds⟩ (gR_fit hm.2.2.2.2.2 _ _)
  obtain ⟨fs, r, h1, cell, q1, q2, q3, q4⟩ := hr H hA
  have hr9 : r = (y2.cls, T, N) := Option.some.inj (h1.symm.trans hci)
  have hfc : s.vm.findClass y2.cls = some cell.cls := by
    have := (C.2.2.2.2.1.1.1 ci _ hci).2.1
    rw [q2]
    exact this
  exact call_back C hl hL (va_runV (g := F0 m pc ls (As.reverse ++ .ref b :: rest)) C.1 hM cw ⟨gPc_blind G Abs _ _ _ a, ⟨cell, q1, by rw [q3]; rfl, hfc⟩, gPre C hB hA (.ref b :: As)⟩ rfl rfl hL.1 rfl (lv_room hrest) hd (gR_pay (d := d) hB hn hg)) k
theorem s_callS {K : Option Value → α → Prop} {i : Nat} (As : List Value) {rest : List Value} (q : Nat) (hd : decode cc pc = .ok (.invokestatic i, 3)) (hq : pc + 3 = q) (hm : gMS y2 cc2 nL2 rt2) (hy : y2.cls = y.cls) (hw : Cond.methodLink y.cls i y2 ∈ gTB) (hds : (parseMethodDescriptor y2.desc).map (fun d => d.parameters.length) = some As.length) (hrest : (rest.map fun v => v.category).sum ≤ 8)
    (h : Cm G Abs y2 cc2 nL2 rt2 d As a K) (k : ∀ v a', K v a' → V G Abs y cc nL rt (d + 1) a' q L (v.toList ++ rest) post) : V G Abs y cc nL rt (d + 1) a pc L (As.reverse ++ rest) post := by
  subst hq
  intro n u p e s m args below meth c H locs ls C hB hn hg hA hl hL
  have hM := h H.size (gs H (gB G))
  have cw := cwS (R := gR G (d + 1) n u) (rm := gR G d H.size (gs H (gB G))) (own := y.cls) (index := i) (ws := Cond.code y2 cc2 nL2 rt2 :: gTB) As.length C.1.2.2.2.2 (goodTB (by
    intro w hw1
    simp only [wsS, List.cons_append, List.nil_append, List.mem_cons] at hw1
    rcases hw1 with rfl | rfl | rfl | rfl | hw1
    · exact hw
    · exact hm.2.1
    · exact hy ▸ hm.2.2.1
    · exact hm.1
    · exact hw1)) rfl rfl rfl ⟨hy, hm.2.2.2.1.1, hm.2.2.2.1.2, hds⟩ (gR_fit hm.2.2.2.2 _ _)
  exact call_back C hl hL (va_runS (g := F0 m pc ls (As.reverse ++ rest)) C.1 hM cw ⟨gPc_blind G Abs _ _ _ a, gPre C hB hA As⟩ rfl rfl hL.1 rfl (lv_room hrest) hd (gR_pay (d := d) hB hn hg)) k
theorem s_callI {K : Option Value → α → Prop} {b i : Nat} (As : List Value) {rest : List Value} (q : Nat) (hd : decode cc pc = .ok (.invokespecial i, 3)) (hq : pc + 3 = q) (hm : gMI y2 cc2 nL2 none) (hw : Cond.methodLink y.cls i y2 ∈ gTB) (hds : (parseMethodDescriptor y2.desc).map (fun d => d.parameters.length) = some As.length) (hrest : (rest.map fun v => v.category).sum ≤ 8)
    (h : Cm G Abs y2 cc2 nL2 none d (.ref b :: As) a K) (k : ∀ v a', K v a' → V G Abs y cc nL rt (d + 1) a' q L (v.toList ++ rest) post) : V G Abs y cc nL rt (d + 1) a pc L (As.reverse ++ .ref b :: rest) post := by
  subst hq
  intro n u p e s m args below meth c H locs ls C hB hn hg hA hl hL
  have hM := h H.size (gs H (gB G))
  have cw := cwI (R := gR G (d + 1) n u) (rm := gR G d H.size (gs H (gB G))) (own := y.cls) (index := i) (ws := Cond.code y2 cc2 nL2 none :: gTB) As.length C.1.2.2.2.2 (goodTB (by
    intro w hw1
    rcases List.mem_cons.mp hw1 with rfl | hw1
    · exact hm.1
    · exact hw1)) rfl rfl rfl (C.1.2.2.2.2 _ hm.2.2.1) (C.1.2.2.2.2 _ hw) (C.1.2.2.2.2 _ hm.2.1) hm.2.2.2.1 ⟨hm.2.2.2.2.1.1, hm.2.2.2.2.1.2, hds⟩ (gR_fit hm.2.2.2.2.2 _ _)
  exact call_back C hl hL (va_runI (g := F0 m pc ls (As.reverse ++ .ref b :: rest)) C.1 hM cw ⟨gPc_blind G Abs _ _ _ a, gPre C hB hA (.ref b :: As)⟩ rfl rfl hL.1 rfl (lv_room hrest) hd (gR_pay (d := d) hB hn hg)) k
theorem s_callN {K : Option Value → α → Prop} {b i : Nat} {host : String} (As : List Value) {rest : List Value} (q : Nat) (hd : decode cc pc = .ok (.invokespecial i, 3)) (hq : pc + 3 = q) (hm : gMI y2 cc2 nL2 none) (hw : (y.cls, i, y2, host) ∈ gNl) (hds : (parseMethodDescriptor y2.desc).map (fun d => d.parameters.length) = some As.length) (hrest : (rest.map fun v => v.category).sum ≤ 8)
    (h : Cm G Abs y2 cc2 nL2 none d (.ref b :: As) a K) (k : ∀ v a', K v a' → V G Abs y cc nL rt (d + 1) a' q L (v.toList ++ rest) post) : V G Abs y cc nL rt (d + 1) a pc L (As.reverse ++ .ref b :: rest) post := by
  subst hq
  intro n u p e s m args below meth c H locs ls C hB hn hg hA hl hL
  have hM := h H.size (gs H (gB G))
  have cw := va_cnB (R := gR G (d + 1) n u) (rm := gR G d H.size (gs H (gB G))) (own := y.cls) (index := i) (host := host) (ws := Cond.code y2 cc2 nL2 none :: gTB) As.length C.1.2.2.2.2 (goodTB (by
    intro w hw1
    rcases List.mem_cons.mp hw1 with rfl | hw1
    · exact hm.1
    · exact hw1)) rfl rfl rfl (C.2.2.2.2.1.2.1 _ hw) (C.1.2.2.2.2 _ hm.2.2.1) ⟨hm.2.2.2.2.1.1, hm.2.2.2.2.1.2, hds⟩ (gR_fit hm.2.2.2.2.2 _ _)
  exact call_back C hl hL (va_runIN (g := F0 m pc ls (As.reverse ++ .ref b :: rest)) C.1 hM ⟨cw, hm.2.2.2.1, C.1.2.2.2.2 _ hm.2.1⟩ ⟨gPc_blind G Abs _ _ _ a, gPre C hB hA (.ref b :: As)⟩ rfl rfl hL.1 rfl (lv_room hrest) hd (gR_pay (d := d) hB hn hg)) k
theorem s_objInit {b i : Nat} {rest : List Value} (q : Nat) (hd : decode cc pc = .ok (.invokespecial i, 3)) (hq : pc + 3 = q) (hw : Cond.methodLink y.cls i objectInit ∈ gTB) (hrest : (rest.map fun v => v.category).sum ≤ 8) (k : V G Abs y cc nL rt (d + 1) a q L rest post) : V G Abs y cc nL rt (d + 1) a pc L (.ref b :: rest) post := by
  subst hq
  intro n u p e s m args below meth c H locs ls C hB hn hg hA hl hL
  refine W.objInit C.1.1 C.1.2.1 C.1.2.2.2.1 (C.1.2.2.2.2 _ hw) (C.1.2.2.2.2 _ is_obj) (C.1.2.2.2.2 _ co_obj) rfl (by rw [C.1.2.2.1]; exact hL.1) rfl hd (by show 1 ≤ d + 1; omega) ?_ (k n u p e s m args below meth c H locs ls C hB hn hg hA hl hL)
  show 2 * 0 + (rest.map fun v => v.category).sum + 12 ≤ 36 * (d + 1)
  omega
theorem s_max {x z : Int} {i : Nat} {rest : List Value} (q : Nat) (hd : decode cc pc = .ok (.invokestatic i, 3)) (hq : pc + 3 = q) (hw : Cond.methodLink y.cls i Lib.Math.max.name ∈ gTB) (hx : -2147483648 ≤ x ∧ x ≤ 2147483647 := by omega) (hz : -2147483648 ≤ z ∧ z ≤ 2147483647 := by omega) (hrest : (rest.map fun v => v.category).sum ≤ 8) (k : V G Abs y cc nL rt (d + 1) a q L (vi (max x z) :: rest) post) : V G Abs y cc nL rt (d + 1) a pc L (vi z :: vi x :: rest) post := by
  subst hq
  intro n u p e s m args below meth c H locs ls C hB hn hg hA hl hL
  have h5 := gR_pay (d := d) hB hn hg
  refine va_mmax C.1.1 C.1.2.1 (by rw [C.1.2.2.1]; exact hL.1.symm) C.1.2.2.2.1 (C.1.2.2.2.2 _ hw) (C.1.2.2.2.2 _ st_max) (C.1.2.2.2.2 _ it_J9) (C.1.2.2.2.2 _ co_max) (by show 1 ≤ d + 1; omega) (by show _ + 13 ≤ 36 * (d + 1); omega) (by omega) (by omega) hd ?_
  rw [show (if Int32.ofInt x < Int32.ofInt z then Int32.ofInt z else Int32.ofInt x) = Int32.ofInt (max x z) by
    by_cases h : x < z
    · rw [if_pos ((rI_lt hx hz).mpr h), show max x z = z by omega]
    · rw [if_neg (fun g => h ((rI_lt hx hz).mp g)), show max x z = x by omega]]
  exact k n u p e s m args below meth c H locs ls C hB hn hg hA hl hL
theorem s_min {x z : Int} {i : Nat} {rest : List Value} (q : Nat) (hd : decode cc pc = .ok (.invokestatic i, 3)) (hq : pc + 3 = q) (hw : Cond.methodLink y.cls i Lib.Math.min.name ∈ gTB) (hx : -2147483648 ≤ x ∧ x ≤ 2147483647 := by omega) (hz : -2147483648 ≤ z ∧ z ≤ 2147483647 := by omega) (hrest : (rest.map fun v => v.category).sum ≤ 8) (k : V G Abs y cc nL rt (d + 1) a q L (vi (min x z) :: rest) post) : V G Abs y cc nL rt (d + 1) a pc L (vi z :: vi x :: rest) post := by
  subst hq
  intro n u p e s m args below meth c H locs ls C hB hn hg hA hl hL
  have h5 := gR_pay (d := d) hB hn hg
  refine va_mmin C.1.1 C.1.2.1 (by rw [C.1.2.2.1]; exact hL.1.symm) C.1.2.2.2.1 (C.1.2.2.2.2 _ hw) (C.1.2.2.2.2 _ st_min) (C.1.2.2.2.2 _ it_J9) (C.1.2.2.2.2 _ co_min) (by show 1 ≤ d + 1; omega) (by show _ + 13 ≤ 36 * (d + 1); omega) (by omega) (by omega) hd ?_
  rw [show (if Int32.ofInt z < Int32.ofInt x then Int32.ofInt z else Int32.ofInt x) = Int32.ofInt (min x z) by
    by_cases h : z < x
    · rw [if_pos ((rI_lt hz hx).mpr h), show min x z = z by omega]
    · rw [if_neg (fun g => h ((rI_lt hz hx).mp g)), show min x z = x by omega]]
  exact k n u p e s m args below meth c H locs ls C hB hn hg hA hl hL
theorem s_V0i {b i ci N : Nat} {T : u_T} {rest : List Value} (q : Nat) (hd : decode cc pc = .ok (.invokevirtual i, 3)) (hq : pc + 3 = q) (hm : gMV y2 cc2 nL2 rt2) (hw : Cond.methodLink y.cls i y2 ∈ gTB) (hds : (parseMethodDescriptor y2.desc).map (fun d => d.parameters.length) = some 0) (hrest : (rest.map fun v => v.category).sum ≤ 8) (hr : ∀ H, Abs a H → ∃ fs, va_at (gD G) vwCl (b, .inr (ci, fs)) H) (hci : vwCl[ci]? = some (y2.cls, T, N)) (h : Cm G Abs y2 cc2 nL2 rt2 d [.ref b] a (fun v a' => ∃ z, v = some (vi z) ∧ V G Abs y cc nL rt (d + 1) a' q L (vi z :: rest) post)) : V G Abs y cc nL rt (d + 1) a pc L (.ref b :: rest) post := s_callV [] q hd hq hm hw hds hrest hr hci h (fun v a' h9 => by obtain ⟨z, rfl, hz⟩ := h9; exact hz)
theorem s_V1i {b i ci N : Nat} {T : u_T} {v1 : Value} {rest : List Value} (q : Nat) (hd : decode cc pc = .ok (.invokevirtual i, 3)) (hq : pc + 3 = q) (hm : gMV y2 cc2 nL2 rt2) (hw : Cond.methodLink y.cls i y2 ∈ gTB) (hds : (parseMethodDescriptor y2.desc).map (fun d => d.parameters.length) = some 1) (hrest : (rest.map fun v => v.category).sum ≤ 8) (hr : ∀ H, Abs a H → ∃ fs, va_at (gD G) vwCl (b, .inr (ci, fs)) H) (hci : vwCl[ci]? = some (y2.cls, T, N)) (h : Cm G Abs y2 cc2 nL2 rt2 d [.ref b, v1] a (fun v a' => ∃ z, v = some (vi z) ∧ V G Abs y cc nL rt (d + 1) a' q L (vi z :: rest) post)) : V G Abs y cc nL rt (d + 1) a pc L (v1 :: .ref b :: rest) post := s_callV [v1] q hd hq hm hw hds hrest hr hci h (fun v a' h9 => by obtain ⟨z, rfl, hz⟩ := h9; exact hz)
theorem s_S1i {i : Nat} {v1 : Value} {rest : List Value} (q : Nat) (hd : decode cc pc = .ok (.invokestatic i, 3)) (hq : pc + 3 = q) (hm : gMS y2 cc2 nL2 rt2) (hy : y2.cls = y.cls) (hw : Cond.methodLink y.cls i y2 ∈ gTB) (hds : (parseMethodDescriptor y2.desc).map (fun d => d.parameters.length) = some 1) (hrest : (rest.map fun v => v.category).sum ≤ 8) (h : Cm G Abs y2 cc2 nL2 rt2 d [v1] a (fun v a' => ∃ z, v = some (vi z) ∧ V G Abs y cc nL rt (d + 1) a' q L (vi z :: rest) post)) : V G Abs y cc nL rt (d + 1) a pc L (v1 :: rest) post := s_callS [v1] q hd hq hm hy hw hds hrest h (fun v a' h9 => by obtain ⟨z, rfl, hz⟩ := h9; exact hz)
theorem s_V2i {b i ci N : Nat} {T : u_T} {v1 v2 : Value} {rest : List Value} (q : Nat) (hd : decode cc pc = .ok (.invokevirtual i, 3)) (hq : pc + 3 = q) (hm : gMV y2 cc2 nL2 rt2) (hw : Cond.methodLink y.cls i y2 ∈ gTB) (hds : (parseMethodDescriptor y2.desc).map (fun d => d.parameters.length) = some 2) (hrest : (rest.map fun v => v.category).sum ≤ 8) (hr : ∀ H, Abs a H → ∃ fs, va_at (gD G) vwCl (b, .inr (ci, fs)) H) (hci : vwCl[ci]? = some (y2.cls, T, N)) (h : Cm G Abs y2 cc2 nL2 rt2 d [.ref b, v1, v2] a (fun v a' => ∃ z, v = some (vi z) ∧ V G Abs y cc nL rt (d + 1) a' q L (vi z :: rest) post)) : V G Abs y cc nL rt (d + 1) a pc L (v2 :: v1 :: .ref b :: rest) post := s_callV [v1, v2] q hd hq hm hw hds hrest hr hci h (fun v a' h9 => by obtain ⟨z, rfl, hz⟩ := h9; exact hz)
theorem s_S2i {i : Nat} {v1 v2 : Value} {rest : List Value} (q : Nat) (hd : decode cc pc = .ok (.invokestatic i, 3)) (hq : pc + 3 = q) (hm : gMS y2 cc2 nL2 rt2) (hy : y2.cls = y.cls) (hw : Cond.methodLink y.cls i y2 ∈ gTB) (hds : (parseMethodDescriptor y2.desc).map (fun d => d.parameters.length) = some 2) (hrest : (rest.map fun v => v.category).sum ≤ 8) (h : Cm G Abs y2 cc2 nL2 rt2 d [v1, v2] a (fun v a' => ∃ z, v = some (vi z) ∧ V G Abs y cc nL rt (d + 1) a' q L (vi z :: rest) post)) : V G Abs y cc nL rt (d + 1) a pc L (v2 :: v1 :: rest) post := s_callS [v1, v2] q hd hq hm hy hw hds hrest h (fun v a' h9 => by obtain ⟨z, rfl, hz⟩ := h9; exact hz)
theorem s_V3i {b i ci N : Nat} {T : u_T} {v1 v2 v3 : Value} {rest : List Value} (q : Nat) (hd : decode cc pc = .ok (.invokevirtual i, 3)) (hq : pc + 3 = q) (hm : gMV y2 cc2 nL2 rt2) (hw : Cond.methodLink y.cls i y2 ∈ gTB) (hds : (parseMethodDescriptor y2.desc).map (fun d => d.parameters.length) = some 3) (hrest : (rest.map fun v => v.category).sum ≤ 8) (hr : ∀ H, Abs a H → ∃ fs, va_at (gD G) vwCl (b, .inr (ci, fs)) H) (hci : vwCl[ci]? = some (y2.cls, T, N)) (h : Cm G Abs y2 cc2 nL2 rt2 d [.ref b, v1, v2, v3] a (fun v a' => ∃ z, v = some (vi z) ∧ V G Abs y cc nL rt (d + 1) a' q L (vi z :: rest) post)) : V G Abs y cc nL rt (d + 1) a pc L (v3 :: v2 :: v1 :: .ref b :: rest) post := s_callV [v1, v2, v3] q hd hq hm hw hds hrest hr hci h (fun v a' h9 => by obtain ⟨z, rfl, hz⟩ := h9; exact hz)
theorem s_S3i {i : Nat} {v1 v2 v3 : Value} {rest : List Value} (q : Nat) (hd : decode cc pc = .ok (.invokestatic i, 3)) (hq : pc + 3 = q) (hm : gMS y2 cc2 nL2 rt2) (hy : y2.cls = y.cls) (hw : Cond.methodLink y.cls i y2 ∈ gTB) (hds : (parseMethodDescriptor y2.desc).map (fun d => d.parameters.length) = some 3) (hrest : (rest.map fun v => v.category).sum ≤ 8) (h : Cm G Abs y2 cc2 nL2 rt2 d [v1, v2, v3] a (fun v a' => ∃ z, v = some (vi z) ∧ V G Abs y cc nL rt (d + 1) a' q L (vi z :: rest) post)) : V G Abs y cc nL rt (d + 1) a pc L (v3 :: v2 :: v1 :: rest) post := s_callS [v1, v2, v3] q hd hq hm hy hw hds hrest h (fun v a' h9 => by obtain ⟨z, rfl, hz⟩ := h9; exact hz)
theorem s_V4i {b i ci N : Nat} {T : u_T} {v1 v2 v3 v4 : Value} {rest : List Value} (q : Nat) (hd : decode cc pc = .ok (.invokevirtual i, 3)) (hq : pc + 3 = q) (hm : gMV y2 cc2 nL2 rt2) (hw : Cond.methodLink y.cls i y2 ∈ gTB) (hds : (parseMethodDescriptor y2.desc).map (fun d => d.parameters.length) = some 4) (hrest : (rest.map fun v => v.category).sum ≤ 8) (hr : ∀ H, Abs a H → ∃ fs, va_at (gD G) vwCl (b, .inr (ci, fs)) H) (hci : vwCl[ci]? = some (y2.cls, T, N)) (h : Cm G Abs y2 cc2 nL2 rt2 d [.ref b, v1, v2, v3, v4] a (fun v a' => ∃ z, v = some (vi z) ∧ V G Abs y cc nL rt (d + 1) a' q L (vi z :: rest) post)) : V G Abs y cc nL rt (d + 1) a pc L (v4 :: v3 :: v2 :: v1 :: .ref b :: rest) post := s_callV [v1, v2, v3, v4] q hd hq hm hw hds hrest hr hci h (fun v a' h9 => by obtain ⟨z, rfl, hz⟩ := h9; exact hz)
theorem s_S4i {i : Nat} {v1 v2 v3 v4 : Value} {rest : List Value} (q : Nat) (hd : decode cc pc = .ok (.invokestatic i, 3)) (hq : pc + 3 = q) (hm : gMS y2 cc2 nL2 rt2) (hy : y2.cls = y.cls) (hw : Cond.methodLink y.cls i y2 ∈ gTB) (hds : (parseMethodDescriptor y2.desc).map (fun d => d.parameters.length) = some 4) (hrest : (rest.map fun v => v.category).sum ≤ 8) (h : Cm G Abs y2 cc2 nL2 rt2 d [v1, v2, v3, v4] a (fun v a' => ∃ z, v = some (vi z) ∧ V G Abs y cc nL rt (d + 1) a' q L (vi z :: rest) post)) : V G Abs y cc nL rt (d + 1) a pc L (v4 :: v3 :: v2 :: v1 :: rest) post := s_callS [v1, v2, v3, v4] q hd hq hm hy hw hds hrest h (fun v a' h9 => by obtain ⟨z, rfl, hz⟩ := h9; exact hz)
theorem s_V5i {b i ci N : Nat} {T : u_T} {v1 v2 v3 v4 v5 : Value} {rest : List Value} (q : Nat) (hd : decode cc pc = .ok (.invokevirtual i, 3)) (hq : pc + 3 = q) (hm : gMV y2 cc2 nL2 rt2) (hw : Cond.methodLink y.cls i y2 ∈ gTB) (hds : (parseMethodDescriptor y2.desc).map (fun d => d.parameters.length) = some 5) (hrest : (rest.map fun v => v.category).sum ≤ 8) (hr : ∀ H, Abs a H → ∃ fs, va_at (gD G) vwCl (b, .inr (ci, fs)) H) (hci : vwCl[ci]? = some (y2.cls, T, N)) (h : Cm G Abs y2 cc2 nL2 rt2 d [.ref b, v1, v2, v3, v4, v5] a (fun v a' => ∃ z, v = some (vi z) ∧ V G Abs y cc nL rt (d + 1) a' q L (vi z :: rest) post)) : V G Abs y cc nL rt (d + 1) a pc L (v5 :: v4 :: v3 :: v2 :: v1 :: .ref b :: rest) post := s_callV [v1, v2, v3, v4, v5] q hd hq hm hw hds hrest hr hci h (fun v a' h9 => by obtain ⟨z, rfl, hz⟩ := h9; exact hz)
theorem s_S5i {i : Nat} {v1 v2 v3 v4 v5 : Value} {rest : List Value} (q : Nat) (hd : decode cc pc = .ok (.invokestatic i, 3)) (hq : pc + 3 = q) (hm : gMS y2 cc2 nL2 rt2) (hy : y2.cls = y.cls) (hw : Cond.methodLink y.cls i y2 ∈ gTB) (hds : (parseMethodDescriptor y2.desc).map (fun d => d.parameters.length) = some 5) (hrest : (rest.map fun v => v.category).sum ≤ 8) (h : Cm G Abs y2 cc2 nL2 rt2 d [v1, v2, v3, v4, v5] a (fun v a' => ∃ z, v = some (vi z) ∧ V G Abs y cc nL rt (d + 1) a' q L (vi z :: rest) post)) : V G Abs y cc nL rt (d + 1) a pc L (v5 :: v4 :: v3 :: v2 :: v1 :: rest) post := s_callS [v1, v2, v3, v4, v5] q hd hq hm hy hw hds hrest h (fun v a' h9 => by obtain ⟨z, rfl, hz⟩ := h9; exact hz)
theorem s_V0b {b i ci N : Nat} {T : u_T} {rest : List Value} (q : Nat) (hd : decode cc pc = .ok (.invokevirtual i, 3)) (hq : pc + 3 = q) (hm : gMV y2 cc2 nL2 rt2) (hw : Cond.methodLink y.cls i y2 ∈ gTB) (hds : (parseMethodDescriptor y2.desc).map (fun d => d.parameters.length) = some 0) (hrest : (rest.map fun v => v.category).sum ≤ 8) (hr : ∀ H, Abs a H → ∃ fs, va_at (gD G) vwCl (b, .inr (ci, fs)) H) (hci : vwCl[ci]? = some (y2.cls, T, N)) (h : Cm G Abs y2 cc2 nL2 rt2 d [.ref b] a (fun v a' => ∃ z, v = some (vb z) ∧ V G Abs y cc nL rt (d + 1) a' q L (vb z :: rest) post)) : V G Abs y cc nL rt (d + 1) a pc L (.ref b :: rest) post := s_callV [] q hd hq hm hw hds hrest hr hci h (fun v a' h9 => by obtain ⟨z, rfl, hz⟩ := h9; exact hz)
theorem s_V1b {b i ci N : Nat} {T : u_T} {v1 : Value} {rest : List Value} (q : Nat) (hd : decode cc pc = .ok (.invokevirtual i, 3)) (hq : pc + 3 = q) (hm : gMV y2 cc2 nL2 rt2) (hw : Cond.methodLink y.cls i y2 ∈ gTB) (hds : (parseMethodDescriptor y2.desc).map (fun d => d.parameters.length) = some 1) (hrest : (rest.map fun v => v.category).sum ≤ 8) (hr : ∀ H, Abs a H → ∃ fs, va_at (gD G) vwCl (b, .inr (ci, fs)) H) (hci : vwCl[ci]? = some (y2.cls, T, N)) (h : Cm G Abs y2 cc2 nL2 rt2 d [.ref b, v1] a (fun v a' => ∃ z, v = some (vb z) ∧ V G Abs y cc nL rt (d + 1) a' q L (vb z :: rest) post)) : V G Abs y cc nL rt (d + 1) a pc L (v1 :: .ref b :: rest) post := s_callV [v1] q hd hq hm hw hds hrest hr hci h (fun v a' h9 => by obtain ⟨z, rfl, hz⟩ := h9; exact hz)
theorem s_S1b {i : Nat} {v1 : Value} {rest : List Value} (q : Nat) (hd : decode cc pc = .ok (.invokestatic i, 3)) (hq : pc + 3 = q) (hm : gMS y2 cc2 nL2 rt2) (hy : y2.cls = y.cls) (hw : Cond.methodLink y.cls i y2 ∈ gTB) (hds : (parseMethodDescriptor y2.desc).map (fun d => d.parameters.length) = some 1) (hrest : (rest.map fun v => v.category).sum ≤ 8) (h : Cm G Abs y2 cc2 nL2 rt2 d [v1] a (fun v a' => ∃ z, v = some (vb z) ∧ V G Abs y cc nL rt (d + 1) a' q L (vb z :: rest) post)) : V G Abs y cc nL rt (d + 1) a pc L (v1 :: rest) post := s_callS [v1] q hd hq hm hy hw hds hrest h (fun v a' h9 => by obtain ⟨z, rfl, hz⟩ := h9; exact hz)
theorem s_V2b {b i ci N : Nat} {T : u_T} {v1 v2 : Value} {rest : List Value} (q : Nat) (hd : decode cc pc = .ok (.invokevirtual i, 3)) (hq : pc + 3 = q) (hm : gMV y2 cc2 nL2 rt2) (hw : Cond.methodLink y.cls i y2 ∈ gTB) (hds : (parseMethodDescriptor y2.desc).map (fun d => d.parameters.length) = some 2) (hrest : (rest.map fun v => v.category).sum ≤ 8) (hr : ∀ H, Abs a H → ∃ fs, va_at (gD G) vwCl (b, .inr (ci, fs)) H) (hci : vwCl[ci]? = some (y2.cls, T, N)) (h : Cm G Abs y2 cc2 nL2 rt2 d [.ref b, v1, v2] a (fun v a' => ∃ z, v = some (vb z) ∧ V G Abs y cc nL rt (d + 1) a' q L (vb z :: rest) post)) : V G Abs y cc nL rt (d + 1) a pc L (v2 :: v1 :: .ref b :: rest) post := s_callV [v1, v2] q hd hq hm hw hds hrest hr hci h (fun v a' h9 => by obtain ⟨z, rfl, hz⟩ := h9; exact hz)
theorem s_S2b {i : Nat} {v1 v2 : Value} {rest : List Value} (q : Nat) (hd : decode cc pc = .ok (.invokestatic i, 3)) (hq : pc + 3 = q) (hm : gMS y2 cc2 nL2 rt2) (hy : y2.cls = y.cls) (hw : Cond.methodLink y.cls i y2 ∈ gTB) (hds : (parseMethodDescriptor y2.desc).map (fun d => d.parameters.length) = some 2) (hrest : (rest.map fun v => v.category).sum ≤ 8) (h : Cm G Abs y2 cc2 nL2 rt2 d [v1, v2] a (fun v a' => ∃ z, v = some (vb z) ∧ V G Abs y cc nL rt (d + 1) a' q L (vb z :: rest) post)) : V G Abs y cc nL rt (d + 1) a pc L (v2 :: v1 :: rest) post := s_callS [v1, v2] q hd hq hm hy hw hds hrest h (fun v a' h9 => by obtain ⟨z, rfl, hz⟩ := h9; exact hz)
theorem s_V3b {b i ci N : Nat} {T : u_T} {v1 v2 v3 : Value} {rest : List Value} (q : Nat) (hd : decode cc pc = .ok (.invokevirtual i, 3)) (hq : pc + 3 = q) (hm : gMV y2 cc2 nL2 rt2) (hw : Cond.methodLink y.cls i y2 ∈ gTB) (hds : (parseMethodDescriptor y2.desc).map (fun d => d.parameters.length) = some 3) (hrest : (rest.map fun v => v.category).sum ≤ 8) (hr : ∀ H, Abs a H → ∃ fs, va_at (gD G) vwCl (b, .inr (ci, fs)) H) (hci : vwCl[ci]? = some (y2.cls, T, N)) (h : Cm G Abs y2 cc2 nL2 rt2 d [.ref b, v1, v2, v3] a (fun v a' => ∃ z, v = some (vb z) ∧ V G Abs y cc nL rt (d + 1) a' q L (vb z :: rest) post)) : V G Abs y cc nL rt (d + 1) a pc L (v3 :: v2 :: v1 :: .ref b :: rest) post := s_callV [v1, v2, v3] q hd hq hm hw hds hrest hr hci h (fun v a' h9 => by obtain ⟨z, rfl, hz⟩ := h9; exact hz)
theorem s_S3b {i : Nat} {v1 v2 v3 : Value} {rest : List Value} (q : Nat) (hd : decode cc pc = .ok (.invokestatic i, 3)) (hq : pc + 3 = q) (hm : gMS y2 cc2 nL2 rt2) (hy : y2.cls = y.cls) (hw : Cond.methodLink y.cls i y2 ∈ gTB) (hds : (parseMethodDescriptor y2.desc).map (fun d => d.parameters.length) = some 3) (hrest : (rest.map fun v => v.category).sum ≤ 8) (h : Cm G Abs y2 cc2 nL2 rt2 d [v1, v2, v3] a (fun v a' => ∃ z, v = some (vb z) ∧ V G Abs y cc nL rt (d + 1) a' q L (vb z :: rest) post)) : V G Abs y cc nL rt (d + 1) a pc L (v3 :: v2 :: v1 :: rest) post := s_callS [v1, v2, v3] q hd hq hm hy hw hds hrest h (fun v a' h9 => by obtain ⟨z, rfl, hz⟩ := h9; exact hz)
theorem s_V4b {b i ci N : Nat} {T : u_T} {v1 v2 v3 v4 : Value} {rest : List Value} (q : Nat) (hd : decode cc pc = .ok (.invokevirtual i, 3)) (hq : pc + 3 = q) (hm : gMV y2 cc2 nL2 rt2) (hw : Cond.methodLink y.cls i y2 ∈ gTB) (hds : (parseMethodDescriptor y2.desc).map (fun d => d.parameters.length) = some 4) (hrest : (rest.map fun v => v.category).sum ≤ 8) (hr : ∀ H, Abs a H → ∃ fs, va_at (gD G) vwCl (b, .inr (ci, fs)) H) (hci : vwCl[ci]? = some (y2.cls, T, N)) (h : Cm G Abs y2 cc2 nL2 rt2 d [.ref b, v1, v2, v3, v4] a (fun v a' => ∃ z, v = some (vb z) ∧ V G Abs y cc nL rt (d + 1) a' q L (vb z :: rest) post)) : V G Abs y cc nL rt (d + 1) a pc L (v4 :: v3 :: v2 :: v1 :: .ref b :: rest) post := s_callV [v1, v2, v3, v4] q hd hq hm hw hds hrest hr hci h (fun v a' h9 => by obtain ⟨z, rfl, hz⟩ := h9; exact hz)
theorem s_S4b {i : Nat} {v1 v2 v3 v4 : Value} {rest : List Value} (q : Nat) (hd : decode cc pc = .ok (.invokestatic i, 3)) (hq : pc + 3 = q) (hm : gMS y2 cc2 nL2 rt2) (hy : y2.cls = y.cls) (hw : Cond.methodLink y.cls i y2 ∈ gTB) (hds : (parseMethodDescriptor y2.desc).map (fun d => d.parameters.length) = some 4) (hrest : (rest.map fun v => v.category).sum ≤ 8) (h : Cm G Abs y2 cc2 nL2 rt2 d [v1, v2, v3, v4] a (fun v a' => ∃ z, v = some (vb z) ∧ V G Abs y cc nL rt (d + 1) a' q L (vb z :: rest) post)) : V G Abs y cc nL rt (d + 1) a pc L (v4 :: v3 :: v2 :: v1 :: rest) post := s_callS [v1, v2, v3, v4] q hd hq hm hy hw hds hrest h (fun v a' h9 => by obtain ⟨z, rfl, hz⟩ := h9; exact hz)
theorem s_V5b {b i ci N : Nat} {T : u_T} {v1 v2 v3 v4 v5 : Value} {rest : List Value} (q : Nat) (hd : decode cc pc = .ok (.invokevirtual i, 3)) (hq : pc + 3 = q) (hm : gMV y2 cc2 nL2 rt2) (hw : Cond.methodLink y.cls i y2 ∈ gTB) (hds : (parseMethodDescriptor y2.desc).map (fun d => d.parameters.length) = some 5) (hrest : (rest.map fun v => v.category).sum ≤ 8) (hr : ∀ H, Abs a H → ∃ fs, va_at (gD G) vwCl (b, .inr (ci, fs)) H) (hci : vwCl[ci]? = some (y2.cls, T, N)) (h : Cm G Abs y2 cc2 nL2 rt2 d [.ref b, v1, v2, v3, v4, v5] a (fun v a' => ∃ z, v = some (vb z) ∧ V G Abs y cc nL rt (d + 1) a' q L (vb z :: rest) post)) : V G Abs y cc nL rt (d + 1) a pc L (v5 :: v4 :: v3 :: v2 :: v1 :: .ref b :: rest) post := s_callV [v1, v2, v3, v4, v5] q hd hq hm hw hds hrest hr hci h (fun v a' h9 => by obtain ⟨z, rfl, hz⟩ := h9; exact hz)
theorem s_S5b {i : Nat} {v1 v2 v3 v4 v5 : Value} {rest : List Value} (q : Nat) (hd : decode cc pc = .ok (.invokestatic i, 3)) (hq : pc + 3 = q) (hm : gMS y2 cc2 nL2 rt2) (hy : y2.cls = y.cls) (hw : Cond.methodLink y.cls i y2 ∈ gTB) (hds : (parseMethodDescriptor y2.desc).map (fun d => d.parameters.length) = some 5) (hrest : (rest.map fun v => v.category).sum ≤ 8) (h : Cm G Abs y2 cc2 nL2 rt2 d [v1, v2, v3, v4, v5] a (fun v a' => ∃ z, v = some (vb z) ∧ V G Abs y cc nL rt (d + 1) a' q L (vb z :: rest) post)) : V G Abs y cc nL rt (d + 1) a pc L (v5 :: v4 :: v3 :: v2 :: v1 :: rest) post := s_callS [v1, v2, v3, v4, v5] q hd hq hm hy hw hds hrest h (fun v a' h9 => by obtain ⟨z, rfl, hz⟩ := h9; exact hz)
theorem s_V0v {b i ci N : Nat} {T : u_T} {rest : List Value} (q : Nat) (hd : decode cc pc = .ok (.invokevirtual i, 3)) (hq : pc + 3 = q) (hm : gMV y2 cc2 nL2 rt2) (hw : Cond.methodLink y.cls i y2 ∈ gTB) (hds : (parseMethodDescriptor y2.desc).map (fun d => d.parameters.length) = some 0) (hrest : (rest.map fun v => v.category).sum ≤ 8) (hr : ∀ H, Abs a H → ∃ fs, va_at (gD G) vwCl (b, .inr (ci, fs)) H) (hci : vwCl[ci]? = some (y2.cls, T, N)) (h : Cm G Abs y2 cc2 nL2 rt2 d [.ref b] a (fun v a' => v = none ∧ V G Abs y cc nL rt (d + 1) a' q L (rest) post)) : V G Abs y cc nL rt (d + 1) a pc L (.ref b :: rest) post := s_callV [] q hd hq hm hw hds hrest hr hci h (fun v a' h9 => by obtain ⟨rfl, hz⟩ := h9; exact hz)
theorem s_I0 {b i : Nat} {rest : List Value} (q : Nat) (hd : decode cc pc = .ok (.invokespecial i, 3)) (hq : pc + 3 = q) (hm : gMI y2 cc2 nL2 none) (hw : Cond.methodLink y.cls i y2 ∈ gTB) (hds : (parseMethodDescriptor y2.desc).map (fun d => d.parameters.length) = some 0) (hrest : (rest.map fun v => v.category).sum ≤ 8) (h : Cm G Abs y2 cc2 nL2 none d [.ref b] a (fun v a' => v = none ∧ V G Abs y cc nL rt (d + 1) a' q L (rest) post)) : V G Abs y cc nL rt (d + 1) a pc L (.ref b :: rest) post := s_callI [] q hd hq hm hw hds hrest h (fun v a' h9 => by obtain ⟨rfl, hz⟩ := h9; exact hz)
theorem s_N0 {b i : Nat} {host : String} {rest : List Value} (q : Nat) (hd : decode cc pc = .ok (.invokespecial i, 3)) (hq : pc + 3 = q) (hm : gMI y2 cc2 nL2 none) (hw : (y.cls, i, y2, host) ∈ gNl) (hds : (parseMethodDescriptor y2.desc).map (fun d => d.parameters.length) = some 0) (hrest : (rest.map fun v => v.category).sum ≤ 8) (h : Cm G Abs y2 cc2 nL2 none d [.ref b] a (fun v a' => v = none ∧ V G Abs y cc nL rt (d + 1) a' q L (rest) post)) : V G Abs y cc nL rt (d + 1) a pc L (.ref b :: rest) post := s_callN [] q hd hq hm hw hds hrest h (fun v a' h9 => by obtain ⟨rfl, hz⟩ := h9; exact hz)
theorem s_V1v {b i ci N : Nat} {T : u_T} {v1 : Value} {rest : List Value} (q : Nat) (hd : decode cc pc = .ok (.invokevirtual i, 3)) (hq : pc + 3 = q) (hm : gMV y2 cc2 nL2 rt2) (hw : Cond.methodLink y.cls i y2 ∈ gTB) (hds : (parseMethodDescriptor y2.desc).map (fun d => d.parameters.length) = some 1) (hrest : (rest.map fun v => v.category).sum ≤ 8) (hr : ∀ H, Abs a H → ∃ fs, va_at (gD G) vwCl (b, .inr (ci, fs)) H) (hci : vwCl[ci]? = some (y2.cls, T, N)) (h : Cm G Abs y2 cc2 nL2 rt2 d [.ref b, v1] a (fun v a' => v = none ∧ V G Abs y cc nL rt (d + 1) a' q L (rest) post)) : V G Abs y cc nL rt (d + 1) a pc L (v1 :: .ref b :: rest) post := s_callV [v1] q hd hq hm hw hds hrest hr hci h (fun v a' h9 => by obtain ⟨rfl, hz⟩ := h9; exact hz)
theorem s_S1v {i : Nat} {v1 : Value} {rest : List Value} (q : Nat) (hd : decode cc pc = .ok (.invokestatic i, 3)) (hq : pc + 3 = q) (hm : gMS y2 cc2 nL2 rt2) (hy : y2.cls = y.cls) (hw : Cond.methodLink y.cls i y2 ∈ gTB) (hds : (parseMethodDescriptor y2.desc).map (fun d => d.parameters.length) = some 1) (hrest : (rest.map fun v => v.category).sum ≤ 8) (h : Cm G Abs y2 cc2 nL2 rt2 d [v1] a (fun v a' => v = none ∧ V G Abs y cc nL rt (d + 1) a' q L (rest) post)) : V G Abs y cc nL rt (d + 1) a pc L (v1 :: rest) post := s_callS [v1] q hd hq hm hy hw hds hrest h (fun v a' h9 => by obtain ⟨rfl, hz⟩ := h9; exact hz)
theorem s_I1 {b i : Nat} {v1 : Value} {rest : List Value} (q : Nat) (hd : decode cc pc = .ok (.invokespecial i, 3)) (hq : pc + 3 = q) (hm : gMI y2 cc2 nL2 none) (hw : Cond.methodLink y.cls i y2 ∈ gTB) (hds : (parseMethodDescriptor y2.desc).map (fun d => d.parameters.length) = some 1) (hrest : (rest.map fun v => v.category).sum ≤ 8) (h : Cm G Abs y2 cc2 nL2 none d [.ref b, v1] a (fun v a' => v = none ∧ V G Abs y cc nL rt (d + 1) a' q L (rest) post)) : V G Abs y cc nL rt (d + 1) a pc L (v1 :: .ref b :: rest) post := s_callI [v1] q hd hq hm hw hds hrest h (fun v a' h9 => by obtain ⟨rfl, hz⟩ := h9; exact hz)
theorem s_N1 {b i : Nat} {host : String} {v1 : Value} {rest : List Value} (q : Nat) (hd : decode cc pc = .ok (.invokespecial i, 3)) (hq : pc + 3 = q) (hm : gMI y2 cc2 nL2 none) (hw : (y.cls, i, y2, host) ∈ gNl) (hds : (parseMethodDescriptor y2.desc).map (fun d => d.parameters.length) = some 1) (hrest : (rest.map fun v => v.category).sum ≤ 8) (h : Cm G Abs y2 cc2 nL2 none d [.ref b, v1] a (fun v a' => v = none ∧ V G Abs y cc nL rt (d + 1) a' q L (rest) post)) : V G Abs y cc nL rt (d + 1) a pc L (v1 :: .ref b :: rest) post := s_callN [v1] q hd hq hm hw hds hrest h (fun v a' h9 => by obtain ⟨rfl, hz⟩ := h9; exact hz)
theorem s_V2v {b i ci N : Nat} {T : u_T} {v1 v2 : Value} {rest : List Value} (q : Nat) (hd : decode cc pc = .ok (.invokevirtual i, 3)) (hq : pc + 3 = q) (hm : gMV y2 cc2 nL2 rt2) (hw : Cond.methodLink y.cls i y2 ∈ gTB) (hds : (parseMethodDescriptor y2.desc).map (fun d => d.parameters.length) = some 2) (hrest : (rest.map fun v => v.category).sum ≤ 8) (hr : ∀ H, Abs a H → ∃ fs, va_at (gD G) vwCl (b, .inr (ci, fs)) H) (hci : vwCl[ci]? = some (y2.cls, T, N)) (h : Cm G Abs y2 cc2 nL2 rt2 d [.ref b, v1, v2] a (fun v a' => v = none ∧ V G Abs y cc nL rt (d + 1) a' q L (rest) post)) : V G Abs y cc nL rt (d + 1) a pc L (v2 :: v1 :: .ref b :: rest) post := s_callV [v1, v2] q hd hq hm hw hds hrest hr hci h (fun v a' h9 => by obtain ⟨rfl, hz⟩ := h9; exact hz)
theorem s_S2v {i : Nat} {v1 v2 : Value} {rest : List Value} (q : Nat) (hd : decode cc pc = .ok (.invokestatic i, 3)) (hq : pc + 3 = q) (hm : gMS y2 cc2 nL2 rt2) (hy : y2.cls = y.cls) (hw : Cond.methodLink y.cls i y2 ∈ gTB) (hds : (parseMethodDescriptor y2.desc).map (fun d => d.parameters.length) = some 2) (hrest : (rest.map fun v => v.category).sum ≤ 8) (h : Cm G Abs y2 cc2 nL2 rt2 d [v1, v2] a (fun v a' => v = none ∧ V G Abs y cc nL rt (d + 1) a' q L (rest) post)) : V G Abs y cc nL rt (d + 1) a pc L (v2 :: v1 :: rest) post := s_callS [v1, v2] q hd hq hm hy hw hds hrest h (fun v a' h9 => by obtain ⟨rfl, hz⟩ := h9; exact hz)
theorem s_V3v {b i ci N : Nat} {T : u_T} {v1 v2 v3 : Value} {rest : List Value} (q : Nat) (hd : decode cc pc = .ok (.invokevirtual i, 3)) (hq : pc + 3 = q) (hm : gMV y2 cc2 nL2 rt2) (hw : Cond.methodLink y.cls i y2 ∈ gTB) (hds : (parseMethodDescriptor y2.desc).map (fun d => d.parameters.length) = some 3) (hrest : (rest.map fun v => v.category).sum ≤ 8) (hr : ∀ H, Abs a H → ∃ fs, va_at (gD G) vwCl (b, .inr (ci, fs)) H) (hci : vwCl[ci]? = some (y2.cls, T, N)) (h : Cm G Abs y2 cc2 nL2 rt2 d [.ref b, v1, v2, v3] a (fun v a' => v = none ∧ V G Abs y cc nL rt (d + 1) a' q L (rest) post)) : V G Abs y cc nL rt (d + 1) a pc L (v3 :: v2 :: v1 :: .ref b :: rest) post := s_callV [v1, v2, v3] q hd hq hm hw hds hrest hr hci h (fun v a' h9 => by obtain ⟨rfl, hz⟩ := h9; exact hz)
theorem s_S3v {i : Nat} {v1 v2 v3 : Value} {rest : List Value} (q : Nat) (hd : decode cc pc = .ok (.invokestatic i, 3)) (hq : pc + 3 = q) (hm : gMS y2 cc2 nL2 rt2) (hy : y2.cls = y.cls) (hw : Cond.methodLink y.cls i y2 ∈ gTB) (hds : (parseMethodDescriptor y2.desc).map (fun d => d.parameters.length) = some 3) (hrest : (rest.map fun v => v.category).sum ≤ 8) (h : Cm G Abs y2 cc2 nL2 rt2 d [v1, v2, v3] a (fun v a' => v = none ∧ V G Abs y cc nL rt (d + 1) a' q L (rest) post)) : V G Abs y cc nL rt (d + 1) a pc L (v3 :: v2 :: v1 :: rest) post := s_callS [v1, v2, v3] q hd hq hm hy hw hds hrest h (fun v a' h9 => by obtain ⟨rfl, hz⟩ := h9; exact hz)
theorem s_V4v {b i ci N : Nat} {T : u_T} {v1 v2 v3 v4 : Value} {rest : List Value} (q : Nat) (hd : decode cc pc = .ok (.invokevirtual i, 3)) (hq : pc + 3 = q) (hm : gMV y2 cc2 nL2 rt2) (hw : Cond.methodLink y.cls i y2 ∈ gTB) (hds : (parseMethodDescriptor y2.desc).map (fun d => d.parameters.length) = some 4) (hrest : (rest.map fun v => v.category).sum ≤ 8) (hr : ∀ H, Abs a H → ∃ fs, va_at (gD G) vwCl (b, .inr (ci, fs)) H) (hci : vwCl[ci]? = some (y2.cls, T, N)) (h : Cm G Abs y2 cc2 nL2 rt2 d [.ref b, v1, v2, v3, v4] a (fun v a' => v = none ∧ V G Abs y cc nL rt (d + 1) a' q L (rest) post)) : V G Abs y cc nL rt (d + 1) a pc L (v4 :: v3 :: v2 :: v1 :: .ref b :: rest) post := s_callV [v1, v2, v3, v4] q hd hq hm hw hds hrest hr hci h (fun v a' h9 => by obtain ⟨rfl, hz⟩ := h9; exact hz)
theorem s_S4v {i : Nat} {v1 v2 v3 v4 : Value} {rest : List Value} (q : Nat) (hd : decode cc pc = .ok (.invokestatic i, 3)) (hq : pc + 3 = q) (hm : gMS y2 cc2 nL2 rt2) (hy : y2.cls = y.cls) (hw : Cond.methodLink y.cls i y2 ∈ gTB) (hds : (parseMethodDescriptor y2.desc).map (fun d => d.parameters.length) = some 4) (hrest : (rest.map fun v => v.category).sum ≤ 8) (h : Cm G Abs y2 cc2 nL2 rt2 d [v1, v2, v3, v4] a (fun v a' => v = none ∧ V G Abs y cc nL rt (d + 1) a' q L (rest) post)) : V G Abs y cc nL rt (d + 1) a pc L (v4 :: v3 :: v2 :: v1 :: rest) post := s_callS [v1, v2, v3, v4] q hd hq hm hy hw hds hrest h (fun v a' h9 => by obtain ⟨rfl, hz⟩ := h9; exact hz)
theorem s_V5v {b i ci N : Nat} {T : u_T} {v1 v2 v3 v4 v5 : Value} {rest : List Value} (q : Nat) (hd : decode cc pc = .ok (.invokevirtual i, 3)) (hq : pc + 3 = q) (hm : gMV y2 cc2 nL2 rt2) (hw : Cond.methodLink y.cls i y2 ∈ gTB) (hds : (parseMethodDescriptor y2.desc).map (fun d => d.parameters.length) = some 5) (hrest : (rest.map fun v => v.category).sum ≤ 8) (hr : ∀ H, Abs a H → ∃ fs, va_at (gD G) vwCl (b, .inr (ci, fs)) H) (hci : vwCl[ci]? = some (y2.cls, T, N)) (h : Cm G Abs y2 cc2 nL2 rt2 d [.ref b, v1, v2, v3, v4, v5] a (fun v a' => v = none ∧ V G Abs y cc nL rt (d + 1) a' q L (rest) post)) : V G Abs y cc nL rt (d + 1) a pc L (v5 :: v4 :: v3 :: v2 :: v1 :: .ref b :: rest) post := s_callV [v1, v2, v3, v4, v5] q hd hq hm hw hds hrest hr hci h (fun v a' h9 => by obtain ⟨rfl, hz⟩ := h9; exact hz)
theorem s_S5v {i : Nat} {v1 v2 v3 v4 v5 : Value} {rest : List Value} (q : Nat) (hd : decode cc pc = .ok (.invokestatic i, 3)) (hq : pc + 3 = q) (hm : gMS y2 cc2 nL2 rt2) (hy : y2.cls = y.cls) (hw : Cond.methodLink y.cls i y2 ∈ gTB) (hds : (parseMethodDescriptor y2.desc).map (fun d => d.parameters.length) = some 5) (hrest : (rest.map fun v => v.category).sum ≤ 8) (h : Cm G Abs y2 cc2 nL2 rt2 d [v1, v2, v3, v4, v5] a (fun v a' => v = none ∧ V G Abs y cc nL rt (d + 1) a' q L (rest) post)) : V G Abs y cc nL rt (d + 1) a pc L (v5 :: v4 :: v3 :: v2 :: v1 :: rest) post := s_callS [v1, v2, v3, v4, v5] q hd hq hm hy hw hds hrest h (fun v a' h9 => by obtain ⟨rfl, hz⟩ := h9; exact hz)
theorem s_V0r {b i ci N : Nat} {T : u_T} {rest : List Value} (q : Nat) (hd : decode cc pc = .ok (.invokevirtual i, 3)) (hq : pc + 3 = q) (hm : gMV y2 cc2 nL2 rt2) (hw : Cond.methodLink y.cls i y2 ∈ gTB) (hds : (parseMethodDescriptor y2.desc).map (fun d => d.parameters.length) = some 0) (hrest : (rest.map fun v => v.category).sum ≤ 8) (hr : ∀ H, Abs a H → ∃ fs, va_at (gD G) vwCl (b, .inr (ci, fs)) H) (hci : vwCl[ci]? = some (y2.cls, T, N)) (h : Cm G Abs y2 cc2 nL2 rt2 d [.ref b] a (fun v a' => ∃ z, v = some (.ref z) ∧ V G Abs y cc nL rt (d + 1) a' q L (.ref z :: rest) post)) : V G Abs y cc nL rt (d + 1) a pc L (.ref b :: rest) post := s_callV [] q hd hq hm hw hds hrest hr hci h (fun v a' h9 => by obtain ⟨z, rfl, hz⟩ := h9; exact hz)
theorem s_V1r {b i ci N : Nat} {T : u_T} {v1 : Value} {rest : List Value} (q : Nat) (hd : decode cc pc = .ok (.invokevirtual i, 3)) (hq : pc + 3 = q) (hm : gMV y2 cc2 nL2 rt2) (hw : Cond.methodLink y.cls i y2 ∈ gTB) (hds : (parseMethodDescriptor y2.desc).map (fun d => d.parameters.length) = some 1) (hrest : (rest.map fun v => v.category).sum ≤ 8) (hr : ∀ H, Abs a H → ∃ fs, va_at (gD G) vwCl (b, .inr (ci, fs)) H) (hci : vwCl[ci]? = some (y2.cls, T, N)) (h : Cm G Abs y2 cc2 nL2 rt2 d [.ref b, v1] a (fun v a' => ∃ z, v = some (.ref z) ∧ V G Abs y cc nL rt (d + 1) a' q L (.ref z :: rest) post)) : V G Abs y cc nL rt (d + 1) a pc L (v1 :: .ref b :: rest) post := s_callV [v1] q hd hq hm hw hds hrest hr hci h (fun v a' h9 => by obtain ⟨z, rfl, hz⟩ := h9; exact hz)
theorem s_V2r {b i ci N : Nat} {T : u_T} {v1 v2 : Value} {rest : List Value} (q : Nat) (hd : decode cc pc = .ok (.invokevirtual i, 3)) (hq : pc + 3 = q) (hm : gMV y2 cc2 nL2 rt2) (hw : Cond.methodLink y.cls i y2 ∈ gTB) (hds : (parseMethodDescriptor y2.desc).map (fun d => d.parameters.length) = some 2) (hrest : (rest.map fun v => v.category).sum ≤ 8) (hr : ∀ H, Abs a H → ∃ fs, va_at (gD G) vwCl (b, .inr (ci, fs)) H) (hci : vwCl[ci]? = some (y2.cls, T, N)) (h : Cm G Abs y2 cc2 nL2 rt2 d [.ref b, v1, v2] a (fun v a' => ∃ z, v = some (.ref z) ∧ V G Abs y cc nL rt (d + 1) a' q L (.ref z :: rest) post)) : V G Abs y cc nL rt (d + 1) a pc L (v2 :: v1 :: .ref b :: rest) post := s_callV [v1, v2] q hd hq hm hw hds hrest hr hci h (fun v a' h9 => by obtain ⟨z, rfl, hz⟩ := h9; exact hz)
theorem s_V3r {b i ci N : Nat} {T : u_T} {v1 v2 v3 : Value} {rest : List Value} (q : Nat) (hd : decode cc pc = .ok (.invokevirtual i, 3)) (hq : pc + 3 = q) (hm : gMV y2 cc2 nL2 rt2) (hw : Cond.methodLink y.cls i y2 ∈ gTB) (hds : (parseMethodDescriptor y2.desc).map (fun d => d.parameters.length) = some 3) (hrest : (rest.map fun v => v.category).sum ≤ 8) (hr : ∀ H, Abs a H → ∃ fs, va_at (gD G) vwCl (b, .inr (ci, fs)) H) (hci : vwCl[ci]? = some (y2.cls, T, N)) (h : Cm G Abs y2 cc2 nL2 rt2 d [.ref b, v1, v2, v3] a (fun v a' => ∃ z, v = some (.ref z) ∧ V G Abs y cc nL rt (d + 1) a' q L (.ref z :: rest) post)) : V G Abs y cc nL rt (d + 1) a pc L (v3 :: v2 :: v1 :: .ref b :: rest) post := s_callV [v1, v2, v3] q hd hq hm hw hds hrest hr hci h (fun v a' h9 => by obtain ⟨z, rfl, hz⟩ := h9; exact hz)
theorem s_V4r {b i ci N : Nat} {T : u_T} {v1 v2 v3 v4 : Value} {rest : List Value} (q : Nat) (hd : decode cc pc = .ok (.invokevirtual i, 3)) (hq : pc + 3 = q) (hm : gMV y2 cc2 nL2 rt2) (hw : Cond.methodLink y.cls i y2 ∈ gTB) (hds : (parseMethodDescriptor y2.desc).map (fun d => d.parameters.length) = some 4) (hrest : (rest.map fun v => v.category).sum ≤ 8) (hr : ∀ H, Abs a H → ∃ fs, va_at (gD G) vwCl (b, .inr (ci, fs)) H) (hci : vwCl[ci]? = some (y2.cls, T, N)) (h : Cm G Abs y2 cc2 nL2 rt2 d [.ref b, v1, v2, v3, v4] a (fun v a' => ∃ z, v = some (.ref z) ∧ V G Abs y cc nL rt (d + 1) a' q L (.ref z :: rest) post)) : V G Abs y cc nL rt (d + 1) a pc L (v4 :: v3 :: v2 :: v1 :: .ref b :: rest) post := s_callV [v1, v2, v3, v4] q hd hq hm hw hds hrest hr hci h (fun v a' h9 => by obtain ⟨z, rfl, hz⟩ := h9; exact hz)
theorem s_V5r {b i ci N : Nat} {T : u_T} {v1 v2 v3 v4 v5 : Value} {rest : List Value} (q : Nat) (hd : decode cc pc = .ok (.invokevirtual i, 3)) (hq : pc + 3 = q) (hm : gMV y2 cc2 nL2 rt2) (hw : Cond.methodLink y.cls i y2 ∈ gTB) (hds : (parseMethodDescriptor y2.desc).map (fun d => d.parameters.length) = some 5) (hrest : (rest.map fun v => v.category).sum ≤ 8) (hr : ∀ H, Abs a H → ∃ fs, va_at (gD G) vwCl (b, .inr (ci, fs)) H) (hci : vwCl[ci]? = some (y2.cls, T, N)) (h : Cm G Abs y2 cc2 nL2 rt2 d [.ref b, v1, v2, v3, v4, v5] a (fun v a' => ∃ z, v = some (.ref z) ∧ V G Abs y cc nL rt (d + 1) a' q L (.ref z :: rest) post)) : V G Abs y cc nL rt (d + 1) a pc L (v5 :: v4 :: v3 :: v2 :: v1 :: .ref b :: rest) post := s_callV [v1, v2, v3, v4, v5] q hd hq hm hw hds hrest hr hci h (fun v a' h9 => by obtain ⟨z, rfl, hz⟩ := h9; exact hz)
theorem s_V0n {b i ci N : Nat} {T : u_T} {rest : List Value} (q : Nat) (hd : decode cc pc = .ok (.invokevirtual i, 3)) (hq : pc + 3 = q) (hm : gMV y2 cc2 nL2 rt2) (hw : Cond.methodLink y.cls i y2 ∈ gTB) (hds : (parseMethodDescriptor y2.desc).map (fun d => d.parameters.length) = some 0) (hrest : (rest.map fun v => v.category).sum ≤ 8) (hr : ∀ H, Abs a H → ∃ fs, va_at (gD G) vwCl (b, .inr (ci, fs)) H) (hci : vwCl[ci]? = some (y2.cls, T, N)) (h : Cm G Abs y2 cc2 nL2 rt2 d [.ref b] a (fun v a' => ∃ z, v = some z ∧ V G Abs y cc nL rt (d + 1) a' q L (z :: rest) post)) : V G Abs y cc nL rt (d + 1) a pc L (.ref b :: rest) post := s_callV [] q hd hq hm hw hds hrest hr hci h (fun v a' h9 => by obtain ⟨z, rfl, hz⟩ := h9; exact hz)
theorem s_V1n {b i ci N : Nat} {T : u_T} {v1 : Value} {rest : List Value} (q : Nat) (hd : decode cc pc = .ok (.invokevirtual i, 3)) (hq : pc + 3 = q) (hm : gMV y2 cc2 nL2 rt2) (hw : Cond.methodLink y.cls i y2 ∈ gTB) (hds : (parseMethodDescriptor y2.desc).map (fun d => d.parameters.length) = some 1) (hrest : (rest.map fun v => v.category).sum ≤ 8) (hr : ∀ H, Abs a H → ∃ fs, va_at (gD G) vwCl (b, .inr (ci, fs)) H) (hci : vwCl[ci]? = some (y2.cls, T, N)) (h : Cm G Abs y2 cc2 nL2 rt2 d [.ref b, v1] a (fun v a' => ∃ z, v = some z ∧ V G Abs y cc nL rt (d + 1) a' q L (z :: rest) post)) : V G Abs y cc nL rt (d + 1) a pc L (v1 :: .ref b :: rest) post := s_callV [v1] q hd hq hm hw hds hrest hr hci h (fun v a' h9 => by obtain ⟨z, rfl, hz⟩ := h9; exact hz)
theorem s_V2n {b i ci N : Nat} {T : u_T} {v1 v2 : Value} {rest : List Value} (q : Nat) (hd : decode cc pc = .ok (.invokevirtual i, 3)) (hq : pc + 3 = q) (hm : gMV y2 cc2 nL2 rt2) (hw : Cond.methodLink y.cls i y2 ∈ gTB) (hds : (parseMethodDescriptor y2.desc).map (fun d => d.parameters.length) = some 2) (hrest : (rest.map fun v => v.category).sum ≤ 8) (hr : ∀ H, Abs a H → ∃ fs, va_at (gD G) vwCl (b, .inr (ci, fs)) H) (hci : vwCl[ci]? = some (y2.cls, T, N)) (h : Cm G Abs y2 cc2 nL2 rt2 d [.ref b, v1, v2] a (fun v a' => ∃ z, v = some z ∧ V G Abs y cc nL rt (d + 1) a' q L (z :: rest) post)) : V G Abs y cc nL rt (d + 1) a pc L (v2 :: v1 :: .ref b :: rest) post := s_callV [v1, v2] q hd hq hm hw hds hrest hr hci h (fun v a' h9 => by obtain ⟨z, rfl, hz⟩ := h9; exact hz)
theorem s_V3n {b i ci N : Nat} {T : u_T} {v1 v2 v3 : Value} {rest : List Value} (q : Nat) (hd : decode cc pc = .ok (.invokevirtual i, 3)) (hq : pc + 3 = q) (hm : gMV y2 cc2 nL2 rt2) (hw : Cond.methodLink y.cls i y2 ∈ gTB) (hds : (parseMethodDescriptor y2.desc).map (fun d => d.parameters.length) = some 3) (hrest : (rest.map fun v => v.category).sum ≤ 8) (hr : ∀ H, Abs a H → ∃ fs, va_at (gD G) vwCl (b, .inr (ci, fs)) H) (hci : vwCl[ci]? = some (y2.cls, T, N)) (h : Cm G Abs y2 cc2 nL2 rt2 d [.ref b, v1, v2, v3] a (fun v a' => ∃ z, v = some z ∧ V G Abs y cc nL rt (d + 1) a' q L (z :: rest) post)) : V G Abs y cc nL rt (d + 1) a pc L (v3 :: v2 :: v1 :: .ref b :: rest) post := s_callV [v1, v2, v3] q hd hq hm hw hds hrest hr hci h (fun v a' h9 => by obtain ⟨z, rfl, hz⟩ := h9; exact hz)
theorem s_V4n {b i ci N : Nat} {T : u_T} {v1 v2 v3 v4 : Value} {rest : List Value} (q : Nat) (hd : decode cc pc = .ok (.invokevirtual i, 3)) (hq : pc + 3 = q) (hm : gMV y2 cc2 nL2 rt2) (hw : Cond.methodLink y.cls i y2 ∈ gTB) (hds : (parseMethodDescriptor y2.desc).map (fun d => d.parameters.length) = some 4) (hrest : (rest.map fun v => v.category).sum ≤ 8) (hr : ∀ H, Abs a H → ∃ fs, va_at (gD G) vwCl (b, .inr (ci, fs)) H) (hci : vwCl[ci]? = some (y2.cls, T, N)) (h : Cm G Abs y2 cc2 nL2 rt2 d [.ref b, v1, v2, v3, v4] a (fun v a' => ∃ z, v = some z ∧ V G Abs y cc nL rt (d + 1) a' q L (z :: rest) post)) : V G Abs y cc nL rt (d + 1) a pc L (v4 :: v3 :: v2 :: v1 :: .ref b :: rest) post := s_callV [v1, v2, v3, v4] q hd hq hm hw hds hrest hr hci h (fun v a' h9 => by obtain ⟨z, rfl, hz⟩ := h9; exact hz)
theorem s_V5n {b i ci N : Nat} {T : u_T} {v1 v2 v3 v4 v5 : Value} {rest : List Value} (q : Nat) (hd : decode cc pc = .ok (.invokevirtual i, 3)) (hq : pc + 3 = q) (hm : gMV y2 cc2 nL2 rt2) (hw : Cond.methodLink y.cls i y2 ∈ gTB) (hds : (parseMethodDescriptor y2.desc).map (fun d => d.parameters.length) = some 5) (hrest : (rest.map fun v => v.category).sum ≤ 8) (hr : ∀ H, Abs a H → ∃ fs, va_at (gD G) vwCl (b, .inr (ci, fs)) H) (hci : vwCl[ci]? = some (y2.cls, T, N)) (h : Cm G Abs y2 cc2 nL2 rt2 d [.ref b, v1, v2, v3, v4, v5] a (fun v a' => ∃ z, v = some z ∧ V G Abs y cc nL rt (d + 1) a' q L (z :: rest) post)) : V G Abs y cc nL rt (d + 1) a pc L (v5 :: v4 :: v3 :: v2 :: v1 :: .ref b :: rest) post := s_callV [v1, v2, v3, v4, v5] q hd hq hm hw hds hrest hr hci h (fun v a' h9 => by obtain ⟨z, rfl, hz⟩ := h9; exact hz)
end CALLS
theorem ds_X0_init : (parseMethodDescriptor yX0_init.desc).map (fun d => d.parameters.length) = some 0 := by decide +kernel
theorem ds_X0_draw : (parseMethodDescriptor yX0_draw.desc).map (fun d => d.parameters.length) = some 1 := by decide +kernel
theorem ds_X1_init : (parseMethodDescriptor yX1_init.desc).map (fun d => d.parameters.length) = some 0 := by decide +kernel
theorem ds_X1_make : (parseMethodDescriptor yX1_make.desc).map (fun d => d.parameters.length) = some 2 := by decide +kernel
theorem ds_X1_checkOf : (parseMethodDescriptor yX1_checkOf.desc).map (fun d => d.parameters.length) = some 1 := by decide +kernel
theorem ds_X1_crcStep : (parseMethodDescriptor yX1_crcStep.desc).map (fun d => d.parameters.length) = some 1 := by decide +kernel
theorem ds_X1_judge : (parseMethodDescriptor yX1_judge.desc).map (fun d => d.parameters.length) = some 3 := by decide +kernel
theorem ds_X1_blindFlips : (parseMethodDescriptor yX1_blindFlips.desc).map (fun d => d.parameters.length) = some 3 := by decide +kernel
theorem ds_X1_blindCodes : (parseMethodDescriptor yX1_blindCodes.desc).map (fun d => d.parameters.length) = some 2 := by decide +kernel
theorem ds_X2_init : (parseMethodDescriptor yX2_init.desc).map (fun d => d.parameters.length) = some 0 := by decide +kernel
theorem ds_X2_many : (parseMethodDescriptor yX2_many.desc).map (fun d => d.parameters.length) = some 0 := by decide +kernel
theorem ds_X2_firstLength : (parseMethodDescriptor yX2_firstLength.desc).map (fun d => d.parameters.length) = some 0 := by decide +kernel
theorem ds_X2_firstFrames : (parseMethodDescriptor yX2_firstFrames.desc).map (fun d => d.parameters.length) = some 0 := by decide +kernel
theorem ds_X2_push : (parseMethodDescriptor yX2_push.desc).map (fun d => d.parameters.length) = some 2 := by decide +kernel
theorem ds_X2_dropFirst : (parseMethodDescriptor yX2_dropFirst.desc).map (fun d => d.parameters.length) = some 0 := by decide +kernel
theorem ds_X2_clear : (parseMethodDescriptor yX2_clear.desc).map (fun d => d.parameters.length) = some 0 := by decide +kernel
theorem ds_X2_copyFrom : (parseMethodDescriptor yX2_copyFrom.desc).map (fun d => d.parameters.length) = some 1 := by decide +kernel
theorem ds_X3_init : (parseMethodDescriptor yX3_init.desc).map (fun d => d.parameters.length) = some 0 := by decide +kernel
theorem ds_X3_forget : (parseMethodDescriptor yX3_forget.desc).map (fun d => d.parameters.length) = some 0 := by decide +kernel
theorem ds_X3_stage : (parseMethodDescriptor yX3_stage.desc).map (fun d => d.parameters.length) = some 1 := by decide +kernel
theorem ds_X3_commit : (parseMethodDescriptor yX3_commit.desc).map (fun d => d.parameters.length) = some 0 := by decide +kernel
theorem ds_X3_swapBack : (parseMethodDescriptor yX3_swapBack.desc).map (fun d => d.parameters.length) = some 1 := by decide +kernel
theorem ds_X4_init : (parseMethodDescriptor yX4_init.desc).map (fun d => d.parameters.length) = some 0 := by decide +kernel
theorem ds_X4_reset : (parseMethodDescriptor yX4_reset.desc).map (fun d => d.parameters.length) = some 1 := by decide +kernel
theorem ds_X4_copyFrom : (parseMethodDescriptor yX4_copyFrom.desc).map (fun d => d.parameters.length) = some 1 := by decide +kernel
theorem ds_X4_frameWasPut : (parseMethodDescriptor yX4_frameWasPut.desc).map (fun d => d.parameters.length) = some 1 := by decide +kernel
theorem ds_X4_accept : (parseMethodDescriptor yX4_accept.desc).map (fun d => d.parameters.length) = some 2 := by decide +kernel
theorem ds_X4_tear : (parseMethodDescriptor yX4_tear.desc).map (fun d => d.parameters.length) = some 0 := by decide +kernel
theorem ds_X4_giveInto : (parseMethodDescriptor yX4_giveInto.desc).map (fun d => d.parameters.length) = some 1 := by decide +kernel
theorem ds_X5_init : (parseMethodDescriptor yX5_init.desc).map (fun d => d.parameters.length) = some 1 := by decide +kernel
theorem ds_X5_has : (parseMethodDescriptor yX5_has.desc).map (fun d => d.parameters.length) = some 1 := by decide +kernel
theorem ds_X5_at : (parseMethodDescriptor yX5_at.desc).map (fun d => d.parameters.length) = some 1 := by decide +kernel
theorem ds_X5_set : (parseMethodDescriptor yX5_set.desc).map (fun d => d.parameters.length) = some 2 := by decide +kernel
theorem ds_X5_clear : (parseMethodDescriptor yX5_clear.desc).map (fun d => d.parameters.length) = some 0 := by decide +kernel
theorem ds_X5_add : (parseMethodDescriptor yX5_add.desc).map (fun d => d.parameters.length) = some 1 := by decide +kernel
theorem ds_X5_addAll : (parseMethodDescriptor yX5_addAll.desc).map (fun d => d.parameters.length) = some 3 := by decide +kernel
theorem ds_X5_makeRoom : (parseMethodDescriptor yX5_makeRoom.desc).map (fun d => d.parameters.length) = some 1 := by decide +kernel
theorem ds_X5_insertAt : (parseMethodDescriptor yX5_insertAt.desc).map (fun d => d.parameters.length) = some 2 := by decide +kernel
theorem ds_X5_removeAt : (parseMethodDescriptor yX5_removeAt.desc).map (fun d => d.parameters.length) = some 1 := by decide +kernel
theorem ds_X5_dropFirst : (parseMethodDescriptor yX5_dropFirst.desc).map (fun d => d.parameters.length) = some 1 := by decide +kernel
theorem ds_X5_copyFrom : (parseMethodDescriptor yX5_copyFrom.desc).map (fun d => d.parameters.length) = some 1 := by decide +kernel
theorem ds_X5_greatest : (parseMethodDescriptor yX5_greatest.desc).map (fun d => d.parameters.length) = some 0 := by decide +kernel
theorem ds_X6_init : (parseMethodDescriptor yX6_init.desc).map (fun d => d.parameters.length) = some 0 := by decide +kernel
theorem ds_X6_forget : (parseMethodDescriptor yX6_forget.desc).map (fun d => d.parameters.length) = some 0 := by decide +kernel
theorem ds_X6_copyFrom : (parseMethodDescriptor yX6_copyFrom.desc).map (fun d => d.parameters.length) = some 1 := by decide +kernel
theorem ds_X6_addPort : (parseMethodDescriptor yX6_addPort.desc).map (fun d => d.parameters.length) = some 1 := by decide +kernel
theorem ds_X6_checkBytes : (parseMethodDescriptor yX6_checkBytes.desc).map (fun d => d.parameters.length) = some 0 := by decide +kernel
theorem ds_X6_widestFrame : (parseMethodDescriptor yX6_widestFrame.desc).map (fun d => d.parameters.length) = some 1 := by decide +kernel
theorem ds_X7_init : (parseMethodDescriptor yX7_init.desc).map (fun d => d.parameters.length) = some 0 := by decide +kernel
theorem ds_X7_reset : (parseMethodDescriptor yX7_reset.desc).map (fun d => d.parameters.length) = some 1 := by decide +kernel
theorem ds_X7_copyFrom : (parseMethodDescriptor yX7_copyFrom.desc).map (fun d => d.parameters.length) = some 1 := by decide +kernel
theorem ds_X7_portAt : (parseMethodDescriptor yX7_portAt.desc).map (fun d => d.parameters.length) = some 1 := by decide +kernel
theorem ds_X7_pick : (parseMethodDescriptor yX7_pick.desc).map (fun d => d.parameters.length) = some 0 := by decide +kernel
theorem ds_X7_putFrames : (parseMethodDescriptor yX7_putFrames.desc).map (fun d => d.parameters.length) = some 2 := by decide +kernel
theorem ds_X7_putFrame : (parseMethodDescriptor yX7_putFrame.desc).map (fun d => d.parameters.length) = some 1 := by decide +kernel
theorem ds_X7_disturb : (parseMethodDescriptor yX7_disturb.desc).map (fun d => d.parameters.length) = some 1 := by decide +kernel
theorem ds_X7_readBytes : (parseMethodDescriptor yX7_readBytes.desc).map (fun d => d.parameters.length) = some 2 := by decide +kernel
theorem ds_X7_readMark : (parseMethodDescriptor yX7_readMark.desc).map (fun d => d.parameters.length) = some 1 := by decide +kernel
theorem ds_X7_messagesThere : (parseMethodDescriptor yX7_messagesThere.desc).map (fun d => d.parameters.length) = some 0 := by decide +kernel
theorem ds_X7_messagesWaiting : (parseMethodDescriptor yX7_messagesWaiting.desc).map (fun d => d.parameters.length) = some 0 := by decide +kernel
theorem ds_X7_bytesWaiting : (parseMethodDescriptor yX7_bytesWaiting.desc).map (fun d => d.parameters.length) = some 0 := by decide +kernel
theorem ds_X7_lostInAll : (parseMethodDescriptor yX7_lostInAll.desc).map (fun d => d.parameters.length) = some 0 := by decide +kernel
theorem ds_X7_tornInAll : (parseMethodDescriptor yX7_tornInAll.desc).map (fun d => d.parameters.length) = some 0 := by decide +kernel
theorem ds_X7_portWithMostLost : (parseMethodDescriptor yX7_portWithMostLost.desc).map (fun d => d.parameters.length) = some 0 := by decide +kernel
theorem ds_X7_eventsUnreadable : (parseMethodDescriptor yX7_eventsUnreadable.desc).map (fun d => d.parameters.length) = some 0 := by decide +kernel
theorem ds_X8_init : (parseMethodDescriptor yX8_init.desc).map (fun d => d.parameters.length) = some 0 := by decide +kernel
theorem ds_X8_widest : (parseMethodDescriptor yX8_widest.desc).map (fun d => d.parameters.length) = some 1 := by decide +kernel
theorem ds_X8_pack : (parseMethodDescriptor yX8_pack.desc).map (fun d => d.parameters.length) = some 3 := by decide +kernel
theorem ds_X8_runFrom : (parseMethodDescriptor yX8_runFrom.desc).map (fun d => d.parameters.length) = some 2 := by decide +kernel
theorem ds_X8_codeOf : (parseMethodDescriptor yX8_codeOf.desc).map (fun d => d.parameters.length) = some 4 := by decide +kernel
theorem ds_X8_reduce : (parseMethodDescriptor yX8_reduce.desc).map (fun d => d.parameters.length) = some 2 := by decide +kernel
theorem ds_X8_unpack : (parseMethodDescriptor yX8_unpack.desc).map (fun d => d.parameters.length) = some 5 := by decide +kernel
theorem ds_X8_runOf : (parseMethodDescriptor yX8_runOf.desc).map (fun d => d.parameters.length) = some 3 := by decide +kernel
theorem ds_X8_isTail : (parseMethodDescriptor yX8_isTail.desc).map (fun d => d.parameters.length) = some 3 := by decide +kernel
theorem ds_X8_zerosBehind : (parseMethodDescriptor yX8_zerosBehind.desc).map (fun d => d.parameters.length) = some 2 := by decide +kernel
theorem ds_X9_init : (parseMethodDescriptor yX9_init.desc).map (fun d => d.parameters.length) = some 0 := by decide +kernel
theorem ds_X9_firstFault : (parseMethodDescriptor yX9_firstFault.desc).map (fun d => d.parameters.length) = some 0 := by decide +kernel
theorem ds_X9_nextPart : (parseMethodDescriptor yX9_nextPart.desc).map (fun d => d.parameters.length) = some 0 := by decide +kernel
theorem ds_X9_endOf : (parseMethodDescriptor yX9_endOf.desc).map (fun d => d.parameters.length) = some 1 := by decide +kernel
theorem ds_X9_isLetter : (parseMethodDescriptor yX9_isLetter.desc).map (fun d => d.parameters.length) = some 1 := by decide +kernel
theorem ds_X9_isDigit : (parseMethodDescriptor yX9_isDigit.desc).map (fun d => d.parameters.length) = some 1 := by decide +kernel
theorem ds_X9_sortOfWord : (parseMethodDescriptor yX9_sortOfWord.desc).map (fun d => d.parameters.length) = some 0 := by decide +kernel
theorem ds_X9_isWord : (parseMethodDescriptor yX9_isWord.desc).map (fun d => d.parameters.length) = some 1 := by decide +kernel
theorem ds_X9_mayStand : (parseMethodDescriptor yX9_mayStand.desc).map (fun d => d.parameters.length) = some 1 := by decide +kernel
theorem ds_X9_tell : (parseMethodDescriptor yX9_tell.desc).map (fun d => d.parameters.length) = some 1 := by decide +kernel
theorem ds_X9_choice : (parseMethodDescriptor yX9_choice.desc).map (fun d => d.parameters.length) = some 3 := by decide +kernel
theorem ds_X9_number : (parseMethodDescriptor yX9_number.desc).map (fun d => d.parameters.length) = some 2 := by decide +kernel
theorem ds_X10_init : (parseMethodDescriptor yX10_init.desc).map (fun d => d.parameters.length) = some 0 := by decide +kernel
theorem ds_X10_begin : (parseMethodDescriptor yX10_begin.desc).map (fun d => d.parameters.length) = some 0 := by decide +kernel
theorem ds_X10_step : (parseMethodDescriptor yX10_step.desc).map (fun d => d.parameters.length) = some 1 := by decide +kernel
theorem ds_X10_find : (parseMethodDescriptor yX10_find.desc).map (fun d => d.parameters.length) = some 2 := by decide +kernel
theorem ds_X11_init : (parseMethodDescriptor yX11_init.desc).map (fun d => d.parameters.length) = some 0 := by decide +kernel
theorem ds_X11_feed : (parseMethodDescriptor yX11_feed.desc).map (fun d => d.parameters.length) = some 5 := by decide +kernel
theorem ds_X11_addFour : (parseMethodDescriptor yX11_addFour.desc).map (fun d => d.parameters.length) = some 1 := by decide +kernel
theorem ds_X11_end : (parseMethodDescriptor yX11_end.desc).map (fun d => d.parameters.length) = some 1 := by decide +kernel
theorem ds_X11_fault : (parseMethodDescriptor yX11_fault.desc).map (fun d => d.parameters.length) = some 0 := by decide +kernel
theorem ds_X11_line : (parseMethodDescriptor yX11_line.desc).map (fun d => d.parameters.length) = some 0 := by decide +kernel
theorem ds_X11_rule : (parseMethodDescriptor yX11_rule.desc).map (fun d => d.parameters.length) = some 1 := by decide +kernel
theorem ds_X11_framesThere : (parseMethodDescriptor yX11_framesThere.desc).map (fun d => d.parameters.length) = some 0 := by decide +kernel
theorem ds_X11_send : (parseMethodDescriptor yX11_send.desc).map (fun d => d.parameters.length) = some 1 := by decide +kernel
theorem ds_X11_put : (parseMethodDescriptor yX11_put.desc).map (fun d => d.parameters.length) = some 1 := by decide +kernel
theorem ds_X11_refuse : (parseMethodDescriptor yX11_refuse.desc).map (fun d => d.parameters.length) = some 1 := by decide +kernel
theorem ds_X11_byteAt : (parseMethodDescriptor yX11_byteAt.desc).map (fun d => d.parameters.length) = some 1 := by decide +kernel
theorem ds_X11_flip : (parseMethodDescriptor yX11_flip.desc).map (fun d => d.parameters.length) = some 2 := by decide +kernel
theorem ds_X11_isFlip : (parseMethodDescriptor yX11_isFlip.desc).map (fun d => d.parameters.length) = some 1 := by decide +kernel
theorem ds_X11_lose : (parseMethodDescriptor yX11_lose.desc).map (fun d => d.parameters.length) = some 1 := by decide +kernel
theorem ds_X11_insert : (parseMethodDescriptor yX11_insert.desc).map (fun d => d.parameters.length) = some 2 := by decide +kernel
theorem ds_X11_noise : (parseMethodDescriptor yX11_noise.desc).map (fun d => d.parameters.length) = some 2 := by decide +kernel
theorem ds_X11_read : (parseMethodDescriptor yX11_read.desc).map (fun d => d.parameters.length) = some 1 := by decide +kernel
theorem ds_X11_take : (parseMethodDescriptor yX11_take.desc).map (fun d => d.parameters.length) = some 1 := by decide +kernel
theorem ds_X11_hand : (parseMethodDescriptor yX11_hand.desc).map (fun d => d.parameters.length) = some 1 := by decide +kernel
theorem ds_X11_renew : (parseMethodDescriptor yX11_renew.desc).map (fun d => d.parameters.length) = some 1 := by decide +kernel
theorem ds_X11_channel : (parseMethodDescriptor yX11_channel.desc).map (fun d => d.parameters.length) = some 2 := by decide +kernel
theorem ds_X11_event : (parseMethodDescriptor yX11_event.desc).map (fun d => d.parameters.length) = some 2 := by decide +kernel
theorem ds_X11_stuff : (parseMethodDescriptor yX11_stuff.desc).map (fun d => d.parameters.length) = some 1 := by decide +kernel
theorem ds_X11_unstuff : (parseMethodDescriptor yX11_unstuff.desc).map (fun d => d.parameters.length) = some 1 := by decide +kernel
theorem ds_X11_isWay : (parseMethodDescriptor yX11_isWay.desc).map (fun d => d.parameters.length) = some 1 := by decide +kernel
theorem ds_X11_box : (parseMethodDescriptor yX11_box.desc).map (fun d => d.parameters.length) = some 1 := by decide +kernel
theorem ds_X11_shortest : (parseMethodDescriptor yX11_shortest.desc).map (fun d => d.parameters.length) = some 0 := by decide +kernel
theorem ds_X11_stuffedLength : (parseMethodDescriptor yX11_stuffedLength.desc).map (fun d => d.parameters.length) = some 1 := by decide +kernel
theorem ds_X11_bound : (parseMethodDescriptor yX11_bound.desc).map (fun d => d.parameters.length) = some 1 := by decide +kernel
theorem ds_X11_frame : (parseMethodDescriptor yX11_frame.desc).map (fun d => d.parameters.length) = some 2 := by decide +kernel
theorem ds_X11_harm : (parseMethodDescriptor yX11_harm.desc).map (fun d => d.parameters.length) = some 2 := by decide +kernel
theorem ds_X11_blind : (parseMethodDescriptor yX11_blind.desc).map (fun d => d.parameters.length) = some 1 := by decide +kernel
theorem ds_X11_cost : (parseMethodDescriptor yX11_cost.desc).map (fun d => d.parameters.length) = some 2 := by decide +kernel
theorem ds_X11_share : (parseMethodDescriptor yX11_share.desc).map (fun d => d.parameters.length) = some 2 := by decide +kernel
theorem ds_X11_flushed : (parseMethodDescriptor yX11_flushed.desc).map (fun d => d.parameters.length) = some 1 := by decide +kernel
theorem ds_X11_undo : (parseMethodDescriptor yX11_undo.desc).map (fun d => d.parameters.length) = some 0 := by decide +kernel
theorem ds_X11_image : (parseMethodDescriptor yX11_image.desc).map (fun d => d.parameters.length) = some 0 := by decide +kernel
theorem ds_X11_back : (parseMethodDescriptor yX11_back.desc).map (fun d => d.parameters.length) = some 0 := by decide +kernel
theorem ds_X11_status : (parseMethodDescriptor yX11_status.desc).map (fun d => d.parameters.length) = some 1 := by decide +kernel
theorem ds_X11_most : (parseMethodDescriptor yX11_most.desc).map (fun d => d.parameters.length) = some 1 := by decide +kernel
theorem ds_X11_longestFrame : (parseMethodDescriptor yX11_longestFrame.desc).map (fun d => d.parameters.length) = some 0 := by decide +kernel
theorem ds_X11_count : (parseMethodDescriptor yX11_count.desc).map (fun d => d.parameters.length) = some 1 := by decide +kernel
theorem ds_X12_in : (parseMethodDescriptor yX12_in.desc).map (fun d => d.parameters.length) = some 3 := by decide +kernel
theorem ds_X12_init : (parseMethodDescriptor yX12_init.desc).map (fun d => d.parameters.length) = some 0 := by decide +kernel
theorem ds_X12_thrown : (parseMethodDescriptor yX12_thrown.desc).map (fun d => d.parameters.length) = some 0 := by decide +kernel
theorem ds_X12_four : (parseMethodDescriptor yX12_four.desc).map (fun d => d.parameters.length) = some 1 := by decide +kernel
theorem ds_X12_feed : (parseMethodDescriptor yX12_feed.desc).map (fun d => d.parameters.length) = some 5 := by decide +kernel
theorem ds_X12_end : (parseMethodDescriptor yX12_end.desc).map (fun d => d.parameters.length) = some 1 := by decide +kernel
theorem ds_X12_here : (parseMethodDescriptor yX12_here.desc).map (fun d => d.parameters.length) = some 0 := by decide +kernel
theorem ds_X12_isSmall : (parseMethodDescriptor yX12_isSmall.desc).map (fun d => d.parameters.length) = some 1 := by decide +kernel
theorem ds_X12_isDigit : (parseMethodDescriptor yX12_isDigit.desc).map (fun d => d.parameters.length) = some 1 := by decide +kernel
theorem ds_X12_next : (parseMethodDescriptor yX12_next.desc).map (fun d => d.parameters.length) = some 0 := by decide +kernel
theorem ds_X12_bad : (parseMethodDescriptor yX12_bad.desc).map (fun d => d.parameters.length) = some 0 := by decide +kernel
theorem ds_X12_isWord : (parseMethodDescriptor yX12_isWord.desc).map (fun d => d.parameters.length) = some 1 := by decide +kernel
theorem ds_X12_takesSemicolon : (parseMethodDescriptor yX12_takesSemicolon.desc).map (fun d => d.parameters.length) = some 0 := by decide +kernel
theorem ds_X12_takesNumber : (parseMethodDescriptor yX12_takesNumber.desc).map (fun d => d.parameters.length) = some 2 := by decide +kernel
theorem ds_X12_isNew : (parseMethodDescriptor yX12_isNew.desc).map (fun d => d.parameters.length) = some 1 := by decide +kernel
theorem ds_X12_takesOne : (parseMethodDescriptor yX12_takesOne.desc).map (fun d => d.parameters.length) = some 3 := by decide +kernel
theorem ds_X12_readsPiece : (parseMethodDescriptor yX12_readsPiece.desc).map (fun d => d.parameters.length) = some 0 := by decide +kernel
theorem ds_X12_reads : (parseMethodDescriptor yX12_reads.desc).map (fun d => d.parameters.length) = some 0 := by decide +kernel
theorem ds_X12_fault : (parseMethodDescriptor yX12_fault.desc).map (fun d => d.parameters.length) = some 0 := by decide +kernel
theorem ds_X12_ofChannel : (parseMethodDescriptor yX12_ofChannel.desc).map (fun d => d.parameters.length) = some 2 := by decide +kernel
theorem ds_X12_its : (parseMethodDescriptor yX12_its.desc).map (fun d => d.parameters.length) = some 2 := by decide +kernel
theorem ds_X12_lay : (parseMethodDescriptor yX12_lay.desc).map (fun d => d.parameters.length) = some 3 := by decide +kernel
theorem ds_X12_more : (parseMethodDescriptor yX12_more.desc).map (fun d => d.parameters.length) = some 3 := by decide +kernel
theorem ds_X12_line : (parseMethodDescriptor yX12_line.desc).map (fun d => d.parameters.length) = some 0 := by decide +kernel
theorem ds_X12_puts : (parseMethodDescriptor yX12_puts.desc).map (fun d => d.parameters.length) = some 1 := by decide +kernel
theorem ds_X12_runFrom : (parseMethodDescriptor yX12_runFrom.desc).map (fun d => d.parameters.length) = some 1 := by decide +kernel
theorem ds_X12_block : (parseMethodDescriptor yX12_block.desc).map (fun d => d.parameters.length) = some 3 := by decide +kernel
theorem ds_X12_isPair : (parseMethodDescriptor yX12_isPair.desc).map (fun d => d.parameters.length) = some 1 := by decide +kernel
theorem ds_X12_stuffs : (parseMethodDescriptor yX12_stuffs.desc).map (fun d => d.parameters.length) = some 1 := by decide +kernel
theorem ds_X12_plainly : (parseMethodDescriptor yX12_plainly.desc).map (fun d => d.parameters.length) = some 1 := by decide +kernel
theorem ds_X12_copies : (parseMethodDescriptor yX12_copies.desc).map (fun d => d.parameters.length) = some 2 := by decide +kernel
theorem ds_X12_isCode : (parseMethodDescriptor yX12_isCode.desc).map (fun d => d.parameters.length) = some 2 := by decide +kernel
theorem ds_X12_unstuffs : (parseMethodDescriptor yX12_unstuffs.desc).map (fun d => d.parameters.length) = some 1 := by decide +kernel
theorem ds_X12_lettersPlain : (parseMethodDescriptor yX12_lettersPlain.desc).map (fun d => d.parameters.length) = some 0 := by decide +kernel
theorem ds_X12_stuff : (parseMethodDescriptor yX12_stuff.desc).map (fun d => d.parameters.length) = some 1 := by decide +kernel
theorem ds_X12_unstuff : (parseMethodDescriptor yX12_unstuff.desc).map (fun d => d.parameters.length) = some 1 := by decide +kernel
theorem ds_X12_box : (parseMethodDescriptor yX12_box.desc).map (fun d => d.parameters.length) = some 1 := by decide +kernel
theorem ds_X12_shortest : (parseMethodDescriptor yX12_shortest.desc).map (fun d => d.parameters.length) = some 0 := by decide +kernel
theorem ds_X12_mostOf : (parseMethodDescriptor yX12_mostOf.desc).map (fun d => d.parameters.length) = some 1 := by decide +kernel
theorem ds_X12_bound : (parseMethodDescriptor yX12_bound.desc).map (fun d => d.parameters.length) = some 1 := by decide +kernel
theorem ds_X12_checkLong : (parseMethodDescriptor yX12_checkLong.desc).map (fun d => d.parameters.length) = some 0 := by decide +kernel
theorem ds_X12_checkOf : (parseMethodDescriptor yX12_checkOf.desc).map (fun d => d.parameters.length) = some 1 := by decide +kernel
theorem ds_X12_frameIs : (parseMethodDescriptor yX12_frameIs.desc).map (fun d => d.parameters.length) = some 1 := by decide +kernel
theorem ds_X12_partLong : (parseMethodDescriptor yX12_partLong.desc).map (fun d => d.parameters.length) = some 0 := by decide +kernel
theorem ds_X12_keepsRow : (parseMethodDescriptor yX12_keepsRow.desc).map (fun d => d.parameters.length) = some 1 := by decide +kernel
theorem ds_X12_keeps : (parseMethodDescriptor yX12_keeps.desc).map (fun d => d.parameters.length) = some 0 := by decide +kernel
theorem ds_X12_putAside : (parseMethodDescriptor yX12_putAside.desc).map (fun d => d.parameters.length) = some 0 := by decide +kernel
theorem ds_X12_takeBack : (parseMethodDescriptor yX12_takeBack.desc).map (fun d => d.parameters.length) = some 0 := by decide +kernel
theorem ds_X12_undo : (parseMethodDescriptor yX12_undo.desc).map (fun d => d.parameters.length) = some 0 := by decide +kernel
theorem ds_X12_refuses : (parseMethodDescriptor yX12_refuses.desc).map (fun d => d.parameters.length) = some 1 := by decide +kernel
theorem ds_X12_status : (parseMethodDescriptor yX12_status.desc).map (fun d => d.parameters.length) = some 1 := by decide +kernel
theorem ds_X12_isChannel : (parseMethodDescriptor yX12_isChannel.desc).map (fun d => d.parameters.length) = some 1 := by decide +kernel
theorem ds_X12_waitAt : (parseMethodDescriptor yX12_waitAt.desc).map (fun d => d.parameters.length) = some 1 := by decide +kernel
theorem ds_X12_send : (parseMethodDescriptor yX12_send.desc).map (fun d => d.parameters.length) = some 1 := by decide +kernel
theorem ds_X12_pick : (parseMethodDescriptor yX12_pick.desc).map (fun d => d.parameters.length) = some 0 := by decide +kernel
theorem ds_X12_laysFrame : (parseMethodDescriptor yX12_laysFrame.desc).map (fun d => d.parameters.length) = some 1 := by decide +kernel
theorem ds_X12_shiftsWaiting : (parseMethodDescriptor yX12_shiftsWaiting.desc).map (fun d => d.parameters.length) = some 1 := by decide +kernel
theorem ds_X12_putsOne : (parseMethodDescriptor yX12_putsOne.desc).map (fun d => d.parameters.length) = some 0 := by decide +kernel
theorem ds_X12_canPut : (parseMethodDescriptor yX12_canPut.desc).map (fun d => d.parameters.length) = some 0 := by decide +kernel
theorem ds_X12_put : (parseMethodDescriptor yX12_put.desc).map (fun d => d.parameters.length) = some 1 := by decide +kernel
theorem ds_X12_isByte : (parseMethodDescriptor yX12_isByte.desc).map (fun d => d.parameters.length) = some 1 := by decide +kernel
theorem ds_X12_byteAt : (parseMethodDescriptor yX12_byteAt.desc).map (fun d => d.parameters.length) = some 1 := by decide +kernel
theorem ds_X12_loses : (parseMethodDescriptor yX12_loses.desc).map (fun d => d.parameters.length) = some 1 := by decide +kernel
theorem ds_X12_inserts : (parseMethodDescriptor yX12_inserts.desc).map (fun d => d.parameters.length) = some 2 := by decide +kernel
theorem ds_X12_flip : (parseMethodDescriptor yX12_flip.desc).map (fun d => d.parameters.length) = some 2 := by decide +kernel
theorem ds_X12_lose : (parseMethodDescriptor yX12_lose.desc).map (fun d => d.parameters.length) = some 1 := by decide +kernel
theorem ds_X12_insert : (parseMethodDescriptor yX12_insert.desc).map (fun d => d.parameters.length) = some 2 := by decide +kernel
theorem ds_X12_draw : (parseMethodDescriptor yX12_draw.desc).map (fun d => d.parameters.length) = some 1 := by decide +kernel
theorem ds_X12_noisy : (parseMethodDescriptor yX12_noisy.desc).map (fun d => d.parameters.length) = some 0 := by decide +kernel
theorem ds_X12_noise : (parseMethodDescriptor yX12_noise.desc).map (fun d => d.parameters.length) = some 2 := by decide +kernel
theorem ds_X12_torn : (parseMethodDescriptor yX12_torn.desc).map (fun d => d.parameters.length) = some 1 := by decide +kernel
theorem ds_X12_hereAt : (parseMethodDescriptor yX12_hereAt.desc).map (fun d => d.parameters.length) = some 1 := by decide +kernel
theorem ds_X12_ends : (parseMethodDescriptor yX12_ends.desc).map (fun d => d.parameters.length) = some 1 := by decide +kernel
theorem ds_X12_takesFrame : (parseMethodDescriptor yX12_takesFrame.desc).map (fun d => d.parameters.length) = some 0 := by decide +kernel
theorem ds_X12_event : (parseMethodDescriptor yX12_event.desc).map (fun d => d.parameters.length) = some 5 := by decide +kernel
theorem ds_X12_marks : (parseMethodDescriptor yX12_marks.desc).map (fun d => d.parameters.length) = some 0 := by decide +kernel
theorem ds_X12_readsByte : (parseMethodDescriptor yX12_readsByte.desc).map (fun d => d.parameters.length) = some 1 := by decide +kernel
theorem ds_X12_readsBytes : (parseMethodDescriptor yX12_readsBytes.desc).map (fun d => d.parameters.length) = some 1 := by decide +kernel
theorem ds_X12_read : (parseMethodDescriptor yX12_read.desc).map (fun d => d.parameters.length) = some 1 := by decide +kernel
theorem ds_X12_event_ : (parseMethodDescriptor yX12_event_.desc).map (fun d => d.parameters.length) = some 2 := by decide +kernel
theorem ds_X12_take : (parseMethodDescriptor yX12_take.desc).map (fun d => d.parameters.length) = some 1 := by decide +kernel
theorem ds_X12_hand : (parseMethodDescriptor yX12_hand.desc).map (fun d => d.parameters.length) = some 1 := by decide +kernel
theorem ds_X12_renew : (parseMethodDescriptor yX12_renew.desc).map (fun d => d.parameters.length) = some 1 := by decide +kernel
theorem ds_X12_channel : (parseMethodDescriptor yX12_channel.desc).map (fun d => d.parameters.length) = some 2 := by decide +kernel
theorem ds_X12_laysFrames : (parseMethodDescriptor yX12_laysFrames.desc).map (fun d => d.parameters.length) = some 0 := by decide +kernel
theorem ds_X12_frameAt : (parseMethodDescriptor yX12_frameAt.desc).map (fun d => d.parameters.length) = some 1 := by decide +kernel
theorem ds_X12_frame : (parseMethodDescriptor yX12_frame.desc).map (fun d => d.parameters.length) = some 2 := by decide +kernel
theorem ds_X12_blind : (parseMethodDescriptor yX12_blind.desc).map (fun d => d.parameters.length) = some 1 := by decide +kernel
theorem ds_X12_thereAll : (parseMethodDescriptor yX12_thereAll.desc).map (fun d => d.parameters.length) = some 0 := by decide +kernel
theorem ds_X12_sumOf : (parseMethodDescriptor yX12_sumOf.desc).map (fun d => d.parameters.length) = some 1 := by decide +kernel
theorem ds_X12_harm : (parseMethodDescriptor yX12_harm.desc).map (fun d => d.parameters.length) = some 2 := by decide +kernel
theorem ds_X12_cost : (parseMethodDescriptor yX12_cost.desc).map (fun d => d.parameters.length) = some 2 := by decide +kernel
theorem ds_X12_share : (parseMethodDescriptor yX12_share.desc).map (fun d => d.parameters.length) = some 2 := by decide +kernel
theorem ds_X12_flushed : (parseMethodDescriptor yX12_flushed.desc).map (fun d => d.parameters.length) = some 1 := by decide +kernel
theorem ds_X12_image : (parseMethodDescriptor yX12_image.desc).map (fun d => d.parameters.length) = some 0 := by decide +kernel
theorem ds_X12_back : (parseMethodDescriptor yX12_back.desc).map (fun d => d.parameters.length) = some 0 := by decide +kernel
theorem ds_X12_rule : (parseMethodDescriptor yX12_rule.desc).map (fun d => d.parameters.length) = some 1 := by decide +kernel
theorem ds_X12_mostLost : (parseMethodDescriptor yX12_mostLost.desc).map (fun d => d.parameters.length) = some 0 := by decide +kernel
theorem ds_X12_broken : (parseMethodDescriptor yX12_broken.desc).map (fun d => d.parameters.length) = some 0 := by decide +kernel
theorem ds_X12_longestFrame : (parseMethodDescriptor yX12_longestFrame.desc).map (fun d => d.parameters.length) = some 0 := by decide +kernel
theorem ds_X12_waitingBytes : (parseMethodDescriptor yX12_waitingBytes.desc).map (fun d => d.parameters.length) = some 0 := by decide +kernel
theorem ds_X12_greatestByte : (parseMethodDescriptor yX12_greatestByte.desc).map (fun d => d.parameters.length) = some 0 := by decide +kernel
theorem ds_X12_most : (parseMethodDescriptor yX12_most.desc).map (fun d => d.parameters.length) = some 1 := by decide +kernel
theorem ds_X12_count : (parseMethodDescriptor yX12_count.desc).map (fun d => d.parameters.length) = some 1 := by decide +kernel
theorem ds_J9_max_7cf53 : (parseMethodDescriptor yJ9_max_7cf53.desc).map (fun d => d.parameters.length) = some 2 := by decide +kernel
theorem ds_J9_min_7cf53 : (parseMethodDescriptor yJ9_min_7cf53.desc).map (fun d => d.parameters.length) = some 2 := by decide +kernel
theorem ds_J0_length_8abf5 : (parseMethodDescriptor yJ0_length_8abf5.desc).map (fun d => d.parameters.length) = some 0 := by decide +kernel
theorem ds_J0_charAt_5068e : (parseMethodDescriptor yJ0_charAt_5068e.desc).map (fun d => d.parameters.length) = some 1 := by decide +kernel
theorem ds_J0_coder_7d493 : (parseMethodDescriptor yJ0_coder_7d493.desc).map (fun d => d.parameters.length) = some 0 := by decide +kernel
theorem ds_J0_isLatin1_aae02 : (parseMethodDescriptor yJ0_isLatin1_aae02.desc).map (fun d => d.parameters.length) = some 0 := by decide +kernel
theorem ds_J0_checkIndex_df160 : (parseMethodDescriptor yJ0_checkIndex_df160.desc).map (fun d => d.parameters.length) = some 2 := by decide +kernel
theorem ds_J1_charAt_3b067 : (parseMethodDescriptor yJ1_charAt_3b067.desc).map (fun d => d.parameters.length) = some 2 := by decide +kernel
theorem ds_J2_getChar_3b067 : (parseMethodDescriptor yJ2_getChar_3b067.desc).map (fun d => d.parameters.length) = some 2 := by decide +kernel
theorem ds_J2_length_9d52b : (parseMethodDescriptor yJ2_length_9d52b.desc).map (fun d => d.parameters.length) = some 1 := by decide +kernel
theorem ds_J2_charAt_3b067 : (parseMethodDescriptor yJ2_charAt_3b067.desc).map (fun d => d.parameters.length) = some 2 := by decide +kernel
theorem ds_J2_checkIndex_2214a : (parseMethodDescriptor yJ2_checkIndex_2214a.desc).map (fun d => d.parameters.length) = some 2 := by decide +kernel
theorem ds_J3_checkIndex_8e157 : (parseMethodDescriptor yJ3_checkIndex_8e157.desc).map (fun d => d.parameters.length) = some 3 := by decide +kernel
theorem ds_L_channel : (parseMethodDescriptor yL_channel.desc).map (fun d => d.parameters.length) = some 4 := by decide +kernel
theorem ds_L_law : (parseMethodDescriptor yL_law.desc).map (fun d => d.parameters.length) = some 1 := by decide +kernel
