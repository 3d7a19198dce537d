/-! ===== a walk to any end; QuietLine.channel where it throws ===== -/
abbrev OM : Type := Nat → Nat → List Frame → Array Value → State → State → Prop
def VZ {α : Type} (G : GT) (Abs : α → Heap → Prop) (y : MethodName) (cc : ByteArray) (nL : Nat) (rt : Option FieldType) (d : Nat) (a : α) (pc : Nat) (L : List (Option Value)) (st : List Value) (Ω : OM) : Prop :=
  ∀ (n u : Nat) (p : Program) (e : Env) (s : State) (m : MethodId) (args : Array Value) (below : List Frame) (meth : Method) (c : Code) (H : Heap) (locs : List Loc) (ls : Array Slot),
    gCtx G y cc nL rt n u p s m args meth c → (∀ x ∈ c.exceptionTable.toList, False) → gBase G H → n ≤ H.size → gs H (gB G) = u + gs H n → Abs a H → (∀ q ∈ locs, gB G ≤ q.base) → lv_has ls nL (lvl 0 L) →
    W p (gL G) e (gR G d n u) s m args below meth c H locs (H.size - n) (gs H n) (Ω n u below args s) (F0 m pc ls st)
section VZR
variable {α : Type} {G : GT} {Abs : α → Heap → Prop} {y : MethodName} {cc : ByteArray} {nL : Nat} {rt : Option FieldType} {d : Nat} {a : α} {pc : Nat} {L : List (Option Value)} {st : List Value} {Ω : OM} {y2 : MethodName} {cc2 : ByteArray} {nL2 : Nat} {rt2 : Option FieldType}
theorem z_iload_n {i : Fin 4} {z : Int} (q : Nat) (hd : decode cc pc = .ok (.iload_n i, 1)) (hq : pc + 1 = q) (hv : L[(i : Nat)]? = some (some (vi z))) (k : VZ G Abs y cc nL rt d a q L (vi z :: st) Ω) : VZ G Abs y cc nL rt d a pc L st Ω := by
  subst hq
  intro n u p e s m args below meth c H locs ls C E hB hn hg hA hl hL
  exact lv_iload_n C.1.1 C.1.2.1 hd rfl (lvl_at hL hv) (k n u p e s m args below meth c H locs ls C E hB hn hg hA hl hL)
theorem z_aload_n {i : Fin 4} {z : Nat} (q : Nat) (hd : decode cc pc = .ok (.aload_n i, 1)) (hq : pc + 1 = q) (hv : L[(i : Nat)]? = some (some (.ref z))) (k : VZ G Abs y cc nL rt d a q L (.ref z :: st) Ω) : VZ G Abs y cc nL rt d a pc L st Ω := by
  subst hq
  intro n u p e s m args below meth c H locs ls C E hB hn hg hA hl hL
  exact lv_aload_n C.1.1 C.1.2.1 hd rfl (lvl_at hL hv) (k n u p e s m args below meth c H locs ls C E hB hn hg hA hl hL)
theorem z_aload_nN {i : Fin 4} (q : Nat) (hd : decode cc pc = .ok (.aload_n i, 1)) (hq : pc + 1 = q) (hv : L[(i : Nat)]? = some (some .null)) (k : VZ G Abs y cc nL rt d a q L (.null :: st) Ω) : VZ G Abs y cc nL rt d a pc L st Ω := by
  subst hq
  intro n u p e s m args below meth c H locs ls C E hB hn hg hA hl hL
  exact lv_aload_nN C.1.1 C.1.2.1 hd rfl (lvl_at hL hv) (k n u p e s m args below meth c H locs ls C E hB hn hg hA hl hL)
theorem z_astore_n {i : Fin 4} {z : Nat} (q : Nat) (hd : decode cc pc = .ok (.astore_n i, 1)) (hq : pc + 1 = q) (hn1 : (i : Nat) < nL) (hc : cat1 L (i : Nat) = true) (k : VZ G Abs y cc nL rt d a q (L.set (i : Nat) (some (.ref z))) st Ω) : VZ G Abs y cc nL rt d a pc L (.ref z :: st) Ω := by
  subst hq
  intro n u p e s m args below meth c H locs ls C E hB hn hg hA hl hL
  exact lv_astore_n C.1.1 C.1.2.1 hd rfl hL hn1 rfl fun ls2 hL2 => k n u p e s m args below meth c H locs ls2 C E hB hn hg hA hl (lvl_has hc hL2)
theorem z_astore_nN {i : Fin 4} (q : Nat) (hd : decode cc pc = .ok (.astore_n i, 1)) (hq : pc + 1 = q) (hn1 : (i : Nat) < nL) (hc : cat1 L (i : Nat) = true) (k : VZ G Abs y cc nL rt d a q (L.set (i : Nat) (some .null)) st Ω) : VZ G Abs y cc nL rt d a pc L (.null :: st) Ω := by
  subst hq
  intro n u p e s m args below meth c H locs ls C E hB hn hg hA hl hL
  exact lv_astore_nN C.1.1 C.1.2.1 hd rfl hL hn1 rfl fun ls2 hL2 => k n u p e s m args below meth c H locs ls2 C E hB hn hg hA hl (lvl_has hc hL2)
theorem z_ifnonnull {z : Nat} {off : Int} (r : Nat) (hd : decode cc pc = .ok (.ifnonnull off, 3)) (hr : (pc : Int) + off = (r : Int)) (k : VZ G Abs y cc nL rt d a r L st Ω) : VZ G Abs y cc nL rt d a pc L (.ref z :: st) Ω := by
  intro n u p e s m args below meth c H locs ls C E hB hn hg hA hl hL
  exact lv_ifnonnull C.1.1 C.1.2.1 hd hr (k n u p e s m args below meth c H locs ls C E hB hn hg hA hl hL)
theorem z_ifnonnullN {off : Int} (q : Nat) (hd : decode cc pc = .ok (.ifnonnull off, 3)) (hq : pc + 3 = q) (k : VZ G Abs y cc nL rt d a q L st Ω) : VZ G Abs y cc nL rt d a pc L (.null :: st) Ω := by
  subst hq
  intro n u p e s m args below meth c H locs ls C E hB hn hg hA hl hL
  exact lv_ifnonnullN C.1.1 C.1.2.1 hd (k n u p e s m args below meth c H locs ls C E hB hn hg hA hl hL)
theorem z_tabOut {x : Int} {dflt lo hi : Int} {offs : Array Int} {len : Nat} (r : Nat) (hd : decode cc pc = .ok (.tableswitch dflt lo hi offs, len)) (h : x < lo ∨ hi < x) (hx : rg x) (hr : (pc : Int) + dflt = (r : Int)) (k : VZ G Abs y cc nL rt d a r L st Ω) : VZ G Abs y cc nL rt d a pc L (vi x :: st) Ω := by
  intro n u p e s m args below meth c H locs ls C E hB hn hg hA hl hL
  exact lv_tableOut C.1.1 C.1.2.1 hd (by rw [rI hx]; exact h) hr (k n u p e s m args below meth c H locs ls C E hB hn hg hA hl hL)
theorem z_callV {K : Option Value → α → Prop} {b i ci N : Nat} {T : u_T} (As : List Value) {rest : List Value} (q : Nat) (hd : decode cc pc = .ok (.invokevirtual i, 3)) (hq : pc + 3 = q) (hm : gMV y2 cc2 nL2 rt2) (hw : Cond.methodLink y.cls i y2 ∈ gTB) (hds : (parseMethodDescriptor y2.desc).map (fun d => d.parameters.length) = some As.length) (hrest : (rest.map fun v => v.category).sum ≤ 8) (hr : ∀ H, Abs a H → ∃ fs, va_at (gD G) vwCl (b, .inr (ci, fs)) H) (hci : vwCl[ci]? = some (y2.cls, T, N))
    (h : Cm G Abs y2 cc2 nL2 rt2 d (.ref b :: As) a K) (k : ∀ v a', K v a' → VZ G Abs y cc nL rt (d + 1) a' q L (v.toList ++ rest) Ω) : VZ G Abs y cc nL rt (d + 1) a pc L (As.reverse ++ .ref b :: rest) Ω := by
  subst hq
  intro n u p e s m args below meth c H locs ls C E hB hn hg hA hl hL
  have hM := h H.size (gs H (gB G))
  have cw := cwV (R := gR G (d + 1) n u) (rm := gR G d H.size (gs H (gB G))) (own := y.cls) (index := i) (C := y2.cls) (ws := Cond.code y2 cc2 nL2 rt2 :: gTB) As.length C.1.2.2.2.2 (goodTB (by
    intro w hw1
    simp only [wsV, List.cons_append, List.nil_append, List.mem_cons] at hw1
    rcases hw1 with rfl | rfl | rfl | rfl | rfl | hw1
    · exact hw
    · exact hm.2.1
    · exact hm.2.2.1
    · exact hm.2.2.2.1
    · exact hm.1
    · exact hw1)) rfl rfl rfl ⟨rfl, hm.2.2.2.2.1.1, hm.2.2.2.2.1.2, hds⟩ (gR_fit hm.2.2.2.2.2 _ _)
  obtain ⟨fs, r, h1, cell, q1, q2, q3, q4⟩ := hr H hA
  have hfc : s.vm.findClass y2.cls = some cell.cls := by
    have := (C.2.2.2.2.1.1.1 ci _ hci).2.1
    rw [q2]
    exact this
  have hrun := va_runV (g := F0 m pc ls (As.reverse ++ .ref b :: rest)) (p := p) (l := gL G) (e := e) (below := below) (meth := meth) (H := H) (locs := locs) (cells := H.size - n) (slots := gs H n) C.1 hM cw ⟨gPc_blind G Abs _ _ _ a, ⟨cell, q1, by rw [q3]; rfl, hfc⟩, gPre C hB hA (.ref b :: As)⟩ rfl rfl hL.1 rfl (lv_room hrest) hd (gR_pay (d := d) hB hn hg)
  intro T hT X
  obtain ⟨v, st₀, t, T', Lc, h0, X', hLc, e1, e2, ⟨v', a', ev, hp, hB', hA'⟩, hgo⟩ := hrun T hT X
  cases ev
  have X2 := stand_tight X'
  have hs : s.heap.size = n := C.2.2.2.2.2.1
  have hu : gs s.heap (gB G) = u := C.2.2.2.2.2.2.1
  have hg2 := gs_stand X2 (b := gB G) C.2.2.2.2.2.2.2.1
  have h2 : s.heap.size ≤ T'.heap.size := X'.same.2.1
  rw [e1, hu, hs] at hg2
  rw [e1, hs] at h2
  rw [e1, hs] at X2
  obtain ⟨t2, a1, b1⟩ := k v a' hp n u p e s m args below meth c t.heap (locs ++ Lc) ls C E hB' h2 hg2 hA' (fun q hq => (List.mem_append.mp hq).elim (hl q) (hLc q)) hL T' e1 X2
  exact ⟨t2, hgo t2 a1, b1⟩
end VZR
/-- one more cell at the most, what stood stands -/
theorem gs_more {H H' : Heap} {b : Nat} (hb : b ≤ H.size) (h1 : ∀ q : Nat, q < H.size → H'[q]? = H[q]?) : gs H' b = gs H b + gs H' H.size := by
  rw [gs_split H' hb, gs_split H hb, gs_self, Nat.add_zero]
  congr 2
  apply List.ext_getElem?
  intro i
  rw [List.getElem?_map, List.getElem?_map, List.getElem?_take, List.getElem?_take]
  split
  · rename_i hi
    rw [List.getElem?_drop, List.getElem?_drop, Array.getElem?_toList, Array.getElem?_toList, h1 (b + i) (by omega)]
  · rfl
theorem AP_more {G : GT} {F : HS} {T : Nat → Nat} {N : Nat → Nat → Int} {R : Nat → List Int} {P : Nat → Nat → Option Nat} {S : Nat → Int64} {cn un : Nat} {H H' : Heap} (hA : AP G F (T, N, R, P, S, cn, un) H) (hB : gBase G H) (h0 : H.size ≤ H'.size) (h1 : ∀ q : Nat, q < H.size → H'[q]? = H[q]?) (h2 : H'.size ≤ H.size + 1) (h3 : gs H' H.size ≤ 6) (hN : cn + 1 ≤ gN G) (hU : un + 6 ≤ gU G) : AP G F (T, N, R, P, S, cn + 1, un + 6) H' ∧ gBase G H' := by
  obtain ⟨⟨σ, nn, uu⟩, hA1, cp, cq, hR⟩ := hA
  have e1 : H.size = nn := hA1.1
  have e2 : gs H (gB G) ≤ uu := hA1.2.1
  have e3 := gs_more hB.1 h1
  have hR : RelQ G F σ nn uu cp cq T N R P S cn un := hR
  obtain ⟨cp', cq', hR', -⟩ := RQ.grow (σ' := σ) (nn' := H'.size) (uu' := uu + gs H' H.size) hR (RelQ.lt (F := F) hA1) (fun _ _ => rfl) (by omega) (by omega) (by omega) (by omega)
  obtain ⟨k1, k2, k3, k4, k5, k6, k7, k8, k9⟩ := hR'
  refine ⟨⟨(σ, H'.size, uu + gs H' H.size), ⟨rfl, by show gs H' (gB G) ≤ uu + gs H' H.size; omega, fun x c hx => ?_⟩, cp', cq', k1, k2, k3, k4, k5, (by show H'.size + psum (potC T cq') H'.size ≤ cn + 1; omega), (by show uu + gs H' H.size + psum (potU T cq') H'.size ≤ un + 6; omega), hN, hU⟩, ?_, by omega, by omega, fun q hq => ?_⟩
  · obtain ⟨q1, q2⟩ := hA1.2.2 x c hx
    exact ⟨q1, q2.kept (h1 x q2.lt)⟩
  · have := hB.1
    omega
  · rw [h1 q (by have := hB.1; omega)]
    exact hB.2.2.2 q hq
/-- where a method throws: a NoSuchElementException, the picture is a -/
def gXC {α : Type} (G : GT) (Abs : α → Heap → Prop) (postX : α → Prop) : String → State → State → Prop := fun E _ t => E = nsN ∧ ∃ a, postX a ∧ gBase G t.heap ∧ Abs a t.heap
def CmX {α : Type} (G : GT) (Abs : α → Heap → Prop) (y : MethodName) (cc : ByteArray) (nL : Nat) (rt : Option FieldType) (d : Nat) (av : List Value) (a : α) (post : Option Value → α → Prop) (postX : α → Prop) : Prop :=
  ∀ n u : Nat, vx_Met (gL G) y (Cond.code y cc nL rt :: gTB) (gR G d n u) (gPc G Abs av n u a) (gQ G Abs post) (gXC G Abs postX) (gN G - n) (gU G - u) (fun q => gB G ≤ q)
def gΩX {α : Type} (G : GT) (Abs : α → Heap → Prop) (post : Option Value → α → Prop) (postX : α → Prop) : OM := fun n u below args s => vx_MQ below (gQ G Abs post) (gXC G Abs postX) args s (gN G - n) (gU G - u) (fun q => gB G ≤ q)
section CMX
variable {α β : Type} {G : GT} {Abs : α → Heap → Prop} {Abs2 : β → Heap → Prop} {y : MethodName} {cc : ByteArray} {nL : Nat} {rt : Option FieldType} {d : Nat}
theorem CmX_of {av : List Value} {a : α} {post : Option Value → α → Prop} {postX : α → Prop} (h : Cm G Abs y cc nL rt d av a post) : CmX G Abs y cc nL rt d av a post postX := by
  intro n u p e ha hf hc s m args below hfr happ hP hK
  obtain ⟨k, o, r1, r2, r3, ⟨q1, L, r5⟩⟩ := h n u p e ha hf hc s m _ below hfr happ hP hK
  exact ⟨k, o, r1, r2, r3, Or.inl ⟨q1, L, r5⟩⟩
theorem CmX_lift {av : List Value} {b : β} {post2 : Option Value → β → Prop} {postX2 : β → Prop} (h : ∀ H, Abs2 b H → ∃ a : α, Abs a H ∧ CmX G Abs y cc nL rt d av a (fun v a' => ∃ b', (∀ H, Abs a' H → Abs2 b' H) ∧ post2 v b') (fun a' => ∃ b', (∀ H, Abs a' H → Abs2 b' H) ∧ postX2 b')) : CmX G Abs2 y cc nL rt d av b post2 postX2 := by
  intro n u p e ha hf hc s m args below hfr happ hP hK
  obtain ⟨rfl, h1, h2, h3, h4, h5⟩ := hP
  obtain ⟨a, hA, hC⟩ := h _ h5
  obtain ⟨k, o, r1, r2, r3, hq⟩ := hC n u p e ha hf hc s m _ below hfr happ ⟨rfl, h1, h2, h3, h4, hA⟩ hK
  refine ⟨k, o, r1, r2, r3, ?_⟩
  rcases hq with ⟨⟨v, a', e1, ⟨b', q1, q2⟩, q3, q4⟩, L, r5⟩ | ⟨x, e1, E, ce, L, ⟨e2, a', ⟨b', q1, q2⟩, q3, q4⟩, r5⟩
  · exact Or.inl ⟨⟨v, b', e1, q2, q3, q1 _ q4⟩, L, r5⟩
  · exact Or.inr ⟨x, e1, E, ce, L, ⟨e2, b', q2, q3, q1 _ q4⟩, r5⟩
theorem CmX_intro {av : List Value} {a : α} {L : List (Option Value)} {post : Option Value → α → Prop} {postX : α → Prop} (hy : plainName y.cls = true) (hav : (lg_sl av).length ≤ nL) (hL : lvl 0 L = lv_args 0 av) (h : VZ G Abs y cc nL rt d a 0 L [] (gΩX G Abs post postX)) : CmX G Abs y cc nL rt d av a post postX := by
  intro n u
  refine vx_ofW (cc := cc) (maxL := nL) (ret := rt) hy rfl ?_
  intro p e s m args below meth c s₁ B hml htab hv
  obtain ⟨rfl, hsz, hu, hb, hK, hA⟩ := hv
  have hts := atoms_spec (ws := Cond.code y cc nL rt :: gTB) B.pre
  have hown : s.vm.findClass y.cls = some m.cls := findClass_of_methodNamed B.named
  have hC : gCtx G y cc nL rt n u p s m av.toArray meth c := ⟨⟨B.exec, B.bytes, hml, hown, fun w hw => hts w (List.mem_cons_of_mem _ hw)⟩, B.returns, B.notSynchronized, (name_of_methodNamed B.named B.method).1, hK, hsz, hu, hb⟩
  have hl := lv_entry av (n := nL) hav
  rw [lg_entry_eq]
  have g0 : gs s.heap n = 0 := by rw [← hsz, gs_self]
  have h1 := h n u p e s m av.toArray below meth c s.heap [] _ hC htab hb (Nat.le_of_eq hsz.symm) (by rw [hu, g0]; rfl) hA (fun q hq => by cases hq) (by rw [hL]; exact hl)
  exact W.cs (by omega) g0.symm h1
end CMX
/-! ===== the words of that throw ===== -/
def nsB : List Cond := [.declares (Bundle.initS nsR), .declares (Bundle.initS "java/lang/Exception"), .declares (Bundle.initS Bundle.tN)]
theorem ns_in : ∀ w ∈ (nsAt RX11 248).filter goodWord, w ∈ gTB := gTB_list (ps := [20, 1035, 1044, 1046, 1049, 1051, 1036, 1037, 30, 31, 1038, 1043, 1047, 1067, 1025, 1068, 1027, 1069, 1029, 1039, 1041, 1031, 1063, 1064, 1066, 1031, 1054, 1055, 1056, 1057, 1057, 1058, 1059, 1060, 1060, 1061, 1062, 1063, 1053, 1014, 1022, 1023, 1024, 1026, 1028, 1030, 1032, 1034, 1033]) (by decide +kernel) (by decide +kernel)
theorem ns_out : ∀ w ∈ (nsAt RX11 248).filter (fun w => !goodWord w), w ∈ nsB := by decide +kernel
theorem ns_good : ∀ w ∈ Cond.classLink RX11 244 nsN :: Cond.initialized nsN :: nsAt RX11 248, vx_ot w = true := by decide +kernel
section NSZ
variable {G : GT} {F : HS} {d : Nat} {T : Nat → Nat} {N : Nat → Nat → Int} {R : Nat → List Int} {P : Nat → Nat → Option Nat} {S : Nat → Int64} {cn un : Nat} {post : Option Value → PT → Prop} {postX : PT → Prop} {L : List (Option Value)}
theorem ns_hat {n u : Nat} {y : MethodName} {cc : ByteArray} {nL : Nat} {rt : Option FieldType} {p : Program} {s : State} {m : MethodId} {args : Array Value} {meth : Method} {c : Code} (C : gCtx G y cc nL rt n u p s m args meth c) : ∀ w ∈ nsAt RX11 248, w.before args s = true := by
  have hE : gE G s := C.2.2.2.2.1.2.2.2.1
  refine vx_hat (B := nsB) (fun w hw => C.1.2.2.2.2 w (ns_in w hw)) ns_out ?_
  refine vx_c (va_Nw.use rfl (hE.2.2.1 _ (by simp [nsR]))) (vx_c (va_Nw.use rfl (hE.2.2.1 _ (by simp))) (vx_c (va_Nw.use rfl (hE.2.2.1 _ (by simp))) vx_n))
theorem z_thrA (hl : (gL G).stackTraces = false) (hN : cn + 1 ≤ gN G) (hU : un + 6 ≤ gU G) (hpx : postX (T, N, R, P, S, cn + 1, un + 6)) : VZ G (AP G F) yX11_channel cX11_channel 4 (some .int) (d + 6) (T, N, R, P, S, cn, un) 13 L [] (gΩX G (AP G F) post postX) := by
  intro n u p e s m args below meth c H locs ls C E hB hn hg hA hl1 hL
  have hE : gE G s := C.2.2.2.2.1.2.2.2.1
  have hs : s.heap.size = n := C.2.2.2.2.2.1
  have hBs : gBase G s.heap := C.2.2.2.2.2.2.2
  have hpay := gR_pay (d := d + 5) hB hn hg
  obtain ⟨⟨σ, nn, uu⟩, hA1, cp, cq, k1, k2, k3, k4, k5, k6, k7, k8, k9⟩ := id hA
  have e1 : H.size = nn := hA1.1
  have e2 : gs H (gB G) ≤ uu := hA1.2.1
  have k6 : nn + psum (potC T cq) nn ≤ cn := k6
  have k7 : uu + psum (potU T cq) nn ≤ un := k7
  refine ns_throwS (A := fun q => gB G ≤ q) C.1.1 C.1.2.1 hl (own := RX11) (text := "no such channel") (ik := 244) (is := 246) (ic := 248) (sa := gAK G 11) C.1.2.2.2.1 (C.1.2.2.2.2 _ cl_X11_244) (C.1.2.2.2.2 _ it_java_util_NoSuchElementException) (C.2.2.2.2.1.2.2.2.2 11 _ rfl).1 (ns_hat C) ns_good (hE.2.1.1.kept (fun a _ hq => hBs.2.2.2 a (by omega))) (hE.2.1.2.kept (fun a _ hq => hBs.2.2.2 a (by omega))) ⟨by omega, fun q _ hq => by rw [hB.2.2.2 q (by omega), hBs.2.2.2 q (by omega)], hl1⟩ (by rw [C.1.2.2.1]; exact hL.1) dX11_channel_13 dX11_channel_16 dX11_channel_17 dX11_channel_19 dX11_channel_22 (fun x hx => (E x hx).elim) (by show 5 < d + 6; omega) (by show _ ≤ 36 * (d + 6); simp; omega) (by show _ ≤ gN G - n; omega) (by show _ ≤ gU G - u; omega) C.2.2.1 (fun t _ h1 h2 h3 h4 => ?_) hl1 (by omega) (by omega)
  obtain ⟨q1, q2⟩ := AP_more hA hB h1 h2 h3 h4 hN hU
  exact ⟨rfl, _, hpx, q2, q1⟩
theorem z_thrB (hl : (gL G).stackTraces = false) (hN : cn + 1 ≤ gN G) (hU : un + 6 ≤ gU G) (hpx : postX (T, N, R, P, S, cn + 1, un + 6)) : VZ G (AP G F) yX11_channel cX11_channel 4 (some .int) (d + 6) (T, N, R, P, S, cn, un) 157 L [] (gΩX G (AP G F) post postX) := by
  intro n u p e s m args below meth c H locs ls C E hB hn hg hA hl1 hL
  have hE : gE G s := C.2.2.2.2.1.2.2.2.1
  have hs : s.heap.size = n := C.2.2.2.2.2.1
  have hBs : gBase G s.heap := C.2.2.2.2.2.2.2
  have hpay := gR_pay (d := d + 5) hB hn hg
  obtain ⟨⟨σ, nn, uu⟩, hA1, cp, cq, k1, k2, k3, k4, k5, k6, k7, k8, k9⟩ := id hA
  have e1 : H.size = nn := hA1.1
  have e2 : gs H (gB G) ≤ uu := hA1.2.1
  have k6 : nn + psum (potC T cq) nn ≤ cn := k6
  have k7 : uu + psum (potU T cq) nn ≤ un := k7
  refine ns_throwSW (A := fun q => gB G ≤ q) C.1.1 C.1.2.1 hl (own := RX11) (text := "no such what") (ik := 244) (is := 275) (ic := 248) (sa := gAK G 12) C.1.2.2.2.1 (C.1.2.2.2.2 _ cl_X11_244) (C.1.2.2.2.2 _ it_java_util_NoSuchElementException) (C.2.2.2.2.1.2.2.2.2 12 _ rfl).1 (ns_hat C) ns_good (hE.2.1.1.kept (fun a _ hq => hBs.2.2.2 a (by omega))) (hE.2.1.2.kept (fun a _ hq => hBs.2.2.2 a (by omega))) ⟨by omega, fun q _ hq => by rw [hB.2.2.2 q (by omega), hBs.2.2.2 q (by omega)], hl1⟩ (by rw [C.1.2.2.1]; exact hL.1) dX11_channel_157 dX11_channel_160 dX11_channel_161 dX11_channel_164 dX11_channel_167 (fun x hx => (E x hx).elim) (by show 5 < d + 6; omega) (by show _ ≤ 36 * (d + 6); simp; omega) (by show _ ≤ gN G - n; omega) (by show _ ≤ gU G - u; omega) C.2.2.1 (fun t _ h1 h2 h3 h4 => ?_) hl1 (by omega) (by omega)
  obtain ⟨q1, q2⟩ := AP_more hA hB h1 h2 h3 h4 hN hU
  exact ⟨rfl, _, hpx, q2, q1⟩
theorem z_now {y : MethodName} {cc : ByteArray} {nL : Nat} {rt : Option FieldType} {pc : Nat} {st : List Value} {x i z : Nat} {Ω : OM} (q : Nat) (hd : decode cc pc = .ok (.getfield i, 3)) (hq : pc + 3 = q) (hw : Cond.fieldLink y.cls i (TX11 10).1 (TX11 10).2.1 (TX11 10).2.2.1 ∈ gTB) (hT : T x = 12) (hP : P x 10 = some z) (k : VZ G (AP G F) y cc nL rt d (T, N, R, P, S, cn, un) q L (.ref z :: st) Ω) : VZ G (AP G F) y cc nL rt d (T, N, R, P, S, cn, un) pc L (.ref x :: st) Ω := by
  subst hq
  intro n u p e s m args below meth c H locs ls C E hB hn hg hA hl1 hL
  obtain ⟨⟨σ, nn, uu⟩, hA1, cp, cq, k1, kr⟩ := id hA
  have hσ := k1 x _ (cP_ob (G := G) hT (by decide))
  exact va_get C.1.1 C.1.2.1 C.1.2.2.2.2 lay_X11 C.1.2.2.2.1 C.2.2.2.2.1.1 (P1 (hA1.2.2 x _ hσ).2) 0 rfl (C := RX11) (T := TX11) (N := 13) rfl 10 (by decide) (C.1.2.2.2.2 _ hw) (fun _ h => h) (v := .ref z) (by show some (va_rf (P x 10)) = _; rw [hP]; rfl) hd (k n u p e s m args below meth c H locs ls C E hB hn hg hA hl1 hL)
/-- it throws where the document has no answer -/
theorem u_channelX {q c0 u0 : Nat} {Y : SY} {b z w : Int} (hl : (gL G).stackTraces = false) (hz : rg z) (hv : rg w) (hm : RepP q c0 u0 (T, N, R, P, S, cn, un) Y) (hw : WfSy b Y) (hN : c0 + 1 ≤ gN G) (hU : u0 + 6 ≤ gU G) (hc : aChan Y z w = none) (hpx : ∀ a', RepP q (c0 + 1) (u0 + 6) a' Y → postX a') : CmX G (AP G F) yX11_channel cX11_channel 4 (some .int) (d + 6) [.ref q, vi z, vi w] (T, N, R, P, S, cn, un) post postX := by
  obtain ⟨tp, bx, hd, rf, il, ru, tl, s, ps, im⟩ := Y
  obtain ⟨nw, nx, h⟩ := hm
  have hro := h.ro
  have hp9 : postX (T, N, R, P, S, cn + 1, un + 6) := by
    refine hpx _ ⟨nw, nx, ?_⟩
    obtain ⟨a1, a2, a3, a4, a5, a6, a7, a8, a9, a10, a11, a12, a13⟩ := h
    exact ⟨a1, a2, a3, a4, a5, a6, a7, a8, a9, a10, a11, a12, by omega, by omega⟩
  obtain ⟨⟨t0, t1, t2, t3, t4⟩, ⟨t5, t6, t7, t8, t9, t10⟩, ⟨t11, t12, t13, t14⟩, v0, v1, v2, v3, v4, v5⟩ := h.cx
  obtain ⟨-, -, -, -, wil, -, w0, -, w1⟩ := hw
  unfold aChan at hc
  dsimp only at hc
  have hy : ¬ (il = 1 ∧ 0 ≤ z ∧ z < ru 5 ∧ 0 ≤ w ∧ w ≤ 11) := fun hy => by
    rw [if_pos hy] at hc
    cases hc
  refine CmX_intro (L := [some (.ref q), some (vi z), some (vi w), none]) (by decide +kernel) (Nat.le_of_ble_eq_true rfl) rfl ?_
  refine z_aload_n 1 dX11_channel_0 rfl rfl ?_
  refine z_now 4 dX11_channel_1 rfl fl_X11_70 t0 v4 ?_
  refine z_iload_n 5 dX11_channel_4 rfl rfl ?_
  refine z_callV [vi z] 8 dX11_channel_5 rfl km_X7_portAt ml_X11_171 ds_X7_portAt (Nat.le_of_ble_eq_true rfl) (q_rec v0) rfl (q_portAt (post := fun v a' => a' = (T, N, R, P, S, cn, un) ∧ ((0 ≤ z ∧ z < chOf il ru ∧ ∃ x, v = some (.ref x)) ∨ v = some .null)) h.pa.ns h.pa.nr.2.2.2.1.2.2.1 h.pa.c4 hz (fun g1 g2 => ⟨rfl, Or.inl ⟨g1, g2, _, rfl⟩⟩) (fun g2 => ⟨rfl, Or.inr rfl⟩)) ?_
  rintro v a' ⟨rfl, ⟨g1, g2, x, rfl⟩ | rfl⟩
  · refine z_astore_n 9 dX11_channel_8 rfl (Nat.le_of_ble_eq_true rfl) rfl ?_
    refine z_aload_n 10 dX11_channel_9 rfl rfl ?_
    refine z_ifnonnull 23 dX11_channel_10 rfl ?_
    refine z_iload_n 24 dX11_channel_23 rfl rfl ?_
    refine z_tabOut 157 dX11_channel_24 ?_ hv rfl (z_thrB hl (by omega) (by omega) hp9)
    by_cases hil : il = 1
    · subst hil
      have hch : chOf 1 ru = (ru 5).toNat := rfl
      rw [hch] at g2
      by_cases g3 : 0 ≤ w
      · by_cases g4 : w ≤ 11
        · exact absurd ⟨rfl, g1, by omega, g3, g4⟩ hy
        · right; omega
      · left; omega
    · have hch : chOf il ru = 0 := by unfold chOf; rw [if_neg hil]
      rw [hch] at g2
      omega
  · refine z_astore_nN 9 dX11_channel_8 rfl (Nat.le_of_ble_eq_true rfl) rfl ?_
    refine z_aload_nN 10 dX11_channel_9 rfl rfl ?_
    refine z_ifnonnullN 13 dX11_channel_10 rfl ?_
    exact z_thrA hl (by omega) (by omega) hp9
end NSZ
