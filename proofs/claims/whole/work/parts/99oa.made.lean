/-! ===== a NoSuchElementException: made by makers one above the other (its own hands on at entry 13), then thrown ===== -/
def nsN : String := "java/util/NoSuchElementException"
def nsR : String := "java/lang/RuntimeException"
/-- Throwable's fields of which the object must know the places: four that the makers write, one that they ask -/
def neF : List (String × String) := [("cause", "Ljava/lang/Throwable;"), ("stackTrace", Bundle.steD), ("suppressedExceptions", Bundle.listD), ("detailMessage", "Ljava/lang/String;"), ("backtrace", "Ljava/lang/Object;")]
/-- the makers' words, the object's words, the words of what Throwable itself keeps -/
def neM : List Cond := Bundle.throwableAtoms ++ (Bundle.throwableSAtoms ++ (Bundle.passSAtoms nsN nsR 13 prog_28_method_4_code ++ Bundle.chainSAtoms nsR ["java/lang/Exception"]))
def neO : List Cond := Cond.instantiable nsN 6 :: ([Bundle.tFill0, Bundle.tFill].map (fun t => Cond.selects nsN t t) ++ neF.map (fun f => Cond.lays nsN Bundle.tN f.1 f.2))
def neS : List Cond := [.isRef (.static Bundle.tN "UNASSIGNED_STACK" Bundle.steD), .isRef (.static Bundle.tN "SUPPRESSED_SENTINEL" Bundle.listD), .fieldLink Bundle.tN 198 Bundle.tN "backtrace" "Ljava/lang/Object;", .lays Bundle.tN Bundle.tN "backtrace" "Ljava/lang/Object;"]
def nsAtoms (own : String) (ic : Nat) : List Cond := neM ++ Cond.methodLink own ic (Bundle.initS nsN) :: (neO ++ neS)
def nsAt (own : String) (ic : Nat) : List Cond := (nsAtoms own ic).filter vx_no
section NEW
variable {args : Array Value} {s : State} {l : Launch} {e : Env}
theorem ne_plat (hA : l.admits e) : e.platform.frameOwnsMonitors = true ∧ e.platform.finalization = false ∧ e.platform.magicAccessors = ({} : Platform).magicAccessors := by
  rw [hA.platform]; exact ⟨rfl, rfl, rfl⟩
/-- the makers, from the object's own class up to the one below Throwable -/
theorem ne_kin {pl : Platform} (hpl : pl.magicAccessors = ({} : Platform).magicAccessors) {top : MethodId} (htop : s.methodNamed? (Bundle.initS Bundle.tN) = some top) (h : ∀ w ∈ neM, w.before args s = true) :
    ∃ Ps : List PassC, Ps.length = 3 ∧ (∀ P ∈ Ps, P.LinksS pl s) ∧ PassesOn top (Ps.map (·.toPassT)) ∧ s.methodNamed? (Bundle.initS nsN) = some (firstOf top (Ps.map (·.toPassT))) := by
  have hup := fun w hw => h w (List.mem_append_right _ (List.mem_append_right _ hw))
  rcases PassC.ofS_atoms (X := nsN) (Y := nsR) (index := 13) hpl (by decide +kernel) (by decide) (by decide +kernel) (by decide +kernel) (by decide +kernel) (by decide +kernel) (fun w hw => hup w (List.mem_append_left _ hw)) with ⟨A, lA, mA, sA⟩
  rcases Bundle.chainS hpl htop ["java/lang/Exception"] nsR (by decide +kernel) (by decide +kernel) (fun w hw => hup w (List.mem_append_right _ hw)) with ⟨B, Cs, len, lB, lC, mB, sB, on⟩
  refine ⟨A :: B :: Cs, by rw [List.length_cons, List.length_cons, len]; rfl, ?_, ⟨Option.some.inj (sA.symm.trans mB), sB, on⟩, mA⟩
  intro P hP
  simp only [List.mem_cons] at hP
  rcases hP with hP | hP | hP
  · rw [hP]; exact lA
  · rw [hP]; exact lB
  · exact lC P hP
/-- a method of Throwable that the class doesn't put another in the place of -/
theorem ne_sel (hA : l.admits e) {C : String} {t : MethodName} {k : ClassId} {mt : MethodId} (hk : s.vm.findClass C = some k) (hm : s.methodNamed? t = some mt) (ht : t.cls ≠ "java/lang/invoke/MethodHandle" ∧ t.cls ≠ "java/lang/invoke/VarHandle")
    (hw : (Cond.selects C t t).before args s = true) : selectMethod e.platform s.vm k mt = .method mt := by
  rcases Cond.selects_spec hw with ⟨k1, r1, m1, a1, a2, a3, a4, -⟩
  rw [hk] at a1
  rw [State.methodFound?_of_named hm ht] at a2
  rw [hm] at a3
  injection a1 with a1
  injection a2 with a2
  injection a3 with a3
  rw [Launch.admits_selectMethod hA, a1, a2, a4, ← a3, a2]
variable {k : ClassId} {K : Class}
theorem ne_takes {n d : String} {k1 i : Nat} {K1 : Class} {f : Field} {v : Value} (hk : s.vm.findClass nsN = some k) (hK : s.vm.classes[k]? = some K) (ho : K.kind = .ordinary) (hf : s.fieldFound? Bundle.tN n d = some (k1, K1, i, f))
    (hw : (Cond.lays nsN Bundle.tN n d).before args s = true) (hv : fits f.type v = true) : Takes s (freshCell k K) f v :=
  Takes.of_laid hK ho (Cond.laysAt hk hK hf hw).1 hv
theorem ne_apart {n d n' d' : String} {k1 i k2 j : Nat} {K1 K2 : Class} {f g : Field} (hk : s.vm.findClass nsN = some k) (hK : s.vm.classes[k]? = some K) (hf : s.fieldFound? Bundle.tN n d = some (k1, K1, i, f)) (hg : s.fieldFound? Bundle.tN n' d' = some (k2, K2, j, g))
    (h1 : (Cond.lays nsN Bundle.tN n d).before args s = true) (h2 : (Cond.lays nsN Bundle.tN n' d').before args s = true) (hne : f.name ≠ g.name) : g.slot ≠ f.slot := by
  rcases Cond.laysAt hk hK hf h1 with ⟨-, x, hx, nx⟩
  rcases Cond.laysAt hk hK hg h2 with ⟨-, y, hy, ny⟩
  exact (Cond.laysApart hx hy nx ny hne).symm
/-- a slot that none of three writings meets -/
theorem ne_three {x : Cell} {b i j n : Nat} {u v w z : Value} (hz : x.slots[b]? = some z) (hi : i ≠ b) (hj : j ≠ b) (hn : n ≠ b) : (((x.setSlot i u).setSlot j v).setSlot n w).slots[b]? = some z := by
  simp only [Cell.setSlot, Array.getElem?_setIfInBounds_ne hn, Array.getElem?_setIfInBounds_ne hj, Array.getElem?_setIfInBounds_ne hi]
  exact hz
end NEW
section NET
variable {p : Program} {l : Launch} {e : Env} {R : Room} {s : State} {m : MethodId} {args : Array Value} {below : List Frame} {meth : Method} {c : Code} {W : State} {cells slots : Nat}
/-- where nothing old may be written, an old cell is as it was -/
theorem ne_old (X : Stand p l e R s m args below meth c W [] cells slots) {x : Addr} {o : Cell} (ho : s.heap[x]? = some o) : W.heap[x]? = some o := by
  rcases X.same.2.2.2.2.2 x o ho with ⟨o', a1, a2, -, a4⟩
  have a5 : o'.slots = o.slots := Array.ext_getElem? (fun i => a4 i (List.not_mem_nil))
  rw [a5] at a2
  rw [a2] at a1
  exact a1
variable {own : String} {ic pc : Nat} {a sa : Addr} {k : ClassId} {K : Class} {ls : Array Slot} {rest : List Value}
set_option maxHeartbeats 1000000 in
/-- the makers' call, in and out: the object is whole, nothing else is written -/
theorem ne_made (X : Stand p l e R s m args below meth c W [] cells slots) (hexec : p.tables.exec = Jvm.exec) (hst : e.platform.stackTraces = false) (hown : s.vm.findClass own = some m.cls) (h : ∀ w ∈ nsAtoms own ic, w.before args s = true)
    (hk : s.vm.findClass nsN = some k) (hK : s.vm.classes[k]? = some K) (ha : W.heap[a]? = some (freshCell k K)) (hnew : s.heap.size ≤ a) (hsz : ls.size = c.maxLocals) (hd : decode c.code pc = .ok (.invokespecial ic, 3))
    (hfr : 5 < R.frames) (hlo : (rest.map fun v => v.category).sum + 82 ≤ R.locals) :
    ∃ (V : State) (o : Cell) (L : List Loc), Stand p l e R s m args below meth c V L cells slots ∧ (∀ z ∈ L, z.base = a) ∧ V.heap[a]? = some o ∧ o.cls = k ∧ o.vm = .none ∧
      ∀ t, Steps p.tables e below (V.setTop (F0 m (pc + 3) ls (.ref a :: rest))) t → Steps p.tables e below (W.setTop (F0 m pc ls (.ref sa :: .ref a :: .ref a :: rest))) t := by
  have wM : ∀ w ∈ neM, w.before args s = true := fun w hw => h w (List.mem_append_left _ hw)
  have wO : ∀ w ∈ neO, w.before args s = true := fun w hw => h w (List.mem_append_right _ (List.mem_cons_of_mem _ (List.mem_append_left _ hw)))
  have wS : ∀ w ∈ neS, w.before args s = true := fun w hw => h w (List.mem_append_right _ (List.mem_cons_of_mem _ (List.mem_append_right _ hw)))
  have wP : ∀ w ∈ Bundle.passSAtoms nsN nsR 13 prog_28_method_4_code, w.before args s = true := fun w hw => wM w (List.mem_append_right _ (List.mem_append_right _ (List.mem_append_left _ hw)))
  have wF : ∀ f ∈ neF, (Cond.lays nsN Bundle.tN f.1 f.2).before args s = true := fun f hf => wO _ (List.mem_cons_of_mem _ (List.mem_append_right _ (List.mem_map_of_mem hf)))
  have wC := wF ("cause", "Ljava/lang/Throwable;") (by simp [neF])
  have wT := wF ("stackTrace", Bundle.steD) (by simp [neF])
  have wU := wF ("suppressedExceptions", Bundle.listD) (by simp [neF])
  have wD := wF ("detailMessage", "Ljava/lang/String;") (by simp [neF])
  have wB := wF ("backtrace", "Ljava/lang/Object;") (by simp [neF])
  obtain ⟨f1, f2, f3⟩ := ne_plat X.admits
  obtain ⟨T, _, lT, -, ti⟩ := ThrowableC.of_atoms f1 f2 f3 (fun w hw => wM w (List.mem_append_left _ hw))
  obtain ⟨Z, M, lZ, lM, top⟩ := Init0T.ofS_atoms f3 lT ti (fun w hw => wM w (List.mem_append_right _ (List.mem_append_left _ hw)))
  obtain ⟨Ps, len, lP, on, first⟩ := ne_kin f3 top wM
  obtain ⟨iD, hD⟩ := ti.msg
  obtain ⟨o, ho, hos⟩ := ti.statics
  obtain ⟨u, hu⟩ := Cond.staticRefV ti.unassigned lT.unassignedStatic lT.statics ho hos (wS _ (by simp [neS]))
  obtain ⟨v, hv⟩ := Cond.staticRefV ti.sentinel lT.sentinelStatic lT.statics ho hos (wS _ (by simp [neS]))
  obtain ⟨b1, b2, fb, g1, g2, g3, g4, -, g6, g7, g8⟩ := Cond.ownField (t := .object "java/lang/Object") ti.found lT.cls (by decide +kernel) (wS (.fieldLink Bundle.tN 198 Bundle.tN "backtrace" "Ljava/lang/Object;") (by simp [neS])) (wS (.lays Bundle.tN Bundle.tN "backtrace" "Ljava/lang/Object;") (by simp [neS])) e.platform f3
  have ord : K.kind = .ordinary := by
    rcases Cond.instantiable_spec (wO (.instantiable nsN 6) List.mem_cons_self) with ⟨k1, K1, x1, x2, x3, -⟩
    rw [hk] at x1
    injection x1 with x1
    rw [← x1, hK] at x2
    injection x2 with x2
    rw [x2]; exact x3
  have nul : (freshCell k K).slots[fb.slot]? = some .null := by
    rw [fresh_default (Cond.laysAt hk hK g8 wB).1, g7]; rfl
  have skip : SkipFacts T e.platform s (fun x => x) u ((preparedCellV T.toThrowableT (freshCell k K) a u v).withEntry W.cur) :=
    ⟨⟨b1, b2, fb⟩, ⟨g1, g2, g3, g4⟩, ne_three nul (ne_apart hk hK g8 ti.cause wB wC (by rw [g6, ti.causeName]; decide)) (ne_apart hk hK g8 ti.stack wB wT (by rw [g6, ti.stackName]; decide)) (ne_apart hk hK g8 ti.supp wB wU (by rw [g6, ti.suppName]; decide)), fun _ _ => rfl⟩
  obtain ⟨tm, _, _, _, v1, x1, -, -, -, -, -, -, -, warm, into⟩ := Steps.initColdS (tb := p.tables) X.here hexec X.warmed f3 hown (t := Bundle.initS nsN) rfl rfl (by decide) (h _ (List.mem_append_right _ List.mem_cons_self)) (wP _ (by simp [Bundle.passSAtoms])) (wP (.code (Bundle.initS nsN) prog_28_method_4_code 2 none) (by simp [Bundle.passSAtoms]))
    (f := F0 m pc ls (.ref sa :: .ref a :: .ref a :: rest)) rfl (a := a) (msg := .ref sa) (rest := .ref a :: rest) rfl hd
  rw [first] at x1
  injection x1 with x1
  obtain ⟨v2, Y, out⟩ := (X.noted warm).ctorMessageOffV hexec (g := F0 m pc ls (.ref a :: rest)) rfl hsz T lT Z lZ M lM Ps lP on (u0 := u) (sen := v) (self := a) (msg := .ref sa) rfl (cell := freshCell k K) (cellS := o)
    ha (fun _ hc => by cases hc) (fun hc => by cases hc) rfl rfl
    (ne_sel X.admits hk ti.fill0 (by decide) (wO _ (by simp [neO]))) (ne_sel X.admits hk ti.fill (by decide) (wO _ (by simp [neO])))
    (ne_old X ho) (fun hc => absurd (Array.getElem?_eq_some_iff.mp ho).1 (by rw [hc]; exact Nat.not_lt.mpr hnew)) (fun hc => by rw [hc] at hos; cases hos) hu hv
    (ne_takes hk hK ord ti.cause wC (by rw [ti.causeType]; rfl)) (ne_takes hk hK ord ti.stack wT (by rw [ti.stackType]; exact fits_refV_array _ u)) (ne_takes hk hK ord ti.supp wU (by rw [ti.suppType]; exact fits_refV_object _ v)) (ne_takes hk hK ord hD wD (by rw [ti.msgType]; rfl))
    ti.objLocals skip hst [] hd (by rw [len]; exact hfr) (by
      rw [len]
      show 2 * 0 + ((Value.ref a :: rest).map fun v => v.category).sum + (13 * 3 + 42) ≤ R.locals
      rw [List.map_cons, List.sum_cons, show (Value.ref a).category = 1 from rfl]
      omega)
  refine ⟨_, _, _, Y, fun z hz => ?_, heapAt_setCell_self _ (Array.getElem?_eq_some_iff.mp ha).1, rfl, rfl, fun t ht => into t fun acts => ?_⟩
  · simp only [List.nil_append, List.mem_cons, List.not_mem_nil, or_false] at hz
    rcases hz with hz | hz | hz | hz | hz <;> rw [hz]
  · rw [doInvoke_state, ← x1]
    exact out t ht
/-- made, and thrown out of the method -/
theorem ne_thrown (X : Stand p l e R s m args below meth c W [] cells slots) (hexec : p.tables.exec = Jvm.exec) (hst : e.platform.stackTraces = false) (hown : s.vm.findClass own = some m.cls) (h : ∀ w ∈ nsAtoms own ic, w.before args s = true)
    (hk : s.vm.findClass nsN = some k) (hK : s.vm.classes[k]? = some K) (ha : W.heap[a]? = some (freshCell k K)) (hnew : s.heap.size ≤ a) (hsz : ls.size = c.maxLocals) (hd : decode c.code pc = .ok (.invokespecial ic, 3))
    (hfr : 5 < R.frames) (hlo : (rest.map fun v => v.category).sum + 82 ≤ R.locals) (ht : decode c.code (pc + 3) = .ok (.athrow, 1)) (hout : ∀ x ∈ c.exceptionTable.toList, covers x (pc + 3) = false) (hlk : meth.locks = false) :
    ∃ (U : State) (o : Cell), Steps p.tables e below (W.setTop (F0 m pc ls (.ref sa :: .ref a :: .ref a :: rest))) U ∧ U.status = .running ∧ Ended U below (.threw a) ∧ s.WarmedH U.vm ∧ s.sameButNew ({ U with vm := s.vm } : State) [] cells slots ∧ U.heap[a]? = some o ∧ o.cls = k ∧ o.vm = .none := by
  obtain ⟨V, o, L, Y, hL, ho, hc, hv, go⟩ := ne_made (sa := sa) X hexec hst hown h hk hK ha hnew hsz hd hfr hlo
  obtain ⟨t1, t2, t3, t4, t5⟩ := Y.athrowLeaves hexec (g := F0 m (pc + 3) ls (.ref a :: rest)) rfl rfl rfl hout rfl ht hlk
  exact ⟨_, o, go _ t1, t2, t3, t4, t5.weaken (fun z hz hlt => absurd (hL z hz ▸ hlt) (Nat.not_lt.mpr hnew)) (Nat.le_refl _) (Nat.le_refl _), ho, hc, hv⟩
end NET
