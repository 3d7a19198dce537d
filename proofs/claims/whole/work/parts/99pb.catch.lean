/-! ===== caught by the first row of a method's table: its class was linked before, or is by this very search ===== -/
section CAT
variable {e : Env} {s : State} {f : JFrame} {q : Addr} {x : ExceptionTableEntry} {rows : List ExceptionTableEntry} {k : ClassId} {v : Vm}
/-- a search that links the row's class on its way is the search over the tables with that link -/
theorem ca_link (hx : covers x f.pc = true) (h0 : x.catchType ≠ 0) (hg : (resolveClass f.method.cls x.catchType).Gives e.toSetting s.vm (.ok k) v) (hr : v.classReady f.method.cls x.catchType k) (hz : v.classes.size ≤ s.vm.classes.size) (Q : Handler → Pre) (E : CtlPost) (d : Bool) (acts : List Action) :
    wp (findHandler.go f q (x :: rows)) Q E e d acts s ↔ wp (findHandler.go f q (x :: rows)) Q E e d acts (s.setVm v) := by
  rcases hr with ⟨K, hK, hK2⟩
  have y := hg.op (e := e) (op := VmOp.resolveClass f.method.cls x.catchType) rfl
  have z := resolveClass_memo e hK hK2
  have land : (VmOp.resolveClass f.method.cls x.catchType).lands e s = .done (s.setVm v) := by rw [VmOp.lands_same (by rw [y.2]; exact hz), y.2]
  unfold covers at hx
  simp [findHandler.go, hx, h0, y.1, land, z.1, z.2, VmOp.dirties, VmOp.acts]
  exact Iff.rfl
theorem ca_find {meth : Method} {c : Code} {o : Cell} (hm : s.vm.method? f.method = some meth) (hc : meth.code = some c) (ht : c.exceptionTable.toList = x :: rows) (hx : covers x f.pc = true) (h0 : x.catchType ≠ 0)
    (hg : (resolveClass f.method.cls x.catchType).Gives e.toSetting s.vm (.ok k) v) (hr : v.classReady f.method.cls x.catchType k) (hz : v.classes.size ≤ s.vm.classes.size) (ho : s.heap[q]? = some o) (hv : o.vm = .none) (hk : ∃ K, v.classes[k]? = some K) (hfit : v.assignable o.cls k = true)
    (Q : Handler → Pre) (E : CtlPost) (d : Bool) (acts : List Action) : wp (findHandler f q) Q E e d acts s ↔ Q (.found x.handlerPc) d acts (s.setVm v) := by
  rw [Jvm.W.findHandler_eq hm hc, ht, ca_link hx h0 hg hr hz, Jvm.W.findHandler_go_class (s := s.setVm v) hx h0 hr ho (fun n hn => by rw [hv] at hn; cases hn) (Vm.classAt_of_assignable hfit hk) hk]
  exact Eq.to_iff (if_pos hfit)
/-- of what the VM does by itself and ends well, all that holds of every way on holds -/
theorem ca_do {α : Type} {t : Sem α} {K : α → State → List Action → Out} {b : α} {u : State} {P : Out → Prop} (h : wp t (fun b' _ as z => b' = b ∧ z = u ∧ as = []) (fun _ _ _ => False) e false [] s) (hP : ∀ as, P (K b u as)) : P (vmDo e s [] t K) := by
  rcases Sem.go_eq_ok (acts := []) (acts' := []) h with ⟨as, hgo, -⟩
  unfold vmDo
  rw [hgo]
  exact hP as
/-- one step: from the note over the frame into its handler -/
theorem ca_leap {pc : Nat} {r : List Frame} (hf : ∀ (Q : Handler → Pre) (E : CtlPost) (d : Bool) (acts : List Action), wp (findHandler f q) Q E e d acts s ↔ Q (.found pc) d acts (s.setVm v)) :
    (stepThrowing e s q (.java f :: r)).1 = (s.setVm v).setFrames (.java { f with pc := pc, stack := [.ref q] } :: r) := by
  unfold stepThrowing searchFrame
  refine ca_do (P := fun o => o.1 = (s.setVm v).setFrames (.java { f with pc := pc, stack := [.ref q] } :: r)) (b := Handler.found pc) (u := s.setVm v) ?_ (fun as => rfl)
  simp [hf]
end CAT
/-- a throw over the frame, caught by the first row of its method's table -/
theorem cx_catch {p : Program} {l : Launch} {e : Env} {R : Room} {s : State} {m : MethodId} {args : Array Value} {below : List Frame} {meth : Method} {c : Code} {H : Heap} {locs : List Loc} {cells slots : Nat} {Q : State → Prop} {pc : Nat} {ls : Array Slot} {rest : List Value}
    {own name E : String} {o : Cell} {q : Addr} (hown : s.vm.findClass own = some m.cls) (x : ExceptionTableEntry) (rows : List ExceptionTableEntry) (ht : c.exceptionTable.toList = x :: rows) (hx : covers x pc = true) (h0 : x.catchType ≠ 0)
    (hlink : (Cond.classLink own x.catchType name).before args s = true) (hcast : (Cond.castable E name).before args s = true) (ho : H[q]? = some o) (hv : o.vm = .none) (hE : s.vm.findClass E = some o.cls)
    (on : W p l e R s m args below meth c H locs cells slots Q (F0 m x.handlerPc ls [.ref q])) : vx_W p l e R s m args below meth c H locs cells slots Q (F0 m pc ls rest) q := by
  intro T hT X
  rcases Cond.classLink_spec hown hlink e.platform (ne_plat X.admits).2.2 with ⟨k, n1, li⟩
  have fit : s.vm.assignable o.cls k = true := by
    rcases Cond.castable_spec hcast with ⟨k1, k2, c1, c2, c3⟩
    rw [hE] at c1
    rw [n1] at c2
    injection c1 with c1
    injection c2 with c2
    rw [c1, c2]; exact c3
  rcases State.classEntry X.warmed li with ⟨gives, warm, ready⟩
  have sz : (T.vm.noted m.cls x.catchType (.cls k)).classes.size ≤ T.vm.classes.size := Nat.le_of_eq (by unfold Vm.noted; exact Array.size_modify)
  generalize T.vm.noted m.cls x.catchType (.cls k) = v at gives warm ready sz
  have fitv : v.assignable o.cls k = true := by rw [warm.alike.assignable]; exact fit
  have kv : ∃ K, v.classes[k]? = some K := Vm.classAt_of_findClass (name := name) (by rw [warm.alike.findClass]; exact n1)
  rcases on (T.setVm v) hT (X.noted warm) with ⟨t, go, hQ⟩
  refine ⟨t, ?_, hQ⟩
  rcases Option.isSome_iff_exists.mp X.here.top with ⟨g0, hg0⟩
  rcases State.topJava?_eq_some.mp hg0 with ⟨r, hr⟩
  have cur := State.cur_lt_of_frames hr
  have laid : (T.setTop (F0 m pc ls rest)).pushFrame (.throwing q) = T.setFrames (.throwing q :: .java (F0 m pc ls rest) :: r) := by
    rw [State.setTop_of_frames _ hr]
    unfold State.pushFrame
    rw [State.frames_setFrames _ cur, State.setFrames_setFrames]
  have can := At.throwing (g := F0 m pc ls rest) X.here q
  rw [laid] at can ⊢
  refine Steps.head can.1 can.2 ?_
  rw [stepThread_throwing (State.frames_setFrames _ cur), ca_leap (s := T.setFrames (.throwing q :: .java (F0 m pc ls rest) :: r)) (f := F0 m pc ls rest) (v := v)
    (ca_find (s := T.setFrames (.throwing q :: .java (F0 m pc ls rest) :: r)) (f := F0 m pc ls rest) (X.method' : T.vm.method? m = some meth) X.code ht hx h0 gives ready sz (by show T.heap[q]? = some o; rw [hT]; exact ho) hv kv fitv)]
  rw [State.setTop_of_frames (s := T.setVm v) (f := g0) (r := r) _ hr] at go
  exact (State.setFrames_setFrames (T.setVm v) _ _).symm ▸ go
