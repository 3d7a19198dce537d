/-! ===== the law's own channel: it asks the program, and catches what that throws ===== -/
def hhC : List (Nat × Nat × Nat × Nat) := [(0, 10, 13, 13)]
theorem cw_L_channel : Cond.codeWith yL_channel cL_channel 5 (some .int) hhC ∈ gTB := gTB_in (List.mem_append_right _ (List.mem_of_getElem? (i := 1007) (by decide +kernel))) (by decide +kernel)
theorem sq_L_channel : Cond.static yL_channel ∈ gTB := gTB_in (List.mem_append_right _ (List.mem_of_getElem? (i := 1006) (by decide +kernel))) (by decide +kernel)
theorem RepP.t12 {q c0 u0 : Nat} {a : PT} {Y : SY} (h : RepP q c0 u0 a Y) : a.1 q = 12 := by
  obtain ⟨T, N, R, P, S, cn, un⟩ := a
  obtain ⟨tp, bx, hd, rf, il, ru, tl, s, ps, im⟩ := Y
  obtain ⟨nw, nx, h⟩ := h
  exact h.cx.1.1
theorem RepP.more {q c0 u0 c1 u1 : Nat} {a : PT} {Y : SY} (h : RepP q c0 u0 a Y) (h1 : c0 ≤ c1) (h2 : u0 ≤ u1) : RepP q c1 u1 a Y := by
  obtain ⟨T, N, R, P, S, cn, un⟩ := a
  obtain ⟨tp, bx, hd, rf, il, ru, tl, s, ps, im⟩ := Y
  obtain ⟨nw, nx, a1, a2, a3, a4, a5, a6, a7, a8, a9, a10, a11, a12, a13, a14⟩ := h
  exact ⟨nw, nx, a1, a2, a3, a4, a5, a6, a7, a8, a9, a10, a11, a12, by omega, by omega⟩
section LCHAN
variable {G : GT} {m0 : Nat} {d : Nat} {a : PT} {mt : MT} {o : Int64} {post : Option Value → LT → Prop}
theorem l_channel {q c0 u0 : Nat} {Y : SY} {b z w : Int} (hl : (gL G).stackTraces = false) (hz : rg z) (hv : rg w) (hm : RepP q c0 u0 a Y) (hw : WfSy b Y) (hN : c0 + 1 ≤ gN G) (hU : u0 + 6 ≤ gU G) (hok : ∀ v, aChan Y z w = some v → ∀ a', RepP q c0 u0 a' Y → post (some (vi 0)) (a', mt, (Int32.ofInt v).toInt64)) (hno : aChan Y z w = none → ∀ a', RepP q (c0 + 1) (u0 + 6) a' Y → post (some (vi 1)) (a', mt, o)) : CmW G (AL G m0) yL_channel cL_channel 5 (some .int) hhC (d + 7) [.ref q, vi z, vi w, .ref (m0 + 15)] (a, mt, o) post := by
  have hT : a.1 q = 12 := hm.t12
  have hX : CmX G (AL G m0) yX11_channel cX11_channel 4 (some .int) (d + 6) [.ref q, vi z, vi w] (a, mt, o) (fun r s => ∃ v a', aChan Y z w = some v ∧ RepP q c0 u0 a' Y ∧ r = some (vi v) ∧ s = (a', mt, o)) (fun s => aChan Y z w = none ∧ ∃ a', RepP q (c0 + 1) (u0 + 6) a' Y ∧ s = (a', mt, o)) := by
    obtain ⟨T, N, R, P, S, cn, un⟩ := a
    cases hc : aChan Y z w with
    | none => exact l_progX (u_channelX hl hz hv hm hw hN hU hc (fun a' h => ⟨rfl, a', h, rfl⟩))
    | some v => exact l_progX (CmX_of (u_channel (d := d + 4) hz hv hm hw hc (fun a' h => ⟨v, a', rfl, h, rfl, rfl⟩)))
  intro n u
  refine cx_ofWH (cc := cL_channel) (maxL := 5) (ret := some .int) (hh := hhC) (by decide +kernel) rfl ?_
  intro p e s m args below meth c s₁ B hml hv9
  obtain ⟨rfl, hsz, hu, hb, hK, hA⟩ := hv9
  have hts := atoms_spec (ws := Cond.codeWith yL_channel cL_channel 5 (some .int) hhC :: gTB) B.pre
  have htab : c.exceptionTable.toList = tableOf hhC := vx_table (x := yL_channel) B (hts _ List.mem_cons_self)
  have hown : s.vm.findClass yL_channel.cls = some m.cls := findClass_of_methodNamed B.named
  have C : gCtx G yL_channel cL_channel 5 (some .int) n u p s m ([Value.ref q, vi z, vi w, .ref (m0 + 15)] : List Value).toArray meth c := ⟨⟨B.exec, B.bytes, hml, hown, fun w hw => hts w (List.mem_cons_of_mem _ hw)⟩, B.returns, B.notSynchronized, (name_of_methodNamed B.named B.method).1, hK, hsz, hu, hb⟩
  have hl0 := lv_entry [Value.ref q, vi z, vi w, .ref (m0 + 15)] (n := 5) (Nat.le_of_ble_eq_true rfl)
  rw [lg_entry_eq]
  have g0 : gs s.heap n = 0 := by rw [← hsz, gs_self]
  have hn : n ≤ s.heap.size := Nat.le_of_eq hsz.symm
  have hg : gs s.heap (gB G) = u + gs s.heap n := by rw [hu, g0]; rfl
  refine W.cs (cells' := s.heap.size - n) (slots' := gs s.heap n) (by omega) g0.symm ?_
  generalize (lg_sl [Value.ref q, vi z, vi w, .ref (m0 + 15)] ++ List.replicate (5 - (lg_sl [Value.ref q, vi z, vi w, .ref (m0 + 15)]).length) Slot.unset).toArray = ls at hl0 ⊢
  have hL : lv_has ls 5 (lvl 0 [some (.ref q), some (vi z), some (vi w), some (.ref (m0 + 15)), none]) := hl0
  refine lv_aload_n C.1.1 C.1.2.1 dL_channel_0 rfl (lvl_at (L := [some (.ref q), some (vi z), some (vi w), some (.ref (m0 + 15)), none]) (i := 3) hL rfl) ?_
  refine lv_iconst C.1.1 C.1.2.1 dL_channel_1 rfl ?_
  refine lv_aload_n C.1.1 C.1.2.1 dL_channel_2 rfl (lvl_at (L := [some (.ref q), some (vi z), some (vi w), some (.ref (m0 + 15)), none]) (i := 0) hL rfl) ?_
  refine lv_iload_n C.1.1 C.1.2.1 dL_channel_3 rfl (lvl_at (L := [some (.ref q), some (vi z), some (vi w), some (.ref (m0 + 15)), none]) (i := 1) hL rfl) ?_
  refine lv_iload_n C.1.1 C.1.2.1 dL_channel_4 rfl (lvl_at (L := [some (.ref q), some (vi z), some (vi w), some (.ref (m0 + 15)), none]) (i := 2) hL rfl) ?_
  have hM := hX s.heap.size (gs s.heap (gB G))
  have hmv := km_X11_channel
  have cw := cwV (R := gR G (d + 7) n u) (rm := gR G (d + 6) s.heap.size (gs s.heap (gB G))) (own := yL_channel.cls) (index := 7) (C := yX11_channel.cls) (ws := Cond.code yX11_channel cX11_channel 4 (some .int) :: gTB) 2 C.1.2.2.2.2 (goodTB (by
    intro w hw1
    simp only [wsV, List.cons_append, List.nil_append, List.mem_cons] at hw1
    rcases hw1 with rfl | rfl | rfl | rfl | rfl | hw1
    · exact ml_L_7
    · exact hmv.2.1
    · exact hmv.2.2.1
    · exact hmv.2.2.2.1
    · exact hmv.1
    · exact hw1)) rfl rfl rfl ⟨rfl, hmv.2.2.2.2.1.1, hmv.2.2.2.2.1.2, ds_X11_channel⟩ (gR_fit hmv.2.2.2.2.2 _ _)
  obtain ⟨fs, r, h1, cell, q1, q2, q3, q4⟩ := al_recP hT s.heap hA
  have hfc : s.vm.findClass yX11_channel.cls = some cell.cls := by
    have := (C.2.2.2.2.1.1.1 11 _ rfl).2.1
    rw [q2]
    exact this
  have hrun := vx_runV (g := F0 m 5 ls [vi w, vi z, .ref q, vi 0, .ref (m0 + 15)]) (As := [vi z, vi w]) (rest := [vi 0, .ref (m0 + 15)]) (p := p) (l := gL G) (e := e) (below := below) (meth := meth) (H := s.heap) (locs := []) (cells := s.heap.size - n) (slots := gs s.heap n) C.1 hM cw ⟨gPc_blind G (AL G m0) _ _ _ (a, mt, o), ⟨cell, q1, by rw [q3]; rfl, hfc⟩, gPre C hb hA (.ref q :: [vi z, vi w])⟩ rfl rfl hL.1 rfl (lv_room (Nat.le_of_ble_eq_true rfl)) dL_channel_5 (gR_pay (d := d + 6) hb hn hg)
  intro T hT2 X
  rcases hrun T hT2 X with ⟨v, st₀, t, T', Lc, h0, X', hLc, e1, e2, ⟨v', a', ev, ⟨vv, a2, hcv, hr2, er, es⟩, hB', hA'⟩, hgo⟩ | ⟨qe, st₀, t, T', Lc, E, ce, h0, X', hLc, e1, e2, ⟨hE, a', ⟨hcn, a2, hr2, es⟩, hB', hA'⟩, hce, hcv, hcl, hst⟩
  · cases ev
    subst er
    subst es
    have k8 : V G (AL G m0) yL_channel cL_channel 5 (some .int) (d + 7) (a2, mt, o) 8 [some (.ref q), some (vi z), some (vi w), some (.ref (m0 + 15)), none] [vi vv, vi 0, .ref (m0 + 15)] post := by
      refine s_i2l 9 _ dL_channel_8 rfl rfl ?_
      refine al_last 10 dL_channel_9 rfl ?_
      refine s_goto 17 dL_channel_10 rfl ?_
      refine s_iconst 18 dL_channel_17 rfl ?_
      refine s_ireturn rfl dL_channel_18 ?_
      exact hok vv hcv a2 hr2
    have X2 := stand_tight X'
    have hg2 := gs_stand X2 (b := gB G) hb.1
    have h2 : s.heap.size ≤ T'.heap.size := X'.same.2.1
    rw [e1, hu, hsz] at hg2
    rw [e1, hsz] at h2
    rw [e1, hsz] at X2
    obtain ⟨t2, a1, b1⟩ := k8 n u p e s m _ below meth c t.heap ([] ++ Lc) ls C hB' h2 hg2 hA' (fun q hq => (List.mem_append.mp hq).elim (fun h => by cases h) (hLc q)) hL T' e1 X2
    exact ⟨t2, hgo t2 a1, b1⟩
  · subst hE
    subst es
    have k13 : V G (AL G m0) yL_channel cL_channel 5 (some .int) (d + 7) (a2, mt, o) 13 [some (.ref q), some (vi z), some (vi w), some (.ref (m0 + 15)), none] [.ref qe] post := by
      refine s_astore 15 dL_channel_13 rfl (Nat.le_of_ble_eq_true rfl) rfl ?_
      refine s_iconst 16 dL_channel_15 rfl ?_
      refine s_ireturn rfl dL_channel_16 ?_
      exact hno hcn a2 hr2
    have X2 := stand_tight X'
    have hg2 := gs_stand X2 (b := gB G) hb.1
    have h2 : s.heap.size ≤ T'.heap.size := X'.same.2.1
    rw [e1, hu, hsz] at hg2
    rw [e1, hsz] at h2
    rw [e1, hsz] at X2
    have hE9 : gE G s := C.2.2.2.2.1.2.2.2.1
    have hW13 := k13 n u p e s m _ below meth c t.heap ([] ++ Lc) ls C hB' h2 hg2 hA' (fun q hq => (List.mem_append.mp hq).elim (fun h => by cases h) (hLc q)) hL
    have hx := cx_catch (rest := [vi 0, .ref (m0 + 15)]) (pc := 5) (own := RL) (name := nsN) (E := nsN) C.1.2.2.2.1 ⟨0, 10, 13, 13⟩ [] (by rw [htab]; rfl) (by decide) (by decide) (C.1.2.2.2.2 _ cl_L_13) (va_Nw.use rfl hE9.2.2.2.1) hce hcv hcl hW13
    obtain ⟨t2, a1, b1⟩ := hx T' e1 X2
    exact ⟨t2, hst.trans a1, b1⟩
end LCHAN
