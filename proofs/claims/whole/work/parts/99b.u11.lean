theorem putN_wire {ru : RU} : ∀ (k : Nat) (s : ST), s.1.length + (putN ru k s).1 ≤ (putN ru k s).2.1.length := by
  intro k
  induction k with
  | zero => intro s; exact Nat.le_refl _
  | succ k ih =>
    intro s
    by_cases hc : canF ru s
    · rw [putN_y hc]
      have h1 := ih (putF ru s)
      have h2 : s.1.length + 1 ≤ (putF ru s).1.length := by
        show s.1.length + 1 ≤ (s.1 ++ _ ++ [0]).length
        rw [List.length_append, List.length_append, List.length_singleton]
        omega
      show s.1.length + ((putN ru k (putF ru s)).1 + 1) ≤ (putN ru k (putF ru s)).2.1.length
      omega
    · rw [putN_n hc]
      exact Nat.le_refl _
section U11
variable {G : GT} {F : HS} {d : Nat} {T : Nat → Nat} {N : Nat → Nat → Int} {R : Nat → List Int} {P : Nat → Nat → Option Nat} {S : Nat → Int64} {cn un : Nat} {post : Option Value → PT → Prop} {q c0 u0 : Nat} {Y : SY} {b : Int}
theorem u_flushed {w : Int} (hv : rg w) (hm : RepP q c0 u0 (T, N, R, P, S, cn, un) Y) (hw : WfSy b Y) (hb : b ≤ 80000000) (hp : ∀ a', RepP q c0 u0 a' Y → post (some (vi (aFlushed Y.2.2.2.2.1 Y.2.2.2.2.2.1 Y.2.2.2.2.2.2.2.1 w))) a') : Cm G (AP G F) yX11_flushed cX11_flushed 5 (some .int) (d + 7) [.ref q, vi w] (T, N, R, P, S, cn, un) post := by
  obtain ⟨tp, bx, hd, rf, il, ru, tl, s, ps, im⟩ := Y
  obtain ⟨nw, nx, h⟩ := hm
  have hp : ∀ a', RepP q c0 u0 a' (tp, bx, hd, rf, il, ru, tl, s, ps, im) → post (some (vi (aFlushed il ru s w))) a' := hp
  obtain ⟨⟨t0, t1, t2, t3, t4⟩, ⟨t5, t6, t7, t8, t9, t10⟩, ⟨t11, t12, t13, t14⟩, v0, v1, v2, v3, v4, v5⟩ := h.cx
  obtain ⟨-, -, -, -, wil, -, w0, -, w1⟩ := hw
  have no : ¬ (il = 1 ∧ 0 ≤ w ∧ w ≤ 4) → V G (AP G F) yX11_flushed cX11_flushed 5 (some .int) (d + 7) (T, N, R, P, S, cn, un) 16 [some (.ref q), some (vi w), none, none, none] [] post := fun hn => by
    refine s_iconst 17 dX11_flushed_16 rfl ?_
    refine s_ireturn rfl dX11_flushed_17 ?_
    rw [show aFlushed il ru s w = -1 from if_pos hn] at hp
    exact hp _ h.out
  refine Cm_intro (L := [some (.ref q), some (vi w), none, none, none]) (by decide +kernel) (Nat.le_of_ble_eq_true rfl) rfl ?_
  refine s_aload_n 1 dX11_flushed_0 rfl rfl ?_
  refine g_X11_hasLine 4 dX11_flushed_1 rfl fl_X11_112 (fun hr1 => ?_)
  rw [h.il']
  refine s_if_eq 7 16 dX11_flushed_4 rfl rfl (fun g1 => ?_) (fun g1 => ?_)
  · exact no (by omega)
  refine s_iload_n 8 dX11_flushed_7 rfl rfl ?_
  refine s_if_lt 11 16 dX11_flushed_8 rfl rfl (fun g2 => ?_) (fun g2 => ?_)
  · exact no (by omega)
  refine s_iload_n 12 dX11_flushed_11 rfl rfl ?_
  refine s_iconst 13 dX11_flushed_12 rfl ?_
  refine s_icmp_le 16 18 dX11_flushed_13 rfl rfl (fun g3 => ?_) (fun g3 => ?_)
  rotate_left
  · exact no (by omega)
  have hil : il = 1 := by omega
  subst hil
  obtain ⟨wr, wtl, ⟨ws, wtc⟩, wps, wim⟩ := w1 rfl
  have h600 := ws.1
  have w5 := wr.2.2.2.2.2
  have hch : chOf 1 ru = (ru 5).toNat := rfl
  rw [show aFlushed 1 ru s w = if w = 0 then theF (fluF ru 60 s) (ru 5).toNat else if w = 1 then sumC (fun c => ((fluF ru 60 s).2.2.2.2 c).1 4) (ru 5).toNat else if w = 2 then sumC (fun c => ((fluF ru 60 s).2.2.2.2 c).1 5) (ru 5).toNat else if w = 3 then sumC (fun c => (((fluF ru 60 s).2.2.2.2 c).2.1.length : Int)) (ru 5).toNat else (fluF ru 60 s).2.2.1 2 - s.2.2.1 2 from if_neg (fun hn => hn ⟨rfl, by omega, by omega⟩)] at hp
  -- the end: nothing comes any more
  have fin : ∀ (b2 : Int) (x : ST) (r : Int) (o : Option Value) (N2 : Nat → Nat → Int) (R2 : Nat → List Int), fluF ru 60 s = x → WfSt b2 (chOf 1 ru) x → b2 ≤ 90000000 → fr2 (q + 25) (q + 101) (q + 11) (q + 12) N N2 → fr2 (q + 25) (q + 101) (q + 15) (q + 21) R R2 → StR N2 R2 (q + 25) (chOf 1 ru) tl x → V G (AP G F) yX11_flushed cX11_flushed 5 (some .int) (d + 7) (T, N2, R2, P, S, cn, un) 33 [some (.ref q), some (vi w), some (vi 0), some (vi r), o] [] post := by
    intro b2 x r o N2 R2 hx hwx hb2 f1 f2 hs
    rw [hx] at hp
    have hp := hp _ (RepQ.out (S := S) (h.scr (N' := N2) (R' := R2) (fun y hy => f1 y (by omega) (by omega)) (fun y hy => f2 y (by omega) (by omega))))
    refine s_iload_n 34 dX11_flushed_33 rfl rfl ?_
    refine s_if_eq 37 104 dX11_flushed_34 rfl rfl (fun e1 => ?_) (fun e1 => ?_)
    rotate_left
    · omega
    refine s_iload_n 105 dX11_flushed_104 rfl rfl ?_
    refine s_tabL [136, 144, 152, 160] 168 dX11_flushed_105 rfl rfl rfl (by decide) ⟨fun hc => ?_, fun hc => ?_, fun hc => ?_, fun hc => ?_, trivial⟩ (fun hc => ?_)
    · refine s_aload_n 137 dX11_flushed_136 rfl rfl ?_
      refine g_X11_spare 140 dX11_flushed_137 rfl fl_X11_59 ?_
      refine s_V0i 143 dX11_flushed_140 rfl km_X7_messagesThere ml_X11_324 ds_X7_messagesThere (Nat.le_of_ble_eq_true rfl) (q_rec (by assumption)) rfl (q_there (d := d + 5) h.sh.sp hs hwx h.pa.c4 ?_)
      refine ⟨_, rfl, ?_⟩
      refine s_ireturn rfl dX11_flushed_143 ?_
      rw [if_pos (by omega)] at hp
      exact hp
    · refine s_aload_n 145 dX11_flushed_144 rfl rfl ?_
      refine g_X11_spare 148 dX11_flushed_145 rfl fl_X11_59 ?_
      refine s_V0i 151 dX11_flushed_148 rfl km_X7_lostInAll ml_X11_339 ds_X7_lostInAll (Nat.le_of_ble_eq_true rfl) (q_rec (by assumption)) rfl (q_lostAll (d := d + 5) h.sh.sp hs h.pa.c4 ?_)
      refine ⟨_, rfl, ?_⟩
      refine s_ireturn rfl dX11_flushed_151 ?_
      rw [if_neg (by omega), if_pos (by omega)] at hp
      exact hp
    · refine s_aload_n 153 dX11_flushed_152 rfl rfl ?_
      refine g_X11_spare 156 dX11_flushed_153 rfl fl_X11_59 ?_
      refine s_V0i 159 dX11_flushed_156 rfl km_X7_tornInAll ml_X11_342 ds_X7_tornInAll (Nat.le_of_ble_eq_true rfl) (q_rec (by assumption)) rfl (q_tornAll (d := d + 5) h.sh.sp hs h.pa.c4 ?_)
      refine ⟨_, rfl, ?_⟩
      refine s_ireturn rfl dX11_flushed_159 ?_
      rw [if_neg (by omega), if_neg (by omega), if_pos (by omega)] at hp
      exact hp
    · refine s_aload_n 161 dX11_flushed_160 rfl rfl ?_
      refine g_X11_spare 164 dX11_flushed_161 rfl fl_X11_59 ?_
      refine s_V0i 167 dX11_flushed_164 rfl km_X7_messagesWaiting ml_X11_345 ds_X7_messagesWaiting (Nat.le_of_ble_eq_true rfl) (q_rec (by assumption)) rfl (q_waiting (d := d + 5) h.sh.sp hs hwx h.pa.c4 ?_)
      refine ⟨_, rfl, ?_⟩
      refine s_ireturn rfl dX11_flushed_167 ?_
      rw [if_neg (by omega), if_neg (by omega), if_neg (by omega), if_pos (by omega)] at hp
      exact hp
    · refine s_aload_n 169 dX11_flushed_168 rfl rfl ?_
      refine g_X11_spare 172 dX11_flushed_169 rfl fl_X11_59 ?_
      refine g_X7_came 175 dX11_flushed_172 rfl fl_X11_151 (fun hr172 => ?_)
      refine s_aload_n 176 dX11_flushed_175 rfl rfl ?_
      refine u_now 179 dX11_flushed_176 rfl fl_X11_70 ?_
      refine g_X7_came 182 dX11_flushed_179 rfl fl_X11_151 (fun hr179 => ?_)
      refine s_isub 183 dX11_flushed_182 rfl ?_
      refine s_ireturn rfl dX11_flushed_183 ?_
      rw [hs.2.2.2.1.1, f1 nw (by omega) (by omega), h.pa.nr.2.2.2.1.1]
      rw [if_neg (by omega), if_neg (by omega), if_neg (by omega), if_neg (by omega)] at hp
      exact hp
  have key : ∀ (f r : Nat) (x : ST) (b2 : Int) (o : Option Value) (N2 : Nat → Nat → Int) (R2 : Nat → List Int), roundF x (chOf 1 ru) < f → r + f ≤ 60 → fluF ru 60 s = fluF ru f x → WfSt b2 (chOf 1 ru) x → b2 ≤ b + 12000 * r → fr2 (q + 25) (q + 101) (q + 11) (q + 12) N N2 → fr2 (q + 25) (q + 101) (q + 15) (q + 21) R R2 → StR N2 R2 (q + 25) (chOf 1 ru) tl x → V G (AP G F) yX11_flushed cX11_flushed 5 (some .int) (d + 7) (T, N2, R2, P, S, cn, un) 33 [some (.ref q), some (vi w), some (vi 1), some (vi (r : Int)), o] [] post := by
    intro f
    induction f with
    | zero =>
      intro r x b2 o N2 R2 hr hrf hfl hwx hb2 f1 f2 hs
      have := (crd_rg hwx h.pa.c4).1
      unfold roundF at hr
      split at hr <;> omega
    | succ f ih =>
      intro r x b2 o N2 R2 hr hrf hfl hwx hb2 f1 f2 hs
      have hru2 : RuP N2 (q + 11 + 1) ru := by
        obtain ⟨c1, c2, c3, c4, c5, c6⟩ := h.ru' rfl
        have y1 : N2 (q + 11 + 1) = N (q + 11 + 1) := f1 _ (by omega) (by omega)
        have y2 : N2 (q + 11 + 1 + 1) = N (q + 11 + 1 + 1) := f1 _ (by omega) (by omega)
        exact ⟨by rw [y1]; exact c1, by rw [y2]; exact c2, by rw [y2]; exact c3, by rw [y1]; exact c4, by rw [y1]; exact c5, by rw [y1]; exact c6⟩
      obtain ⟨i1, i2, i3, -⟩ := putN_ok (b := b2) wr hch 60 x hwx
      have hpw := putN_wire (ru := ru) 60 x
      have hpl := putN_le (ru := ru) 60 x
      refine s_iload_n 34 dX11_flushed_33 rfl rfl ?_
      refine s_if_eq 37 104 dX11_flushed_34 rfl rfl (fun e1 => ?_) (fun e1 => ?_)
      · omega
      refine s_iload_n 38 dX11_flushed_37 rfl rfl ?_
      refine s_sipush 41 dX11_flushed_38 rfl (k := ?_)
      refine s_icmp_gt 44 104 dX11_flushed_41 rfl rfl (fun e2 => ?_) (fun e2 => ?_)
      · omega
      refine s_aload_n 45 dX11_flushed_44 rfl rfl ?_
      refine g_X11_spare 48 dX11_flushed_45 rfl fl_X11_59 ?_
      refine s_bipush 50 dX11_flushed_48 rfl (k := ?_)
      refine s_aload_n 51 dX11_flushed_50 rfl rfl ?_
      refine g_X11_framing 54 dX11_flushed_51 rfl fl_X11_31 ?_
      refine s_V2i 57 dX11_flushed_54 rfl km_X7_putFrames ml_X11_197 ds_X7_putFrames (Nat.le_of_ble_eq_true rfl) (q_rec (by assumption)) rfl (q_putFrames (d := d) (n0 := 60) (by omega) h.sh.sp h.sh.fr (by omega) hru2 wr rfl hs hwx (fun N3 R3 f3 f4 hs3 => ?_))
      refine ⟨_, rfl, ?_⟩
      refine s_istore 59 dX11_flushed_57 rfl (Nat.le_of_ble_eq_true rfl) rfl ?_
      refine s_iload 61 dX11_flushed_59 rfl rfl ?_
      have hru3 : RuP N3 (q + 11 + 1) ru := by
        obtain ⟨c1, c2, c3, c4, c5, c6⟩ := hru2
        have y1 : N3 (q + 11 + 1) = N2 (q + 11 + 1) := f3 _ (by omega) (by omega)
        have y2 : N3 (q + 11 + 1 + 1) = N2 (q + 11 + 1 + 1) := f3 _ (by omega) (by omega)
        exact ⟨by rw [y1]; exact c1, by rw [y2]; exact c2, by rw [y2]; exact c3, by rw [y1]; exact c4, by rw [y1]; exact c5, by rw [y1]; exact c6⟩
      have h6 := i1.1
      have hmn : min 600 (putN ru 60 x).2.1.length = (putN ru 60 x).2.1.length := by omega
      -- what comes after 'more' is known
      have rest : ∀ (mo : Int) (o2 : Option Value), (mo = if (putN ru 60 x).2.1.length = 0 then 0 else 1) → V G (AP G F) yX11_flushed cX11_flushed 5 (some .int) (d + 7) (T, N3, R3, P, S, cn, un) 82 [some (.ref q), some (vi w), some (vi 1), some (vi (r : Int)), o2] [vi mo] post := by
        intro mo o2 hmo
        refine s_istore_n 83 dX11_flushed_82 rfl (Nat.le_of_ble_eq_true rfl) rfl ?_
        refine s_aload_n 84 dX11_flushed_83 rfl rfl ?_
        refine g_X11_spare 87 dX11_flushed_84 rfl fl_X11_59 ?_
        refine s_sipush 90 dX11_flushed_87 rfl (k := ?_)
        refine s_aload_n 91 dX11_flushed_90 rfl rfl ?_
        refine g_X11_framing 94 dX11_flushed_91 rfl fl_X11_31 ?_
        refine s_V2i 97 dX11_flushed_94 rfl km_X7_readBytes ml_X11_229 ds_X7_readBytes (Nat.le_of_ble_eq_true rfl) (q_rec (by assumption)) rfl (q_readBytes (d := d) (n0 := 600) (by omega) h.sh.sp h.sh.fr (by omega) hru3 wr rfl hs3 i1 (by omega) (fun N4 R4 f5 f6 hs4 => ?_))
        refine ⟨_, rfl, ?_⟩
        refine s_pop (q := 98) (hd := dX11_flushed_97) (hq := rfl) (k := ?_)
        refine s_iinc 101 dX11_flushed_98 rfl rfl (Nat.le_of_ble_eq_true rfl) rfl ?_
        refine s_goto 33 dX11_flushed_101 rfl ?_
        rw [hmn] at hs4
        have g1 := (f1.trans f3).trans f5
        have g2 := (f2.trans f4).trans f6
        by_cases e : (putN ru 60 x).2.1.length = 0
        · rw [if_pos e] at hmo
          rw [hmo]
          have e3 : fluF ru (f + 1) x = (putN ru 60 x).2 := by rw [fluF, if_pos e]
          rw [e] at hs4
          exact fin b2 (putN ru 60 x).2 _ _ N4 R4 (hfl.trans e3) i1 (by omega) g1 g2 hs4
        · rw [if_neg e] at hmo
          rw [hmo]
          have e3 : fluF ru (f + 1) x = fluF ru f (readF ru (putN ru 60 x).2 (putN ru 60 x).2.1.length) := by rw [fluF, if_neg e]
          have hrl := round_less wr hch hwx e
          exact ih (r + 1) _ (b2 + 12000) _ N4 R4 (by omega) (by omega) (hfl.trans e3) (readF_wf i1 wr hch) (by omega) g1 g2 hs4
      refine s_if_gt 64 77 dX11_flushed_61 rfl rfl (fun e3 => ?_) (fun e3 => ?_)
      · refine s_iconst 78 dX11_flushed_77 rfl ?_
        refine s_goto 82 dX11_flushed_78 rfl ?_
        exact rest 1 _ (by rw [if_neg (by omega)])
      refine s_aload_n 65 dX11_flushed_64 rfl rfl ?_
      refine g_X11_spare 68 dX11_flushed_65 rfl fl_X11_59 ?_
      refine g_X7_wire 71 dX11_flushed_68 rfl fl_X11_142 ?_
      refine g_X5_size 74 dX11_flushed_71 rfl fl_X11_76 ?_
      rw [hs3.1]
      refine s_if_le 77 81 dX11_flushed_74 rfl rfl (fun e4 => ?_) (fun e4 => ?_)
      · refine s_iconst 82 dX11_flushed_81 rfl ?_
        exact rest 0 _ (by rw [if_pos (by omega)])
      · refine s_iconst 78 dX11_flushed_77 rfl ?_
        refine s_goto 82 dX11_flushed_78 rfl ?_
        exact rest 1 _ (by rw [if_neg (by omega)])
  refine s_aload_n 19 dX11_flushed_18 rfl rfl ?_
  refine g_X11_spare 22 dX11_flushed_19 rfl fl_X11_59 ?_
  refine s_aload_n 23 dX11_flushed_22 rfl rfl ?_
  refine u_now 26 dX11_flushed_23 rfl fl_X11_70 ?_
  refine s_V1v 29 dX11_flushed_26 rfl km_X7_copyFrom ml_X11_322 ds_X7_copyFrom (Nat.le_of_ble_eq_true rfl) (q_rec (by assumption)) rfl (q_scopy (d := d + 1) h.sh.sp h.pa.ns (by omega) h.pa.nr ws (by omega) h.pa.c4 (fun N1 R1 f1 f2 hs1 => ?_))
  refine ⟨rfl, ?_⟩
  refine s_iconst 30 dX11_flushed_29 rfl ?_
  refine s_istore_n 31 dX11_flushed_30 rfl (Nat.le_of_ble_eq_true rfl) rfl ?_
  refine s_iconst 32 dX11_flushed_31 rfl ?_
  refine s_istore_n 33 dX11_flushed_32 rfl (Nat.le_of_ble_eq_true rfl) rfl ?_
  have hcr := crd_rg ws h.pa.c4
  exact key 60 0 s b none N1 R1 (by unfold roundF; rw [hch]; split <;> omega) (by omega) rfl ws (by omega) (fr2.l f1 (by omega)) (fr2.l f2 (by omega)) hs1
end U11
