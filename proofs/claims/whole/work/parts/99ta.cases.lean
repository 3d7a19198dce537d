/-! ===== the law's cases: one call of the program, the same of the reference, their answers are one ===== -/
def LawG (G : GT) (b Ln : Nat) (xs : Nat → Int32) (C0 U0 : Nat) : Prop := ScrG G b Ln xs ∧ Ln ≤ 3072 ∧ C0 + 600 ≤ gN G ∧ U0 + 3600 ≤ gU G ∧ (gL G).stackTraces = false
def LI (q C0 U0 k : Nat) (a : PT) (mt : MT) (Y : SY) : Prop := RepP q (C0 + k) (U0 + 6 * k) a Y ∧ RepM mt.1 mt.2.1 Y ∧ WfSy (12000 * (k : Int)) Y
def LTail (G : GT) (b q m0 C0 U0 k : Nat) (post : Option Value → LT → Prop) : Prop := ∀ (a : PT) (mt : MT) (o : Int64) (Y : SY) (l5 l6 : Option Value), LI q C0 U0 (k + 1) a mt Y → V G (AL G m0) yL_law cL_law 7 (some .boolean) 12 (a, mt, o) 1218 [some (.ref b), some (.ref q), some (.ref m0), some (.ref (m0 + 15)), some (vi (6 * (k : Int))), l5, l6] [] post
theorem blK {b : Int} {Y : SY} (hw : WfSy b Y) : Y.2.2.2.2.1 = 1 → BlindOk Y.2.2.2.2.2.1 Y.2.2.2.2.2.2.2.1.1 := by
  obtain ⟨tp, bx, hd, rf, il, ru, tl, s, ps, im⟩ := Y
  intro h
  obtain ⟨w1, w2, w3, w4, w5⟩ := hw.2.2.2.2.2.2.2.2 h
  exact blind_ok w1 w3.1.2.1
theorem wf_up {k : Nat} {Y : SY} (h : WfSy (12000 * (k : Int) + 12000) Y) : WfSy (12000 * ((k + 1 : Nat) : Int)) Y := h.mono (by omega)
theorem wf_up0 {k : Nat} {Y : SY} (h : WfSy (12000 * (k : Int)) Y) : WfSy (12000 * ((k + 1 : Nat) : Int)) Y := h.mono (by omega)
section OFAULT
variable {G : GT} {m0 n u : Nat} {F : HS} {d : Nat} {I : Nat → Int} {A : Nat → Int → Int} {D : Int64} {post : Option Value → MT → Prop} {S : SY} {b : Int}
theorem o_fault (hm : RepM I A S) (hw : WfSy b S) (hp : ∀ I' A', RepM I' A' S → post (some (vi (parF S.1).1)) (I', A', D)) : Cm G (AM G m0 F n u) yX12_fault cX12_fault 1 (some .int) (d + 8) [.ref m0] (I, A, D) post := by
  obtain ⟨tp, bx, hd, rf, il, ru, tl, s, ps, im⟩ := S
  refine c_fault hm.1.1 hm.1.2 hw.1.1 hw.1.2 (fun I' A' f1 f2 => hp I' A' (hm.scr (fun k hk => f1 k (fun h => hk ?_)) (fun j hj => f2 j (fun h => hj ?_))))
  · simp only [List.mem_cons, List.not_mem_nil, or_false] at h ⊢
    omega
  · simp only [List.mem_cons, List.not_mem_nil, or_false] at h ⊢
    omega
end OFAULT
section CASES
variable {G : GT} {b Ln q m0 C0 U0 k : Nat} {xs : Nat → Int32} {a : PT} {mt : MT} {o : Int64} {Y : SY} {l5 l6 : Option Value} {post : Option Value → LT → Prop}
theorem lc_0 (hG : LawG G b Ln xs C0 U0) (hk : 6 * (k : Int) + 6 ≤ Ln) (hI : LI q C0 U0 k a mt Y) (hT : LTail G b q m0 C0 U0 k post) : V G (AL G m0) yL_law cL_law 7 (some .boolean) 12 (a, mt, o) 196 [some (.ref b), some (.ref q), some (.ref m0), some (.ref (m0 + 15)), some (vi (6 * (k : Int))), l5, l6] [] post := by
  obtain ⟨T, N, R, P, S, cn, un⟩ := a
  obtain ⟨I, A, D⟩ := mt
  obtain ⟨hS, hLn, hC, hU, hst⟩ := hG
  obtain ⟨hP, hM, hW⟩ := hI
  have hM : RepM I A Y := hM
  have hb : 12000 * (k : Int) ≤ 80000000 := by omega
  have hb9 : 12000 * (k : Int) ≤ 90000000 := by omega
  have hc : C0 + k ≤ gN G := by omega
  have hu : U0 + 6 * k ≤ gU G := by omega
  refine s_aload_n 197 dL_law_196 rfl rfl ?_
  refine s_aload_n 198 dL_law_197 rfl rfl ?_
  refine s_iload 200 dL_law_198 rfl rfl ?_
  refine s_iconst 201 dL_law_200 rfl ?_
  refine s_iadd 202 dL_law_201 rfl ?_
  refine s_sld 203 dL_law_202 rfl hS (by omega) (by omega) ?_
  refine s_aload_n 204 dL_law_203 rfl rfl ?_
  refine s_iload 206 dL_law_204 rfl rfl ?_
  refine s_iconst 207 dL_law_206 rfl ?_
  refine s_iadd 208 dL_law_207 rfl ?_
  refine s_sld 209 dL_law_208 rfl hS (by omega) (by omega) ?_
  refine s_aload_n 210 dL_law_209 rfl rfl ?_
  refine s_iload 212 dL_law_210 rfl rfl ?_
  refine s_iconst 213 dL_law_212 rfl ?_
  refine s_iadd 214 dL_law_213 rfl ?_
  refine s_sld 215 dL_law_214 rfl hS (by omega) (by omega) ?_
  refine s_aload_n 216 dL_law_215 rfl rfl ?_
  refine s_iload 218 dL_law_216 rfl rfl ?_
  refine s_iconst 219 dL_law_218 rfl ?_
  refine s_iadd 220 dL_law_219 rfl ?_
  refine s_sld 221 dL_law_220 rfl hS (by omega) (by omega) ?_
  refine s_aload_n 222 dL_law_221 rfl rfl ?_
  refine s_iload 224 dL_law_222 rfl rfl ?_
  refine s_iconst 225 dL_law_224 rfl ?_
  refine s_iadd 226 dL_law_225 rfl ?_
  refine s_sld 227 dL_law_226 rfl hS (by omega) (by omega) ?_
  refine s_V5i 230 dL_law_227 rfl km_X11_feed ml_L_19 ds_X11_feed (Nat.le_of_ble_eq_true rfl) (al_recP hP.t12) rfl (l_prog (u_feed (scI_rg xs _) (scI_rg xs _) (scI_rg xs _) (scI_rg xs _) (scI_rg xs _) hP hW (fun a' hP' => ?_)))
  refine ⟨_, rfl, ?_⟩
  refine s_aload_n 231 dL_law_230 rfl rfl ?_
  refine s_aload_n 232 dL_law_231 rfl rfl ?_
  refine s_iload 234 dL_law_232 rfl rfl ?_
  refine s_iconst 235 dL_law_234 rfl ?_
  refine s_iadd 236 dL_law_235 rfl ?_
  refine s_sld 237 dL_law_236 rfl hS (by omega) (by omega) ?_
  refine s_aload_n 238 dL_law_237 rfl rfl ?_
  refine s_iload 240 dL_law_238 rfl rfl ?_
  refine s_iconst 241 dL_law_240 rfl ?_
  refine s_iadd 242 dL_law_241 rfl ?_
  refine s_sld 243 dL_law_242 rfl hS (by omega) (by omega) ?_
  refine s_aload_n 244 dL_law_243 rfl rfl ?_
  refine s_iload 246 dL_law_244 rfl rfl ?_
  refine s_iconst 247 dL_law_246 rfl ?_
  refine s_iadd 248 dL_law_247 rfl ?_
  refine s_sld 249 dL_law_248 rfl hS (by omega) (by omega) ?_
  refine s_aload_n 250 dL_law_249 rfl rfl ?_
  refine s_iload 252 dL_law_250 rfl rfl ?_
  refine s_iconst 253 dL_law_252 rfl ?_
  refine s_iadd 254 dL_law_253 rfl ?_
  refine s_sld 255 dL_law_254 rfl hS (by omega) (by omega) ?_
  refine s_aload_n 256 dL_law_255 rfl rfl ?_
  refine s_iload 258 dL_law_256 rfl rfl ?_
  refine s_iconst 259 dL_law_258 rfl ?_
  refine s_iadd 260 dL_law_259 rfl ?_
  refine s_sld 261 dL_law_260 rfl hS (by omega) (by omega) ?_
  refine s_V5i 264 dL_law_261 rfl km_X12_feed ml_L_23 ds_X12_feed (Nat.le_of_ble_eq_true rfl) al_recM rfl (l_ref (fun F n u => o_feed (scI_rg xs _) (scI_rg xs _) (scI_rg xs _) (scI_rg xs _) (scI_rg xs _) hM hW (fun I' A' hM' => ?_)))
  refine ⟨_, rfl, ?_⟩
  refine s_icmp_same 1218 dL_law_264 rfl ?_
  exact hT _ _ _ _ _ _ ⟨hP'.more (by omega) (by omega), hM', wf_up (k_feed hW _ _ _ _ _)⟩
theorem lc_1 (hG : LawG G b Ln xs C0 U0) (hk : 6 * (k : Int) + 6 ≤ Ln) (hI : LI q C0 U0 k a mt Y) (hT : LTail G b q m0 C0 U0 k post) : V G (AL G m0) yL_law cL_law 7 (some .boolean) 12 (a, mt, o) 269 [some (.ref b), some (.ref q), some (.ref m0), some (.ref (m0 + 15)), some (vi (6 * (k : Int))), l5, l6] [] post := by
  obtain ⟨T, N, R, P, S, cn, un⟩ := a
  obtain ⟨I, A, D⟩ := mt
  obtain ⟨hS, hLn, hC, hU, hst⟩ := hG
  obtain ⟨hP, hM, hW⟩ := hI
  have hM : RepM I A Y := hM
  have hb : 12000 * (k : Int) ≤ 80000000 := by omega
  have hb9 : 12000 * (k : Int) ≤ 90000000 := by omega
  have hc : C0 + k ≤ gN G := by omega
  have hu : U0 + 6 * k ≤ gU G := by omega
  refine s_aload_n 270 dL_law_269 rfl rfl ?_
  refine s_aload_n 271 dL_law_270 rfl rfl ?_
  refine s_iload 273 dL_law_271 rfl rfl ?_
  refine s_iconst 274 dL_law_273 rfl ?_
  refine s_iadd 275 dL_law_274 rfl ?_
  refine s_sld 276 dL_law_275 rfl hS (by omega) (by omega) ?_
  refine s_V1b 279 dL_law_276 rfl km_X11_end ml_L_24 ds_X11_end (Nat.le_of_ble_eq_true rfl) (al_recP hP.t12) rfl (l_prog (u_end (scI_rg xs _) hP hW (fun a' hP' => ?_)))
  refine ⟨_, rfl, ?_⟩
  refine s_aload_n 280 dL_law_279 rfl rfl ?_
  refine s_aload_n 281 dL_law_280 rfl rfl ?_
  refine s_iload 283 dL_law_281 rfl rfl ?_
  refine s_iconst 284 dL_law_283 rfl ?_
  refine s_iadd 285 dL_law_284 rfl ?_
  refine s_sld 286 dL_law_285 rfl hS (by omega) (by omega) ?_
  refine s_V1b 289 dL_law_286 rfl km_X12_end ml_L_28 ds_X12_end (Nat.le_of_ble_eq_true rfl) al_recM rfl (l_ref (fun F n u => o_end (scI_rg xs _) hM hW (fun I' A' hM' => ?_)))
  refine ⟨_, rfl, ?_⟩
  refine s_icmp_same 1218 dL_law_289 rfl ?_
  exact hT _ _ _ _ _ _ ⟨hP'.more (by omega) (by omega), hM', wf_up (k_end hW _)⟩
theorem lc_2 (hG : LawG G b Ln xs C0 U0) (hk : 6 * (k : Int) + 6 ≤ Ln) (hI : LI q C0 U0 k a mt Y) (hT : LTail G b q m0 C0 U0 k post) : V G (AL G m0) yL_law cL_law 7 (some .boolean) 12 (a, mt, o) 294 [some (.ref b), some (.ref q), some (.ref m0), some (.ref (m0 + 15)), some (vi (6 * (k : Int))), l5, l6] [] post := by
  obtain ⟨T, N, R, P, S, cn, un⟩ := a
  obtain ⟨I, A, D⟩ := mt
  obtain ⟨hS, hLn, hC, hU, hst⟩ := hG
  obtain ⟨hP, hM, hW⟩ := hI
  have hM : RepM I A Y := hM
  have hb : 12000 * (k : Int) ≤ 80000000 := by omega
  have hb9 : 12000 * (k : Int) ≤ 90000000 := by omega
  have hc : C0 + k ≤ gN G := by omega
  have hu : U0 + 6 * k ≤ gU G := by omega
  refine s_aload_n 295 dL_law_294 rfl rfl ?_
  refine s_V0i 298 dL_law_295 rfl km_X11_fault ml_L_29 ds_X11_fault (Nat.le_of_ble_eq_true rfl) (al_recP hP.t12) rfl (l_prog (u_fault hP hW (fun a' hP' => ?_)))
  refine ⟨_, rfl, ?_⟩
  refine s_aload_n 299 dL_law_298 rfl rfl ?_
  refine s_V0i 302 dL_law_299 rfl km_X12_fault ml_L_33 ds_X12_fault (Nat.le_of_ble_eq_true rfl) al_recM rfl (l_ref (fun F n u => o_fault hM hW (fun I' A' hM' => ?_)))
  refine ⟨_, rfl, ?_⟩
  refine s_icmp_same 1218 dL_law_302 rfl ?_
  exact hT _ _ _ _ _ _ ⟨hP'.more (by omega) (by omega), hM', wf_up0 hW⟩
theorem lc_3 (hG : LawG G b Ln xs C0 U0) (hk : 6 * (k : Int) + 6 ≤ Ln) (hI : LI q C0 U0 k a mt Y) (hT : LTail G b q m0 C0 U0 k post) : V G (AL G m0) yL_law cL_law 7 (some .boolean) 12 (a, mt, o) 307 [some (.ref b), some (.ref q), some (.ref m0), some (.ref (m0 + 15)), some (vi (6 * (k : Int))), l5, l6] [] post := by
  obtain ⟨T, N, R, P, S, cn, un⟩ := a
  obtain ⟨I, A, D⟩ := mt
  obtain ⟨hS, hLn, hC, hU, hst⟩ := hG
  obtain ⟨hP, hM, hW⟩ := hI
  have hM : RepM I A Y := hM
  have hb : 12000 * (k : Int) ≤ 80000000 := by omega
  have hb9 : 12000 * (k : Int) ≤ 90000000 := by omega
  have hc : C0 + k ≤ gN G := by omega
  have hu : U0 + 6 * k ≤ gU G := by omega
  refine s_aload_n 308 dL_law_307 rfl rfl ?_
  refine s_V0i 311 dL_law_308 rfl km_X11_line ml_L_34 ds_X11_line (Nat.le_of_ble_eq_true rfl) (al_recP hP.t12) rfl (l_prog (u_line hP hW (fun a' hP' hW' => ?_)))
  refine ⟨_, rfl, ?_⟩
  refine s_aload_n 312 dL_law_311 rfl rfl ?_
  refine s_V0i 315 dL_law_312 rfl km_X12_line ml_L_37 ds_X12_line (Nat.le_of_ble_eq_true rfl) al_recM rfl (l_ref (fun F n u => o_line hM hW (fun I' A' hM' => ?_)))
  refine ⟨_, rfl, ?_⟩
  refine s_icmp_same 1218 dL_law_315 rfl ?_
  exact hT _ _ _ _ _ _ ⟨hP'.more (by omega) (by omega), hM', wf_up0 hW'⟩
theorem lc_4 (hG : LawG G b Ln xs C0 U0) (hk : 6 * (k : Int) + 6 ≤ Ln) (hI : LI q C0 U0 k a mt Y) (hT : LTail G b q m0 C0 U0 k post) : V G (AL G m0) yL_law cL_law 7 (some .boolean) 12 (a, mt, o) 320 [some (.ref b), some (.ref q), some (.ref m0), some (.ref (m0 + 15)), some (vi (6 * (k : Int))), l5, l6] [] post := by
  obtain ⟨T, N, R, P, S, cn, un⟩ := a
  obtain ⟨I, A, D⟩ := mt
  obtain ⟨hS, hLn, hC, hU, hst⟩ := hG
  obtain ⟨hP, hM, hW⟩ := hI
  have hM : RepM I A Y := hM
  have hb : 12000 * (k : Int) ≤ 80000000 := by omega
  have hb9 : 12000 * (k : Int) ≤ 90000000 := by omega
  have hc : C0 + k ≤ gN G := by omega
  have hu : U0 + 6 * k ≤ gU G := by omega
  refine s_aload_n 321 dL_law_320 rfl rfl ?_
  refine s_aload_n 322 dL_law_321 rfl rfl ?_
  refine s_iload 324 dL_law_322 rfl rfl ?_
  refine s_iconst 325 dL_law_324 rfl ?_
  refine s_iadd 326 dL_law_325 rfl ?_
  refine s_sld 327 dL_law_326 rfl hS (by omega) (by omega) ?_
  refine s_V1i 330 dL_law_327 rfl km_X11_rule ml_L_38 ds_X11_rule (Nat.le_of_ble_eq_true rfl) (al_recP hP.t12) rfl (l_prog (u_rule (scI_rg xs _) hP hW (fun a' hP' => ?_)))
  refine ⟨_, rfl, ?_⟩
  refine s_aload_n 331 dL_law_330 rfl rfl ?_
  refine s_aload_n 332 dL_law_331 rfl rfl ?_
  refine s_iload 334 dL_law_332 rfl rfl ?_
  refine s_iconst 335 dL_law_334 rfl ?_
  refine s_iadd 336 dL_law_335 rfl ?_
  refine s_sld 337 dL_law_336 rfl hS (by omega) (by omega) ?_
  refine s_V1i 340 dL_law_337 rfl km_X12_rule ml_L_42 ds_X12_rule (Nat.le_of_ble_eq_true rfl) al_recM rfl (l_ref (fun F n u => o_rule (scI_rg xs _) hM hW hb9 (fun I' A' hM' => ?_)))
  refine ⟨_, rfl, ?_⟩
  refine s_icmp_same 1218 dL_law_340 rfl ?_
  exact hT _ _ _ _ _ _ ⟨hP'.more (by omega) (by omega), hM', wf_up0 hW⟩
theorem lc_5 (hG : LawG G b Ln xs C0 U0) (hk : 6 * (k : Int) + 6 ≤ Ln) (hI : LI q C0 U0 k a mt Y) (hT : LTail G b q m0 C0 U0 k post) : V G (AL G m0) yL_law cL_law 7 (some .boolean) 12 (a, mt, o) 345 [some (.ref b), some (.ref q), some (.ref m0), some (.ref (m0 + 15)), some (vi (6 * (k : Int))), l5, l6] [] post := by
  obtain ⟨T, N, R, P, S, cn, un⟩ := a
  obtain ⟨I, A, D⟩ := mt
  obtain ⟨hS, hLn, hC, hU, hst⟩ := hG
  obtain ⟨hP, hM, hW⟩ := hI
  have hM : RepM I A Y := hM
  have hb : 12000 * (k : Int) ≤ 80000000 := by omega
  have hb9 : 12000 * (k : Int) ≤ 90000000 := by omega
  have hc : C0 + k ≤ gN G := by omega
  have hu : U0 + 6 * k ≤ gU G := by omega
  refine s_aload_n 346 dL_law_345 rfl rfl ?_
  refine s_aload_n 347 dL_law_346 rfl rfl ?_
  refine s_iload 349 dL_law_347 rfl rfl ?_
  refine s_iconst 350 dL_law_349 rfl ?_
  refine s_iadd 351 dL_law_350 rfl ?_
  refine s_sld 352 dL_law_351 rfl hS (by omega) (by omega) ?_
  refine s_V1i 355 dL_law_352 rfl km_X11_send ml_L_43 ds_X11_send (Nat.le_of_ble_eq_true rfl) (al_recP hP.t12) rfl (l_prog (u_send (scI_rg xs _) hP hW hb hc hu (fun a' hP' => ?_)))
  refine ⟨_, rfl, ?_⟩
  refine s_aload_n 356 dL_law_355 rfl rfl ?_
  refine s_aload_n 357 dL_law_356 rfl rfl ?_
  refine s_iload 359 dL_law_357 rfl rfl ?_
  refine s_iconst 360 dL_law_359 rfl ?_
  refine s_iadd 361 dL_law_360 rfl ?_
  refine s_sld 362 dL_law_361 rfl hS (by omega) (by omega) ?_
  refine s_V1i 365 dL_law_362 rfl km_X12_send ml_L_46 ds_X12_send (Nat.le_of_ble_eq_true rfl) al_recM rfl (l_ref (fun F n u => o_send (scI_rg xs _) hM hW hb9 (fun I' A' hM' => ?_)))
  refine ⟨_, rfl, ?_⟩
  refine s_icmp_same 1218 dL_law_365 rfl ?_
  exact hT _ _ _ _ _ _ ⟨hP'.more (by omega) (by omega), hM', wf_up (k_send hW _)⟩
theorem lc_6 (hG : LawG G b Ln xs C0 U0) (hk : 6 * (k : Int) + 6 ≤ Ln) (hI : LI q C0 U0 k a mt Y) (hT : LTail G b q m0 C0 U0 k post) : V G (AL G m0) yL_law cL_law 7 (some .boolean) 12 (a, mt, o) 370 [some (.ref b), some (.ref q), some (.ref m0), some (.ref (m0 + 15)), some (vi (6 * (k : Int))), l5, l6] [] post := by
  obtain ⟨T, N, R, P, S, cn, un⟩ := a
  obtain ⟨I, A, D⟩ := mt
  obtain ⟨hS, hLn, hC, hU, hst⟩ := hG
  obtain ⟨hP, hM, hW⟩ := hI
  have hM : RepM I A Y := hM
  have hb : 12000 * (k : Int) ≤ 80000000 := by omega
  have hb9 : 12000 * (k : Int) ≤ 90000000 := by omega
  have hc : C0 + k ≤ gN G := by omega
  have hu : U0 + 6 * k ≤ gU G := by omega
  refine s_aload_n 371 dL_law_370 rfl rfl ?_
  refine s_aload_n 372 dL_law_371 rfl rfl ?_
  refine s_iload 374 dL_law_372 rfl rfl ?_
  refine s_iconst 375 dL_law_374 rfl ?_
  refine s_iadd 376 dL_law_375 rfl ?_
  refine s_sld 377 dL_law_376 rfl hS (by omega) (by omega) ?_
  refine s_V1i 380 dL_law_377 rfl km_X11_put ml_L_47 ds_X11_put (Nat.le_of_ble_eq_true rfl) (al_recP hP.t12) rfl (l_prog (u_put (scI_rg xs _) hP hW hb hc hu (fun a' hP' => ?_)))
  refine ⟨_, rfl, ?_⟩
  refine s_aload_n 381 dL_law_380 rfl rfl ?_
  refine s_aload_n 382 dL_law_381 rfl rfl ?_
  refine s_iload 384 dL_law_382 rfl rfl ?_
  refine s_iconst 385 dL_law_384 rfl ?_
  refine s_iadd 386 dL_law_385 rfl ?_
  refine s_sld 387 dL_law_386 rfl hS (by omega) (by omega) ?_
  refine s_V1i 390 dL_law_387 rfl km_X12_put ml_L_50 ds_X12_put (Nat.le_of_ble_eq_true rfl) al_recM rfl (l_ref (fun F n u => o_put (scI_rg xs _) hM hW hb9 (fun I' A' hM' => ?_)))
  refine ⟨_, rfl, ?_⟩
  refine s_icmp_same 1218 dL_law_390 rfl ?_
  exact hT _ _ _ _ _ _ ⟨hP'.more (by omega) (by omega), hM', wf_up (k_put hW _)⟩
theorem lc_7 (hG : LawG G b Ln xs C0 U0) (hk : 6 * (k : Int) + 6 ≤ Ln) (hI : LI q C0 U0 k a mt Y) (hT : LTail G b q m0 C0 U0 k post) : V G (AL G m0) yL_law cL_law 7 (some .boolean) 12 (a, mt, o) 395 [some (.ref b), some (.ref q), some (.ref m0), some (.ref (m0 + 15)), some (vi (6 * (k : Int))), l5, l6] [] post := by
  obtain ⟨T, N, R, P, S, cn, un⟩ := a
  obtain ⟨I, A, D⟩ := mt
  obtain ⟨hS, hLn, hC, hU, hst⟩ := hG
  obtain ⟨hP, hM, hW⟩ := hI
  have hM : RepM I A Y := hM
  have hb : 12000 * (k : Int) ≤ 80000000 := by omega
  have hb9 : 12000 * (k : Int) ≤ 90000000 := by omega
  have hc : C0 + k ≤ gN G := by omega
  have hu : U0 + 6 * k ≤ gU G := by omega
  refine s_aload_n 396 dL_law_395 rfl rfl ?_
  refine s_aload_n 397 dL_law_396 rfl rfl ?_
  refine s_iload 399 dL_law_397 rfl rfl ?_
  refine s_iconst 400 dL_law_399 rfl ?_
  refine s_iadd 401 dL_law_400 rfl ?_
  refine s_sld 402 dL_law_401 rfl hS (by omega) (by omega) ?_
  refine s_V1i 405 dL_law_402 rfl km_X11_byteAt ml_L_51 ds_X11_byteAt (Nat.le_of_ble_eq_true rfl) (al_recP hP.t12) rfl (l_prog (u_byteAt (scI_rg xs _) hP (fun a' hP' => ?_)))
  refine ⟨_, rfl, ?_⟩
  refine s_aload_n 406 dL_law_405 rfl rfl ?_
  refine s_aload_n 407 dL_law_406 rfl rfl ?_
  refine s_iload 409 dL_law_407 rfl rfl ?_
  refine s_iconst 410 dL_law_409 rfl ?_
  refine s_iadd 411 dL_law_410 rfl ?_
  refine s_sld 412 dL_law_411 rfl hS (by omega) (by omega) ?_
  refine s_V1i 415 dL_law_412 rfl km_X12_byteAt ml_L_54 ds_X12_byteAt (Nat.le_of_ble_eq_true rfl) al_recM rfl (l_ref (fun F n u => o_byteAt (scI_rg xs _) hM hW (fun I' A' hM' => ?_)))
  refine ⟨_, rfl, ?_⟩
  refine s_icmp_same 1218 dL_law_415 rfl ?_
  exact hT _ _ _ _ _ _ ⟨hP'.more (by omega) (by omega), hM', wf_up0 hW⟩
theorem lc_8 (hG : LawG G b Ln xs C0 U0) (hk : 6 * (k : Int) + 6 ≤ Ln) (hI : LI q C0 U0 k a mt Y) (hT : LTail G b q m0 C0 U0 k post) : V G (AL G m0) yL_law cL_law 7 (some .boolean) 12 (a, mt, o) 420 [some (.ref b), some (.ref q), some (.ref m0), some (.ref (m0 + 15)), some (vi (6 * (k : Int))), l5, l6] [] post := by
  obtain ⟨T, N, R, P, S, cn, un⟩ := a
  obtain ⟨I, A, D⟩ := mt
  obtain ⟨hS, hLn, hC, hU, hst⟩ := hG
  obtain ⟨hP, hM, hW⟩ := hI
  have hM : RepM I A Y := hM
  have hb : 12000 * (k : Int) ≤ 80000000 := by omega
  have hb9 : 12000 * (k : Int) ≤ 90000000 := by omega
  have hc : C0 + k ≤ gN G := by omega
  have hu : U0 + 6 * k ≤ gU G := by omega
  refine s_aload_n 421 dL_law_420 rfl rfl ?_
  refine s_aload_n 422 dL_law_421 rfl rfl ?_
  refine s_iload 424 dL_law_422 rfl rfl ?_
  refine s_iconst 425 dL_law_424 rfl ?_
  refine s_iadd 426 dL_law_425 rfl ?_
  refine s_sld 427 dL_law_426 rfl hS (by omega) (by omega) ?_
  refine s_aload_n 428 dL_law_427 rfl rfl ?_
  refine s_iload 430 dL_law_428 rfl rfl ?_
  refine s_iconst 431 dL_law_430 rfl ?_
  refine s_iadd 432 dL_law_431 rfl ?_
  refine s_sld 433 dL_law_432 rfl hS (by omega) (by omega) ?_
  refine s_V2i 436 dL_law_433 rfl km_X11_flip ml_L_55 ds_X11_flip (Nat.le_of_ble_eq_true rfl) (al_recP hP.t12) rfl (l_prog (u_flip (scI_rg xs _) (scI_rg xs _) hP hW hb hc hu (fun a' hP' => ?_)))
  refine ⟨_, rfl, ?_⟩
  refine s_aload_n 437 dL_law_436 rfl rfl ?_
  refine s_aload_n 438 dL_law_437 rfl rfl ?_
  refine s_iload 440 dL_law_438 rfl rfl ?_
  refine s_iconst 441 dL_law_440 rfl ?_
  refine s_iadd 442 dL_law_441 rfl ?_
  refine s_sld 443 dL_law_442 rfl hS (by omega) (by omega) ?_
  refine s_aload_n 444 dL_law_443 rfl rfl ?_
  refine s_iload 446 dL_law_444 rfl rfl ?_
  refine s_iconst 447 dL_law_446 rfl ?_
  refine s_iadd 448 dL_law_447 rfl ?_
  refine s_sld 449 dL_law_448 rfl hS (by omega) (by omega) ?_
  refine s_V2i 452 dL_law_449 rfl km_X12_flip ml_L_58 ds_X12_flip (Nat.le_of_ble_eq_true rfl) al_recM rfl (l_ref (fun F n u => o_flip (scI_rg xs _) (scI_rg xs _) hM hW hb9 (fun I' A' hM' => ?_)))
  refine ⟨_, rfl, ?_⟩
  refine s_icmp_same 1218 dL_law_452 rfl ?_
  exact hT _ _ _ _ _ _ ⟨hP'.more (by omega) (by omega), hM', wf_up (k_flip hW _ _)⟩
end CASES
