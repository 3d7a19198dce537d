section CASES
variable {G : GT} {b Ln q m0 C0 U0 k : Nat} {xs : Nat → Int32} {a : PT} {mt : MT} {o : Int64} {Y : SY} {l5 l6 : Option Value} {post : Option Value → LT → Prop}
theorem lc_9 (hG : LawG G b Ln xs C0 U0) (hk : 6 * (k : Int) + 6 ≤ Ln) (hI : LI q C0 U0 k a mt Y) (hT : LTail G b q m0 C0 U0 k post) : V G (AL G m0) yL_law cL_law 7 (some .boolean) 12 (a, mt, o) 457 [some (.ref b), some (.ref q), some (.ref m0), some (.ref (m0 + 15)), some (vi (6 * (k : Int))), l5, l6] [] post := by
  obtain ⟨T, N, R, P, S, cn, un⟩ := a
  obtain ⟨I, A, D⟩ := mt
  obtain ⟨hS, hLn, hC, hU, hst⟩ := hG
  obtain ⟨hP, hM, hW⟩ := hI
  have hM : RepM I A Y := hM
  have hb : 12000 * (k : Int) ≤ 80000000 := by omega
  have hb9 : 12000 * (k : Int) ≤ 90000000 := by omega
  have hc : C0 + k ≤ gN G := by omega
  have hu : U0 + 6 * k ≤ gU G := by omega
  refine s_aload_n 458 dL_law_457 rfl rfl ?_
  refine s_aload_n 459 dL_law_458 rfl rfl ?_
  refine s_iload 461 dL_law_459 rfl rfl ?_
  refine s_iconst 462 dL_law_461 rfl ?_
  refine s_iadd 463 dL_law_462 rfl ?_
  refine s_sld 464 dL_law_463 rfl hS (by omega) (by omega) ?_
  refine s_V1i 467 dL_law_464 rfl km_X11_lose ml_L_59 ds_X11_lose (Nat.le_of_ble_eq_true rfl) (al_recP hP.t12) rfl (l_prog (u_lose (scI_rg xs _) hP hW hb hc hu (fun a' hP' => ?_)))
  refine ⟨_, rfl, ?_⟩
  refine s_aload_n 468 dL_law_467 rfl rfl ?_
  refine s_aload_n 469 dL_law_468 rfl rfl ?_
  refine s_iload 471 dL_law_469 rfl rfl ?_
  refine s_iconst 472 dL_law_471 rfl ?_
  refine s_iadd 473 dL_law_472 rfl ?_
  refine s_sld 474 dL_law_473 rfl hS (by omega) (by omega) ?_
  refine s_V1i 477 dL_law_474 rfl km_X12_lose ml_L_62 ds_X12_lose (Nat.le_of_ble_eq_true rfl) al_recM rfl (l_ref (fun F n u => o_lose (scI_rg xs _) hM hW hb9 (fun I' A' hM' => ?_)))
  refine ⟨_, rfl, ?_⟩
  refine s_icmp_same 1218 dL_law_477 rfl ?_
  exact hT _ _ _ _ _ _ ⟨hP'.more (by omega) (by omega), hM', wf_up (k_lose hW _)⟩
theorem lc_10 (hG : LawG G b Ln xs C0 U0) (hk : 6 * (k : Int) + 6 ≤ Ln) (hI : LI q C0 U0 k a mt Y) (hT : LTail G b q m0 C0 U0 k post) : V G (AL G m0) yL_law cL_law 7 (some .boolean) 12 (a, mt, o) 482 [some (.ref b), some (.ref q), some (.ref m0), some (.ref (m0 + 15)), some (vi (6 * (k : Int))), l5, l6] [] post := by
  obtain ⟨T, N, R, P, S, cn, un⟩ := a
  obtain ⟨I, A, D⟩ := mt
  obtain ⟨hS, hLn, hC, hU, hst⟩ := hG
  obtain ⟨hP, hM, hW⟩ := hI
  have hM : RepM I A Y := hM
  have hb : 12000 * (k : Int) ≤ 80000000 := by omega
  have hb9 : 12000 * (k : Int) ≤ 90000000 := by omega
  have hc : C0 + k ≤ gN G := by omega
  have hu : U0 + 6 * k ≤ gU G := by omega
  refine s_aload_n 483 dL_law_482 rfl rfl ?_
  refine s_aload_n 484 dL_law_483 rfl rfl ?_
  refine s_iload 486 dL_law_484 rfl rfl ?_
  refine s_iconst 487 dL_law_486 rfl ?_
  refine s_iadd 488 dL_law_487 rfl ?_
  refine s_sld 489 dL_law_488 rfl hS (by omega) (by omega) ?_
  refine s_aload_n 490 dL_law_489 rfl rfl ?_
  refine s_iload 492 dL_law_490 rfl rfl ?_
  refine s_iconst 493 dL_law_492 rfl ?_
  refine s_iadd 494 dL_law_493 rfl ?_
  refine s_sld 495 dL_law_494 rfl hS (by omega) (by omega) ?_
  refine s_V2i 498 dL_law_495 rfl km_X11_insert ml_L_63 ds_X11_insert (Nat.le_of_ble_eq_true rfl) (al_recP hP.t12) rfl (l_prog (u_insert (scI_rg xs _) (scI_rg xs _) hP hW hb hc hu (fun a' hP' => ?_)))
  refine ⟨_, rfl, ?_⟩
  refine s_aload_n 499 dL_law_498 rfl rfl ?_
  refine s_aload_n 500 dL_law_499 rfl rfl ?_
  refine s_iload 502 dL_law_500 rfl rfl ?_
  refine s_iconst 503 dL_law_502 rfl ?_
  refine s_iadd 504 dL_law_503 rfl ?_
  refine s_sld 505 dL_law_504 rfl hS (by omega) (by omega) ?_
  refine s_aload_n 506 dL_law_505 rfl rfl ?_
  refine s_iload 508 dL_law_506 rfl rfl ?_
  refine s_iconst 509 dL_law_508 rfl ?_
  refine s_iadd 510 dL_law_509 rfl ?_
  refine s_sld 511 dL_law_510 rfl hS (by omega) (by omega) ?_
  refine s_V2i 514 dL_law_511 rfl km_X12_insert ml_L_66 ds_X12_insert (Nat.le_of_ble_eq_true rfl) al_recM rfl (l_ref (fun F n u => o_insert (scI_rg xs _) (scI_rg xs _) hM hW hb9 (fun I' A' hM' => ?_)))
  refine ⟨_, rfl, ?_⟩
  refine s_icmp_same 1218 dL_law_514 rfl ?_
  exact hT _ _ _ _ _ _ ⟨hP'.more (by omega) (by omega), hM', wf_up (k_insert hW _ _)⟩
theorem lc_11 (hG : LawG G b Ln xs C0 U0) (hk : 6 * (k : Int) + 6 ≤ Ln) (hI : LI q C0 U0 k a mt Y) (hT : LTail G b q m0 C0 U0 k post) : V G (AL G m0) yL_law cL_law 7 (some .boolean) 12 (a, mt, o) 519 [some (.ref b), some (.ref q), some (.ref m0), some (.ref (m0 + 15)), some (vi (6 * (k : Int))), l5, l6] [] post := by
  obtain ⟨T, N, R, P, S, cn, un⟩ := a
  obtain ⟨I, A, D⟩ := mt
  obtain ⟨hS, hLn, hC, hU, hst⟩ := hG
  obtain ⟨hP, hM, hW⟩ := hI
  have hM : RepM I A Y := hM
  have hb : 12000 * (k : Int) ≤ 80000000 := by omega
  have hb9 : 12000 * (k : Int) ≤ 90000000 := by omega
  have hc : C0 + k ≤ gN G := by omega
  have hu : U0 + 6 * k ≤ gU G := by omega
  refine s_aload_n 520 dL_law_519 rfl rfl ?_
  refine s_aload_n 521 dL_law_520 rfl rfl ?_
  refine s_iload 523 dL_law_521 rfl rfl ?_
  refine s_iconst 524 dL_law_523 rfl ?_
  refine s_iadd 525 dL_law_524 rfl ?_
  refine s_sld 526 dL_law_525 rfl hS (by omega) (by omega) ?_
  refine s_aload_n 527 dL_law_526 rfl rfl ?_
  refine s_iload 529 dL_law_527 rfl rfl ?_
  refine s_iconst 530 dL_law_529 rfl ?_
  refine s_iadd 531 dL_law_530 rfl ?_
  refine s_sld 532 dL_law_531 rfl hS (by omega) (by omega) ?_
  refine s_i2l 533 _ dL_law_532 rfl rfl ?_
  refine s_bipush (q := 535) (hd := dL_law_533) (hq := rfl) (k := ?_)
  refine s_lshl 536 dL_law_535 rfl ?_
  refine s_aload_n 537 dL_law_536 rfl rfl ?_
  refine s_iload 539 dL_law_537 rfl rfl ?_
  refine s_iconst 540 dL_law_539 rfl ?_
  refine s_iadd 541 dL_law_540 rfl ?_
  refine s_sld 542 dL_law_541 rfl hS (by omega) (by omega) ?_
  refine s_i2l 543 _ dL_law_542 rfl rfl ?_
  refine s_ldc2 546 dL_law_543 rfl kc_L_67 ?_
  refine s_land 547 dL_law_546 rfl ?_
  refine s_lor 548 dL_law_547 rfl ?_
  refine s_V2i 551 dL_law_548 rfl km_X11_noise ml_L_69 ds_X11_noise (Nat.le_of_ble_eq_true rfl) (al_recP hP.t12) rfl (l_prog (u_noise (scI_rg xs _) hP hW hb hc hu (fun a' hP' => ?_)))
  refine ⟨_, rfl, ?_⟩
  refine s_aload_n 552 dL_law_551 rfl rfl ?_
  refine s_aload_n 553 dL_law_552 rfl rfl ?_
  refine s_iload 555 dL_law_553 rfl rfl ?_
  refine s_iconst 556 dL_law_555 rfl ?_
  refine s_iadd 557 dL_law_556 rfl ?_
  refine s_sld 558 dL_law_557 rfl hS (by omega) (by omega) ?_
  refine s_aload_n 559 dL_law_558 rfl rfl ?_
  refine s_iload 561 dL_law_559 rfl rfl ?_
  refine s_iconst 562 dL_law_561 rfl ?_
  refine s_iadd 563 dL_law_562 rfl ?_
  refine s_sld 564 dL_law_563 rfl hS (by omega) (by omega) ?_
  refine s_i2l 565 _ dL_law_564 rfl rfl ?_
  refine s_bipush (q := 567) (hd := dL_law_565) (hq := rfl) (k := ?_)
  refine s_lshl 568 dL_law_567 rfl ?_
  refine s_aload_n 569 dL_law_568 rfl rfl ?_
  refine s_iload 571 dL_law_569 rfl rfl ?_
  refine s_iconst 572 dL_law_571 rfl ?_
  refine s_iadd 573 dL_law_572 rfl ?_
  refine s_sld 574 dL_law_573 rfl hS (by omega) (by omega) ?_
  refine s_i2l 575 _ dL_law_574 rfl rfl ?_
  refine s_ldc2 578 dL_law_575 rfl kc_L_67 ?_
  refine s_land 579 dL_law_578 rfl ?_
  refine s_lor 580 dL_law_579 rfl ?_
  refine s_V2i 583 dL_law_580 rfl km_X12_noise ml_L_73 ds_X12_noise (Nat.le_of_ble_eq_true rfl) al_recM rfl (l_ref (fun F n u => o_noise (scI_rg xs _) hM hW hb9 (fun I' A' D' hM' => ?_)))
  refine ⟨_, rfl, ?_⟩
  refine s_icmp_same 1218 dL_law_583 rfl ?_
  exact hT _ _ _ _ _ _ ⟨hP'.more (by omega) (by omega), hM', wf_up (k_noise hW _ _)⟩
theorem lc_12 (hG : LawG G b Ln xs C0 U0) (hk : 6 * (k : Int) + 6 ≤ Ln) (hI : LI q C0 U0 k a mt Y) (hT : LTail G b q m0 C0 U0 k post) : V G (AL G m0) yL_law cL_law 7 (some .boolean) 12 (a, mt, o) 588 [some (.ref b), some (.ref q), some (.ref m0), some (.ref (m0 + 15)), some (vi (6 * (k : Int))), l5, l6] [] post := by
  obtain ⟨T, N, R, P, S, cn, un⟩ := a
  obtain ⟨I, A, D⟩ := mt
  obtain ⟨hS, hLn, hC, hU, hst⟩ := hG
  obtain ⟨hP, hM, hW⟩ := hI
  have hM : RepM I A Y := hM
  have hb : 12000 * (k : Int) ≤ 80000000 := by omega
  have hb9 : 12000 * (k : Int) ≤ 90000000 := by omega
  have hc : C0 + k ≤ gN G := by omega
  have hu : U0 + 6 * k ≤ gU G := by omega
  refine s_aload_n 589 dL_law_588 rfl rfl ?_
  refine s_aload_n 590 dL_law_589 rfl rfl ?_
  refine s_iload 592 dL_law_590 rfl rfl ?_
  refine s_iconst 593 dL_law_592 rfl ?_
  refine s_iadd 594 dL_law_593 rfl ?_
  refine s_sld 595 dL_law_594 rfl hS (by omega) (by omega) ?_
  refine s_V1i 598 dL_law_595 rfl km_X11_read ml_L_74 ds_X11_read (Nat.le_of_ble_eq_true rfl) (al_recP hP.t12) rfl (l_prog (u_read (scI_rg xs _) hP hW hb hc hu (fun a' hP' => ?_)))
  refine ⟨_, rfl, ?_⟩
  refine s_aload_n 599 dL_law_598 rfl rfl ?_
  refine s_aload_n 600 dL_law_599 rfl rfl ?_
  refine s_iload 602 dL_law_600 rfl rfl ?_
  refine s_iconst 603 dL_law_602 rfl ?_
  refine s_iadd 604 dL_law_603 rfl ?_
  refine s_sld 605 dL_law_604 rfl hS (by omega) (by omega) ?_
  refine s_V1i 608 dL_law_605 rfl km_X12_read ml_L_77 ds_X12_read (Nat.le_of_ble_eq_true rfl) al_recM rfl (l_ref (fun F n u => o_read (scI_rg xs _) hM hW hb9 (fun I' A' hM' => ?_)))
  refine ⟨_, rfl, ?_⟩
  refine s_icmp_same 1218 dL_law_608 rfl ?_
  exact hT _ _ _ _ _ _ ⟨hP'.more (by omega) (by omega), hM', wf_up (k_read hW _)⟩
theorem lc_13 (hG : LawG G b Ln xs C0 U0) (hk : 6 * (k : Int) + 6 ≤ Ln) (hI : LI q C0 U0 k a mt Y) (hT : LTail G b q m0 C0 U0 k post) : V G (AL G m0) yL_law cL_law 7 (some .boolean) 12 (a, mt, o) 613 [some (.ref b), some (.ref q), some (.ref m0), some (.ref (m0 + 15)), some (vi (6 * (k : Int))), l5, l6] [] post := by
  obtain ⟨T, N, R, P, S, cn, un⟩ := a
  obtain ⟨I, A, D⟩ := mt
  obtain ⟨hS, hLn, hC, hU, hst⟩ := hG
  obtain ⟨hP, hM, hW⟩ := hI
  have hM : RepM I A Y := hM
  have hb : 12000 * (k : Int) ≤ 80000000 := by omega
  have hb9 : 12000 * (k : Int) ≤ 90000000 := by omega
  have hc : C0 + k ≤ gN G := by omega
  have hu : U0 + 6 * k ≤ gU G := by omega
  refine s_aload_n 614 dL_law_613 rfl rfl ?_
  refine s_aload_n 615 dL_law_614 rfl rfl ?_
  refine s_iload 617 dL_law_615 rfl rfl ?_
  refine s_iconst 618 dL_law_617 rfl ?_
  refine s_iadd 619 dL_law_618 rfl ?_
  refine s_sld 620 dL_law_619 rfl hS (by omega) (by omega) ?_
  refine s_V1i 623 dL_law_620 rfl km_X11_take ml_L_78 ds_X11_take (Nat.le_of_ble_eq_true rfl) (al_recP hP.t12) rfl (l_prog (u_take (scI_rg xs _) hP hW hb hc hu (fun a' hP' => ?_)))
  refine ⟨_, rfl, ?_⟩
  refine s_aload_n 624 dL_law_623 rfl rfl ?_
  refine s_aload_n 625 dL_law_624 rfl rfl ?_
  refine s_iload 627 dL_law_625 rfl rfl ?_
  refine s_iconst 628 dL_law_627 rfl ?_
  refine s_iadd 629 dL_law_628 rfl ?_
  refine s_sld 630 dL_law_629 rfl hS (by omega) (by omega) ?_
  refine s_V1i 633 dL_law_630 rfl km_X12_take ml_L_81 ds_X12_take (Nat.le_of_ble_eq_true rfl) al_recM rfl (l_ref (fun F n u => o_take (scI_rg xs _) hM hW hb9 (fun I' A' hM' => ?_)))
  refine ⟨_, rfl, ?_⟩
  refine s_icmp_same 1218 dL_law_633 rfl ?_
  exact hT _ _ _ _ _ _ ⟨hP'.more (by omega) (by omega), hM', wf_up (k_take hW _)⟩
theorem lc_14 (hG : LawG G b Ln xs C0 U0) (hk : 6 * (k : Int) + 6 ≤ Ln) (hI : LI q C0 U0 k a mt Y) (hT : LTail G b q m0 C0 U0 k post) : V G (AL G m0) yL_law cL_law 7 (some .boolean) 12 (a, mt, o) 638 [some (.ref b), some (.ref q), some (.ref m0), some (.ref (m0 + 15)), some (vi (6 * (k : Int))), l5, l6] [] post := by
  obtain ⟨T, N, R, P, S, cn, un⟩ := a
  obtain ⟨I, A, D⟩ := mt
  obtain ⟨hS, hLn, hC, hU, hst⟩ := hG
  obtain ⟨hP, hM, hW⟩ := hI
  have hM : RepM I A Y := hM
  have hb : 12000 * (k : Int) ≤ 80000000 := by omega
  have hb9 : 12000 * (k : Int) ≤ 90000000 := by omega
  have hc : C0 + k ≤ gN G := by omega
  have hu : U0 + 6 * k ≤ gU G := by omega
  refine s_aload_n 639 dL_law_638 rfl rfl ?_
  refine s_aload_n 640 dL_law_639 rfl rfl ?_
  refine s_iload 642 dL_law_640 rfl rfl ?_
  refine s_iconst 643 dL_law_642 rfl ?_
  refine s_iadd 644 dL_law_643 rfl ?_
  refine s_sld 645 dL_law_644 rfl hS (by omega) (by omega) ?_
  refine s_V1i 648 dL_law_645 rfl km_X11_hand ml_L_82 ds_X11_hand (Nat.le_of_ble_eq_true rfl) (al_recP hP.t12) rfl (l_prog (u_hand (scI_rg xs _) hP (fun a' hP' => ?_)))
  refine ⟨_, rfl, ?_⟩
  refine s_aload_n 649 dL_law_648 rfl rfl ?_
  refine s_aload_n 650 dL_law_649 rfl rfl ?_
  refine s_iload 652 dL_law_650 rfl rfl ?_
  refine s_iconst 653 dL_law_652 rfl ?_
  refine s_iadd 654 dL_law_653 rfl ?_
  refine s_sld 655 dL_law_654 rfl hS (by omega) (by omega) ?_
  refine s_V1i 658 dL_law_655 rfl km_X12_hand ml_L_85 ds_X12_hand (Nat.le_of_ble_eq_true rfl) al_recM rfl (l_ref (fun F n u => o_hand (scI_rg xs _) hM hW (fun I' A' hM' => ?_)))
  refine ⟨_, rfl, ?_⟩
  refine s_icmp_same 1218 dL_law_658 rfl ?_
  exact hT _ _ _ _ _ _ ⟨hP'.more (by omega) (by omega), hM', wf_up0 hW⟩
theorem lc_15 (hG : LawG G b Ln xs C0 U0) (hk : 6 * (k : Int) + 6 ≤ Ln) (hI : LI q C0 U0 k a mt Y) (hT : LTail G b q m0 C0 U0 k post) : V G (AL G m0) yL_law cL_law 7 (some .boolean) 12 (a, mt, o) 663 [some (.ref b), some (.ref q), some (.ref m0), some (.ref (m0 + 15)), some (vi (6 * (k : Int))), l5, l6] [] post := by
  obtain ⟨T, N, R, P, S, cn, un⟩ := a
  obtain ⟨I, A, D⟩ := mt
  obtain ⟨hS, hLn, hC, hU, hst⟩ := hG
  obtain ⟨hP, hM, hW⟩ := hI
  have hM : RepM I A Y := hM
  have hb : 12000 * (k : Int) ≤ 80000000 := by omega
  have hb9 : 12000 * (k : Int) ≤ 90000000 := by omega
  have hc : C0 + k ≤ gN G := by omega
  have hu : U0 + 6 * k ≤ gU G := by omega
  refine s_aload_n 664 dL_law_663 rfl rfl ?_
  refine s_aload_n 665 dL_law_664 rfl rfl ?_
  refine s_iload 667 dL_law_665 rfl rfl ?_
  refine s_iconst 668 dL_law_667 rfl ?_
  refine s_iadd 669 dL_law_668 rfl ?_
  refine s_sld 670 dL_law_669 rfl hS (by omega) (by omega) ?_
  refine s_V1i 673 dL_law_670 rfl km_X11_renew ml_L_86 ds_X11_renew (Nat.le_of_ble_eq_true rfl) (al_recP hP.t12) rfl (l_prog (u_renew (scI_rg xs _) hP hW hb hc hu (fun a' hP' => ?_)))
  refine ⟨_, rfl, ?_⟩
  refine s_aload_n 674 dL_law_673 rfl rfl ?_
  refine s_aload_n 675 dL_law_674 rfl rfl ?_
  refine s_iload 677 dL_law_675 rfl rfl ?_
  refine s_iconst 678 dL_law_677 rfl ?_
  refine s_iadd 679 dL_law_678 rfl ?_
  refine s_sld 680 dL_law_679 rfl hS (by omega) (by omega) ?_
  refine s_V1i 683 dL_law_680 rfl km_X12_renew ml_L_89 ds_X12_renew (Nat.le_of_ble_eq_true rfl) al_recM rfl (l_ref (fun F n u => o_renew (scI_rg xs _) hM hW hb9 (fun I' A' hM' => ?_)))
  refine ⟨_, rfl, ?_⟩
  refine s_icmp_same 1218 dL_law_683 rfl ?_
  exact hT _ _ _ _ _ _ ⟨hP'.more (by omega) (by omega), hM', wf_up (k_renew hW _)⟩
theorem lc_16 (hG : LawG G b Ln xs C0 U0) (hk : 6 * (k : Int) + 6 ≤ Ln) (hI : LI q C0 U0 k a mt Y) (hT : LTail G b q m0 C0 U0 k post) : V G (AL G m0) yL_law cL_law 7 (some .boolean) 12 (a, mt, o) 688 [some (.ref b), some (.ref q), some (.ref m0), some (.ref (m0 + 15)), some (vi (6 * (k : Int))), l5, l6] [] post := by
  obtain ⟨T, N, R, P, S, cn, un⟩ := a
  obtain ⟨I, A, D⟩ := mt
  obtain ⟨hS, hLn, hC, hU, hst⟩ := hG
  obtain ⟨hP, hM, hW⟩ := hI
  have hM : RepM I A Y := hM
  have hb : 12000 * (k : Int) ≤ 80000000 := by omega
  have hb9 : 12000 * (k : Int) ≤ 90000000 := by omega
  have hc : C0 + k ≤ gN G := by omega
  have hu : U0 + 6 * k ≤ gU G := by omega
  refine s_aload_n 689 dL_law_688 rfl rfl ?_
  refine s_aload_n 690 dL_law_689 rfl rfl ?_
  refine s_iload 692 dL_law_690 rfl rfl ?_
  refine s_iconst 693 dL_law_692 rfl ?_
  refine s_iadd 694 dL_law_693 rfl ?_
  refine s_sld 695 dL_law_694 rfl hS (by omega) (by omega) ?_
  refine s_aload_n 696 dL_law_695 rfl rfl ?_
  refine s_iload 698 dL_law_696 rfl rfl ?_
  refine s_iconst 699 dL_law_698 rfl ?_
  refine s_iadd 700 dL_law_699 rfl ?_
  refine s_sld 701 dL_law_700 rfl hS (by omega) (by omega) ?_
  refine s_aload_n 702 dL_law_701 rfl rfl ?_
  refine s_callSW (K := fun v s => (∃ c a', aChan Y (scI xs (6 * (k : Int) + 1).toNat) (scI xs (6 * (k : Int) + 2).toNat) = some c ∧ RepP q (C0 + k) (U0 + 6 * k) a' Y ∧ v = some (vi 0) ∧ s = (a', (I, A, D), (Int32.ofInt c).toInt64)) ∨ (aChan Y (scI xs (6 * (k : Int) + 1).toNat) (scI xs (6 * (k : Int) + 2).toNat) = none ∧ ∃ a', RepP q (C0 + k + 1) (U0 + 6 * k + 6) a' Y ∧ v = some (vi 1) ∧ s = (a', (I, A, D), o))) [.ref q, vi (scI xs (6 * (k : Int) + 1).toNat), vi (scI xs (6 * (k : Int) + 2).toNat), .ref (m0 + 15)] (rest := []) 705 dL_law_702 rfl cw_L_channel sq_L_channel it_L ⟨by decide, by decide⟩ (by decide) ml_L_90 (show _ = some 4 by decide +kernel) (Nat.le_of_ble_eq_true rfl) (l_channel (d := 4) hst (scI_rg xs _) (scI_rg xs _) hP hW (by omega) (by omega) (fun c h a' hP' => Or.inl ⟨c, a', h, hP', rfl, rfl⟩) (fun h a' hP' => Or.inr ⟨h, a', hP', rfl, rfl⟩)) ?_
  rintro v s (⟨c, a', hc9, hP', rfl, rfl⟩ | ⟨hc9, a', hP', rfl, rfl⟩)
  · refine s_istore 707 dL_law_705 rfl (Nat.le_of_ble_eq_true rfl) rfl ?_
    refine s_aload_n 708 dL_law_707 rfl rfl ?_
    refine s_aload_n 709 dL_law_708 rfl rfl ?_
    refine s_iload 711 dL_law_709 rfl rfl ?_
    refine s_iconst 712 dL_law_711 rfl ?_
    refine s_iadd 713 dL_law_712 rfl ?_
    refine s_sld 714 dL_law_713 rfl hS (by omega) (by omega) ?_
    refine s_aload_n 715 dL_law_714 rfl rfl ?_
    refine s_iload 717 dL_law_715 rfl rfl ?_
    refine s_iconst 718 dL_law_717 rfl ?_
    refine s_iadd 719 dL_law_718 rfl ?_
    refine s_sld 720 dL_law_719 rfl hS (by omega) (by omega) ?_
    refine s_V2i 723 dL_law_720 rfl km_X12_channel ml_L_95 ds_X12_channel (Nat.le_of_ble_eq_true rfl) al_recM rfl (l_ref (fun F n u => o_channel (scI_rg xs _) (scI_rg xs _) hM hW hb9 (fun I' A' hM' h0 => ?_)))
    refine ⟨_, rfl, ?_⟩
    rw [hc9] at h0
    have h0 : I' 0 = 0 := h0
    refine s_istore 725 dL_law_723 rfl (Nat.le_of_ble_eq_true rfl) rfl ?_
    refine s_aload_n 726 dL_law_725 rfl rfl ?_
    refine s_V0i 729 dL_law_726 rfl km_X12_thrown ml_L_96 ds_X12_thrown (Nat.le_of_ble_eq_true rfl) al_recM rfl (l_ref (fun F n u => o_thrown ?_))
    refine ⟨_, rfl, ?_⟩
    rw [h0]
    refine s_iload 731 dL_law_729 rfl rfl ?_
    refine s_icmp_same 736 dL_law_731 rfl ?_
    refine s_iload 738 dL_law_736 rfl rfl ?_
    refine s_if_ne 741 753 dL_law_738 rfl rfl (fun h => absurd rfl h) (fun _ => ?_)
    refine s_aload_n 742 dL_law_741 rfl rfl ?_
    refine s_iconst 743 dL_law_742 rfl ?_
    refine al_lald 744 dL_law_743 rfl ?_
    refine s_iload 746 dL_law_744 rfl rfl ?_
    refine s_i2l 747 _ dL_law_746 rfl rfl ?_
    rw [hc9]
    refine s_lcmp_same 753 dL_law_747 dL_law_748 rfl ?_
    refine s_goto 1218 dL_law_753 rfl ?_
    exact hT _ _ _ _ _ _ ⟨hP'.more (by omega) (by omega), hM', wf_up0 hW⟩
  · refine s_istore 707 dL_law_705 rfl (Nat.le_of_ble_eq_true rfl) rfl ?_
    refine s_aload_n 708 dL_law_707 rfl rfl ?_
    refine s_aload_n 709 dL_law_708 rfl rfl ?_
    refine s_iload 711 dL_law_709 rfl rfl ?_
    refine s_iconst 712 dL_law_711 rfl ?_
    refine s_iadd 713 dL_law_712 rfl ?_
    refine s_sld 714 dL_law_713 rfl hS (by omega) (by omega) ?_
    refine s_aload_n 715 dL_law_714 rfl rfl ?_
    refine s_iload 717 dL_law_715 rfl rfl ?_
    refine s_iconst 718 dL_law_717 rfl ?_
    refine s_iadd 719 dL_law_718 rfl ?_
    refine s_sld 720 dL_law_719 rfl hS (by omega) (by omega) ?_
    refine s_V2i 723 dL_law_720 rfl km_X12_channel ml_L_95 ds_X12_channel (Nat.le_of_ble_eq_true rfl) al_recM rfl (l_ref (fun F n u => o_channel (scI_rg xs _) (scI_rg xs _) hM hW hb9 (fun I' A' hM' h0 => ?_)))
    refine ⟨_, rfl, ?_⟩
    rw [hc9] at h0
    have h0 : I' 0 = 1 := h0
    refine s_istore 725 dL_law_723 rfl (Nat.le_of_ble_eq_true rfl) rfl ?_
    refine s_aload_n 726 dL_law_725 rfl rfl ?_
    refine s_V0i 729 dL_law_726 rfl km_X12_thrown ml_L_96 ds_X12_thrown (Nat.le_of_ble_eq_true rfl) al_recM rfl (l_ref (fun F n u => o_thrown ?_))
    refine ⟨_, rfl, ?_⟩
    rw [h0]
    refine s_iload 731 dL_law_729 rfl rfl ?_
    refine s_icmp_same 736 dL_law_731 rfl ?_
    refine s_iload 738 dL_law_736 rfl rfl ?_
    refine s_if_ne 741 753 dL_law_738 rfl rfl (fun _ => ?_) (fun h => absurd h (by decide))
    refine s_goto 1218 dL_law_753 rfl ?_
    exact hT _ _ _ _ _ _ ⟨hP'.more (by omega) (by omega), hM', wf_up0 hW⟩
theorem lc_17 (hG : LawG G b Ln xs C0 U0) (hk : 6 * (k : Int) + 6 ≤ Ln) (hI : LI q C0 U0 k a mt Y) (hT : LTail G b q m0 C0 U0 k post) : V G (AL G m0) yL_law cL_law 7 (some .boolean) 12 (a, mt, o) 756 [some (.ref b), some (.ref q), some (.ref m0), some (.ref (m0 + 15)), some (vi (6 * (k : Int))), l5, l6] [] post := by
  obtain ⟨T, N, R, P, S, cn, un⟩ := a
  obtain ⟨I, A, D⟩ := mt
  obtain ⟨hS, hLn, hC, hU, hst⟩ := hG
  obtain ⟨hP, hM, hW⟩ := hI
  have hM : RepM I A Y := hM
  have hb : 12000 * (k : Int) ≤ 80000000 := by omega
  have hb9 : 12000 * (k : Int) ≤ 90000000 := by omega
  have hc : C0 + k ≤ gN G := by omega
  have hu : U0 + 6 * k ≤ gU G := by omega
  refine s_aload_n 757 dL_law_756 rfl rfl ?_
  refine s_aload_n 758 dL_law_757 rfl rfl ?_
  refine s_iload 760 dL_law_758 rfl rfl ?_
  refine s_iconst 761 dL_law_760 rfl ?_
  refine s_iadd 762 dL_law_761 rfl ?_
  refine s_sld 763 dL_law_762 rfl hS (by omega) (by omega) ?_
  refine s_aload_n 764 dL_law_763 rfl rfl ?_
  refine s_iload 766 dL_law_764 rfl rfl ?_
  refine s_iconst 767 dL_law_766 rfl ?_
  refine s_iadd 768 dL_law_767 rfl ?_
  refine s_sld 769 dL_law_768 rfl hS (by omega) (by omega) ?_
  refine s_V2i 772 dL_law_769 rfl km_X11_event ml_L_99 ds_X11_event (Nat.le_of_ble_eq_true rfl) (al_recP hP.t12) rfl (l_prog (u_event (scI_rg xs _) (scI_rg xs _) hP hW (fun a' hP' => ?_)))
  refine ⟨_, rfl, ?_⟩
  refine s_aload_n 773 dL_law_772 rfl rfl ?_
  refine s_aload_n 774 dL_law_773 rfl rfl ?_
  refine s_iload 776 dL_law_774 rfl rfl ?_
  refine s_iconst 777 dL_law_776 rfl ?_
  refine s_iadd 778 dL_law_777 rfl ?_
  refine s_sld 779 dL_law_778 rfl hS (by omega) (by omega) ?_
  refine s_aload_n 780 dL_law_779 rfl rfl ?_
  refine s_iload 782 dL_law_780 rfl rfl ?_
  refine s_iconst 783 dL_law_782 rfl ?_
  refine s_iadd 784 dL_law_783 rfl ?_
  refine s_sld 785 dL_law_784 rfl hS (by omega) (by omega) ?_
  refine s_V2i 788 dL_law_785 rfl km_X12_event_ ml_L_102 ds_X12_event_ (Nat.le_of_ble_eq_true rfl) al_recM rfl (l_ref (fun F n u => o_event (scI_rg xs _) (scI_rg xs _) hM hW hb9 (fun I' A' hM' => ?_)))
  refine ⟨_, rfl, ?_⟩
  refine s_icmp_same 1218 dL_law_788 rfl ?_
  exact hT _ _ _ _ _ _ ⟨hP'.more (by omega) (by omega), hM', wf_up0 hW⟩
end CASES
