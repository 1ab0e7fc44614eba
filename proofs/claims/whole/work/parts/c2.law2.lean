set_option maxRecDepth 20000 in
set_option maxHeartbeats 4000000 in
theorem lw_c8 {nm : String} {E : zE} {L : Nat} {xs : Nat → Int32} {Q : zQx} {k i n : Nat} {S : zM} {s : zST} (hE : zOKE E) (hX : zOKX E) (hl0 : ∀ l s c, Q.1 l s c → l.stackTraces = false) (hs : zScr E L xs) (h4 : L ≤ 4608) (hi : i + 9 ≤ L) (hn : n + 1 < 600) (hI : zLI n S s) (fin : ∀ (T : zM) (s' : zST), zLI (n + 1) T s' → zJx E 10 (24 * k) (614 * k) (mL_law nm) cL_law 1812 (zll i) [] T Q) : zJx E 10 (24 * (k + 1)) (614 * (k + 1)) (mL_law nm) cL_law 465 (zll i) [] S Q := by
  obtain ⟨hC, hM, hW, hO⟩ := id hI
  have k1 := hC.1.1
  refine x_aload_n (pc := 465) dL_law_465 rfl ?_
  refine x_aload_nq (pc := 466) dL_law_466 rfl ?_
  refine x_iload (pc := 467) dL_law_467 rfl ?_
  refine x_iconst (pc := 469) (v := 1) dL_law_469 (by decide) ?_
  refine x_iadd (pc := 470) dL_law_470 ?_
  refine x_sld (pc := 471) (j := i + 1) hs h4 dL_law_471 (nI_p1 i) (by omega) ?_
  refine x_aload_nq (pc := 472) dL_law_472 rfl ?_
  refine x_iload (pc := 473) dL_law_473 rfl ?_
  refine x_iconst (pc := 475) (v := 2) dL_law_475 (by decide) ?_
  refine x_iadd (pc := 476) dL_law_476 ?_
  refine x_sld (pc := 477) (j := i + 2) hs h4 dL_law_477 (nI_p2 i) (by omega) ?_
  refine x_aload_nq (pc := 478) dL_law_478 rfl ?_
  refine x_iload (pc := 479) dL_law_479 rfl ?_
  refine x_iconst (pc := 481) (v := 3) dL_law_481 (by decide) ?_
  refine x_iadd (pc := 482) dL_law_482 ?_
  refine x_sld (pc := 483) (j := i + 3) hs h4 dL_law_483 (nI_p3 i) (by omega) ?_
  refine x_callV (pc := 484) (t := 11) (mc2 := 24 * k) (ms2 := 614 * k) (p_was hC hW (xs (i + 1)) (xs (i + 2)) (xs (i + 3))) dL_law_484 l_L_55 mk_X11_was mv_X11_was (by decide) rfl k1 (by decide) rfl rfl (Nat.le_of_ble_eq_true rfl) (by omega) (by omega) (fun r T g1 => ?_)
  obtain ⟨rfl, hC1, hQ1⟩ := g1
  have hM1 := hI.m hQ1
  refine x_aload_n (pc := 487) dL_law_487 rfl ?_
  refine x_aload_nq (pc := 488) dL_law_488 rfl ?_
  refine x_iload (pc := 489) dL_law_489 rfl ?_
  refine x_iconst (pc := 491) (v := 1) dL_law_491 (by decide) ?_
  refine x_iadd (pc := 492) dL_law_492 ?_
  refine x_sld (pc := 493) (j := i + 1) hs h4 dL_law_493 (nI_p1 i) (by omega) ?_
  refine x_aload_nq (pc := 494) dL_law_494 rfl ?_
  refine x_iload (pc := 495) dL_law_495 rfl ?_
  refine x_iconst (pc := 497) (v := 2) dL_law_497 (by decide) ?_
  refine x_iadd (pc := 498) dL_law_498 ?_
  refine x_sld (pc := 499) (j := i + 2) hs h4 dL_law_499 (nI_p2 i) (by omega) ?_
  refine x_aload_nq (pc := 500) dL_law_500 rfl ?_
  refine x_iload (pc := 501) dL_law_501 rfl ?_
  refine x_iconst (pc := 503) (v := 3) dL_law_503 (by decide) ?_
  refine x_iadd (pc := 504) dL_law_504 ?_
  refine x_sld (pc := 505) (j := i + 3) hs h4 dL_law_505 (nI_p3 i) (by omega) ?_
  refine x_callV (pc := 506) (t := 12) (m_was hM1 hW (xs (i + 1)) (xs (i + 2)) (xs (i + 3))) dL_law_506 l_L_59 mk_X12_was mv_X12_was (by decide) rfl hM1.1.1 (by decide) rfl rfl (Nat.le_of_ble_eq_true rfl) (Nat.le_refl _) (Nat.le_refl _) (fun r T2 g2 => ?_)
  obtain ⟨rfl, hM2, hF2⟩ := g2
  refine x_lcmp (pc := 509) dL_law_509 ?_
  refine x_if_eq (pc := 510) (tgt := 1812) dL_law_510 (by decide) (fun _ => ?_) (fun g => absurd ((lg_cmp_eq _ _).mpr rfl) g)
  exact fin _ _ (hI.next hQ1 hC1 hF2 hM2 (w_was hW hn (xs (i + 1)) (xs (i + 2)) (xs (i + 3))))
set_option maxRecDepth 20000 in
set_option maxHeartbeats 4000000 in
theorem lw_c9 {nm : String} {E : zE} {L : Nat} {xs : Nat → Int32} {Q : zQx} {k i n : Nat} {S : zM} {s : zST} (hE : zOKE E) (hX : zOKX E) (hl0 : ∀ l s c, Q.1 l s c → l.stackTraces = false) (hs : zScr E L xs) (h4 : L ≤ 4608) (hi : i + 9 ≤ L) (hn : n + 1 < 600) (hI : zLI n S s) (fin : ∀ (T : zM) (s' : zST), zLI (n + 1) T s' → zJx E 10 (24 * k) (614 * k) (mL_law nm) cL_law 1812 (zll i) [] T Q) : zJx E 10 (24 * (k + 1)) (614 * (k + 1)) (mL_law nm) cL_law 515 (zll i) [] S Q := by
  obtain ⟨hC, hM, hW, hO⟩ := id hI
  have k1 := hC.1.1
  refine x_aload_n (pc := 515) dL_law_515 rfl ?_
  refine x_aload_nq (pc := 516) dL_law_516 rfl ?_
  refine x_iload (pc := 517) dL_law_517 rfl ?_
  refine x_iconst (pc := 519) (v := 1) dL_law_519 (by decide) ?_
  refine x_iadd (pc := 520) dL_law_520 ?_
  refine x_sld (pc := 521) (j := i + 1) hs h4 dL_law_521 (nI_p1 i) (by omega) ?_
  refine x_callV (pc := 522) (t := 11) (mc2 := 24 * k) (ms2 := 614 * k) (p_keySize hC hW (xs (i + 1))) dL_law_522 l_L_60 mk_X11_keySize mv_X11_keySize (by decide) rfl k1 (by decide) rfl rfl (Nat.le_of_ble_eq_true rfl) (by omega) (by omega) (fun r T g1 => ?_)
  obtain ⟨rfl, hC1, hQ1⟩ := g1
  have hM1 := hI.m hQ1
  refine x_aload_n (pc := 525) dL_law_525 rfl ?_
  refine x_aload_nq (pc := 526) dL_law_526 rfl ?_
  refine x_iload (pc := 527) dL_law_527 rfl ?_
  refine x_iconst (pc := 529) (v := 1) dL_law_529 (by decide) ?_
  refine x_iadd (pc := 530) dL_law_530 ?_
  refine x_sld (pc := 531) (j := i + 1) hs h4 dL_law_531 (nI_p1 i) (by omega) ?_
  refine x_callV (pc := 532) (t := 12) (m_keySize hM1 hW (xs (i + 1))) dL_law_532 l_L_63 mk_X12_keySize mv_X12_keySize (by decide) rfl hM1.1.1 (by decide) rfl rfl (Nat.le_of_ble_eq_true rfl) (Nat.le_refl _) (Nat.le_refl _) (fun r T2 g2 => ?_)
  obtain ⟨rfl, hM2, hF2⟩ := g2
  refine x_icmp_eq (pc := 535) (tgt := 1812) dL_law_535 (by decide) (fun _ => ?_) (fun g => absurd rfl g)
  exact fin _ _ (hI.next hQ1 hC1 hF2 hM2 (w_keySize hW hn (xs (i + 1))))
set_option maxRecDepth 20000 in
set_option maxHeartbeats 4000000 in
theorem lw_c10 {nm : String} {E : zE} {L : Nat} {xs : Nat → Int32} {Q : zQx} {k i n : Nat} {S : zM} {s : zST} (hE : zOKE E) (hX : zOKX E) (hl0 : ∀ l s c, Q.1 l s c → l.stackTraces = false) (hs : zScr E L xs) (h4 : L ≤ 4608) (hi : i + 9 ≤ L) (hn : n + 1 < 600) (hI : zLI n S s) (fin : ∀ (T : zM) (s' : zST), zLI (n + 1) T s' → zJx E 10 (24 * k) (614 * k) (mL_law nm) cL_law 1812 (zll i) [] T Q) : zJx E 10 (24 * (k + 1)) (614 * (k + 1)) (mL_law nm) cL_law 540 (zll i) [] S Q := by
  obtain ⟨hC, hM, hW, hO⟩ := id hI
  have k1 := hC.1.1
  refine x_aload_n (pc := 540) dL_law_540 rfl ?_
  refine x_aload_nq (pc := 541) dL_law_541 rfl ?_
  refine x_iload (pc := 542) dL_law_542 rfl ?_
  refine x_iconst (pc := 544) (v := 1) dL_law_544 (by decide) ?_
  refine x_iadd (pc := 545) dL_law_545 ?_
  refine x_sld (pc := 546) (j := i + 1) hs h4 dL_law_546 (nI_p1 i) (by omega) ?_
  refine x_aload_nq (pc := 547) dL_law_547 rfl ?_
  refine x_iload (pc := 548) dL_law_548 rfl ?_
  refine x_iconst (pc := 550) (v := 2) dL_law_550 (by decide) ?_
  refine x_iadd (pc := 551) dL_law_551 ?_
  refine x_sld (pc := 552) (j := i + 2) hs h4 dL_law_552 (nI_p2 i) (by omega) ?_
  refine x_callV (pc := 553) (t := 11) (mc2 := 24 * k) (ms2 := 614 * k) (p_keyByte hC hW (xs (i + 1)) (xs (i + 2))) dL_law_553 l_L_64 mk_X11_keyByte mv_X11_keyByte (by decide) rfl k1 (by decide) rfl rfl (Nat.le_of_ble_eq_true rfl) (by omega) (by omega) (fun r T g1 => ?_)
  obtain ⟨rfl, hC1, hQ1⟩ := g1
  have hM1 := hI.m hQ1
  refine x_aload_n (pc := 556) dL_law_556 rfl ?_
  refine x_aload_nq (pc := 557) dL_law_557 rfl ?_
  refine x_iload (pc := 558) dL_law_558 rfl ?_
  refine x_iconst (pc := 560) (v := 1) dL_law_560 (by decide) ?_
  refine x_iadd (pc := 561) dL_law_561 ?_
  refine x_sld (pc := 562) (j := i + 1) hs h4 dL_law_562 (nI_p1 i) (by omega) ?_
  refine x_aload_nq (pc := 563) dL_law_563 rfl ?_
  refine x_iload (pc := 564) dL_law_564 rfl ?_
  refine x_iconst (pc := 566) (v := 2) dL_law_566 (by decide) ?_
  refine x_iadd (pc := 567) dL_law_567 ?_
  refine x_sld (pc := 568) (j := i + 2) hs h4 dL_law_568 (nI_p2 i) (by omega) ?_
  refine x_callV (pc := 569) (t := 12) (m_keyByte hM1 hW (xs (i + 1)) (xs (i + 2))) dL_law_569 l_L_67 mk_X12_keyByte mv_X12_keyByte (by decide) rfl hM1.1.1 (by decide) rfl rfl (Nat.le_of_ble_eq_true rfl) (Nat.le_refl _) (Nat.le_refl _) (fun r T2 g2 => ?_)
  obtain ⟨rfl, hM2, hF2⟩ := g2
  refine x_icmp_eq (pc := 572) (tgt := 1812) dL_law_572 (by decide) (fun _ => ?_) (fun g => absurd rfl g)
  exact fin _ _ (hI.next hQ1 hC1 hF2 hM2 (w_keyByte hW hn (xs (i + 1)) (xs (i + 2))))
set_option maxRecDepth 20000 in
set_option maxHeartbeats 4000000 in
theorem lw_c11 {nm : String} {E : zE} {L : Nat} {xs : Nat → Int32} {Q : zQx} {k i n : Nat} {S : zM} {s : zST} (hE : zOKE E) (hX : zOKX E) (hl0 : ∀ l s c, Q.1 l s c → l.stackTraces = false) (hs : zScr E L xs) (h4 : L ≤ 4608) (hi : i + 9 ≤ L) (hn : n + 1 < 600) (hI : zLI n S s) (fin : ∀ (T : zM) (s' : zST), zLI (n + 1) T s' → zJx E 10 (24 * k) (614 * k) (mL_law nm) cL_law 1812 (zll i) [] T Q) : zJx E 10 (24 * (k + 1)) (614 * (k + 1)) (mL_law nm) cL_law 577 (zll i) [] S Q := by
  obtain ⟨hC, hM, hW, hO⟩ := id hI
  have k1 := hC.1.1
  refine x_aload_n (pc := 577) dL_law_577 rfl ?_
  refine x_aload_nq (pc := 578) dL_law_578 rfl ?_
  refine x_iload (pc := 579) dL_law_579 rfl ?_
  refine x_iconst (pc := 581) (v := 1) dL_law_581 (by decide) ?_
  refine x_iadd (pc := 582) dL_law_582 ?_
  refine x_sld (pc := 583) (j := i + 1) hs h4 dL_law_583 (nI_p1 i) (by omega) ?_
  refine x_callV (pc := 584) (t := 11) (mc2 := 24 * k) (ms2 := 614 * k) (p_rank hC hW (xs (i + 1))) dL_law_584 l_L_68 mk_X11_rank mv_X11_rank (by decide) rfl k1 (by decide) rfl rfl (Nat.le_of_ble_eq_true rfl) (by omega) (by omega) (fun r T g1 => ?_)
  obtain ⟨rfl, hC1, hQ1⟩ := g1
  have hM1 := hI.m hQ1
  refine x_aload_n (pc := 587) dL_law_587 rfl ?_
  refine x_aload_nq (pc := 588) dL_law_588 rfl ?_
  refine x_iload (pc := 589) dL_law_589 rfl ?_
  refine x_iconst (pc := 591) (v := 1) dL_law_591 (by decide) ?_
  refine x_iadd (pc := 592) dL_law_592 ?_
  refine x_sld (pc := 593) (j := i + 1) hs h4 dL_law_593 (nI_p1 i) (by omega) ?_
  refine x_callV (pc := 594) (t := 12) (m_rank hM1 hW (xs (i + 1))) dL_law_594 l_L_71 mk_X12_rank mv_X12_rank (by decide) rfl hM1.1.1 (by decide) rfl rfl (Nat.le_of_ble_eq_true rfl) (Nat.le_refl _) (Nat.le_refl _) (fun r T2 g2 => ?_)
  obtain ⟨rfl, hM2, hF2⟩ := g2
  refine x_icmp_eq (pc := 597) (tgt := 1812) dL_law_597 (by decide) (fun _ => ?_) (fun g => absurd rfl g)
  exact fin _ _ (hI.next hQ1 hC1 hF2 hM2 (w_rank hW hn (xs (i + 1))))
set_option maxRecDepth 20000 in
set_option maxHeartbeats 4000000 in
theorem lw_c12 {nm : String} {E : zE} {L : Nat} {xs : Nat → Int32} {Q : zQx} {k i n : Nat} {S : zM} {s : zST} (hE : zOKE E) (hX : zOKX E) (hl0 : ∀ l s c, Q.1 l s c → l.stackTraces = false) (hs : zScr E L xs) (h4 : L ≤ 4608) (hi : i + 9 ≤ L) (hn : n + 1 < 600) (hI : zLI n S s) (fin : ∀ (T : zM) (s' : zST), zLI (n + 1) T s' → zJx E 10 (24 * k) (614 * k) (mL_law nm) cL_law 1812 (zll i) [] T Q) : zJx E 10 (24 * (k + 1)) (614 * (k + 1)) (mL_law nm) cL_law 602 (zll i) [] S Q := by
  obtain ⟨hC, hM, hW, hO⟩ := id hI
  have k1 := hC.1.1
  refine x_aload_n (pc := 602) dL_law_602 rfl ?_
  refine x_aload_nq (pc := 603) dL_law_603 rfl ?_
  refine x_iload (pc := 604) dL_law_604 rfl ?_
  refine x_iconst (pc := 606) (v := 1) dL_law_606 (by decide) ?_
  refine x_iadd (pc := 607) dL_law_607 ?_
  refine x_sld (pc := 608) (j := i + 1) hs h4 dL_law_608 (nI_p1 i) (by omega) ?_
  refine x_callV (pc := 609) (t := 11) (mc2 := 24 * k) (ms2 := 614 * k) (p_ranked hC hW (xs (i + 1))) dL_law_609 l_L_72 mk_X11_ranked mv_X11_ranked (by decide) rfl k1 (by decide) rfl rfl (Nat.le_of_ble_eq_true rfl) (by omega) (by omega) (fun r T g1 => ?_)
  obtain ⟨rfl, hC1, hQ1⟩ := g1
  have hM1 := hI.m hQ1
  refine x_aload_n (pc := 612) dL_law_612 rfl ?_
  refine x_aload_nq (pc := 613) dL_law_613 rfl ?_
  refine x_iload (pc := 614) dL_law_614 rfl ?_
  refine x_iconst (pc := 616) (v := 1) dL_law_616 (by decide) ?_
  refine x_iadd (pc := 617) dL_law_617 ?_
  refine x_sld (pc := 618) (j := i + 1) hs h4 dL_law_618 (nI_p1 i) (by omega) ?_
  refine x_callV (pc := 619) (t := 12) (m_ranked hM1 hW (xs (i + 1))) dL_law_619 l_L_75 mk_X12_ranked mv_X12_ranked (by decide) rfl hM1.1.1 (by decide) rfl rfl (Nat.le_of_ble_eq_true rfl) (Nat.le_refl _) (Nat.le_refl _) (fun r T2 g2 => ?_)
  obtain ⟨rfl, hM2, hF2⟩ := g2
  refine x_icmp_eq (pc := 622) (tgt := 1812) dL_law_622 (by decide) (fun _ => ?_) (fun g => absurd rfl g)
  exact fin _ _ (hI.next hQ1 hC1 hF2 hM2 (w_ranked hW hn (xs (i + 1))))
set_option maxRecDepth 20000 in
set_option maxHeartbeats 4000000 in
theorem lw_c13 {nm : String} {E : zE} {L : Nat} {xs : Nat → Int32} {Q : zQx} {k i n : Nat} {S : zM} {s : zST} (hE : zOKE E) (hX : zOKX E) (hl0 : ∀ l s c, Q.1 l s c → l.stackTraces = false) (hs : zScr E L xs) (h4 : L ≤ 4608) (hi : i + 9 ≤ L) (hn : n + 1 < 600) (hI : zLI n S s) (fin : ∀ (T : zM) (s' : zST), zLI (n + 1) T s' → zJx E 10 (24 * k) (614 * k) (mL_law nm) cL_law 1812 (zll i) [] T Q) : zJx E 10 (24 * (k + 1)) (614 * (k + 1)) (mL_law nm) cL_law 627 (zll i) [] S Q := by
  obtain ⟨hC, hM, hW, hO⟩ := id hI
  have k1 := hC.1.1
  refine x_aload_n (pc := 627) dL_law_627 rfl ?_
  refine x_aload_nq (pc := 628) dL_law_628 rfl ?_
  refine x_iload (pc := 629) dL_law_629 rfl ?_
  refine x_iconst (pc := 631) (v := 1) dL_law_631 (by decide) ?_
  refine x_iadd (pc := 632) dL_law_632 ?_
  refine x_sld (pc := 633) (j := i + 1) hs h4 dL_law_633 (nI_p1 i) (by omega) ?_
  refine x_aload_nq (pc := 634) dL_law_634 rfl ?_
  refine x_iload (pc := 635) dL_law_635 rfl ?_
  refine x_iconst (pc := 637) (v := 2) dL_law_637 (by decide) ?_
  refine x_iadd (pc := 638) dL_law_638 ?_
  refine x_sld (pc := 639) (j := i + 2) hs h4 dL_law_639 (nI_p2 i) (by omega) ?_
  refine x_callV (pc := 640) (t := 11) (mc2 := 24 * k) (ms2 := 614 * k) (p_differ hC hW (xs (i + 1)) (xs (i + 2))) dL_law_640 l_L_76 mk_X11_differ mv_X11_differ (by decide) rfl k1 (by decide) rfl rfl (Nat.le_of_ble_eq_true rfl) (by omega) (by omega) (fun r T g1 => ?_)
  obtain ⟨rfl, hC1, hQ1⟩ := g1
  have hM1 := hI.m hQ1
  refine x_aload_n (pc := 643) dL_law_643 rfl ?_
  refine x_aload_nq (pc := 644) dL_law_644 rfl ?_
  refine x_iload (pc := 645) dL_law_645 rfl ?_
  refine x_iconst (pc := 647) (v := 1) dL_law_647 (by decide) ?_
  refine x_iadd (pc := 648) dL_law_648 ?_
  refine x_sld (pc := 649) (j := i + 1) hs h4 dL_law_649 (nI_p1 i) (by omega) ?_
  refine x_aload_nq (pc := 650) dL_law_650 rfl ?_
  refine x_iload (pc := 651) dL_law_651 rfl ?_
  refine x_iconst (pc := 653) (v := 2) dL_law_653 (by decide) ?_
  refine x_iadd (pc := 654) dL_law_654 ?_
  refine x_sld (pc := 655) (j := i + 2) hs h4 dL_law_655 (nI_p2 i) (by omega) ?_
  refine x_callV (pc := 656) (t := 12) (m_differ hM1 hW (xs (i + 1)) (xs (i + 2))) dL_law_656 l_L_79 mk_X12_differ mv_X12_differ (by decide) rfl hM1.1.1 (by decide) rfl rfl (Nat.le_of_ble_eq_true rfl) (Nat.le_refl _) (Nat.le_refl _) (fun r T2 g2 => ?_)
  obtain ⟨rfl, hM2, hF2⟩ := g2
  refine x_icmp_eq (pc := 659) (tgt := 1812) dL_law_659 (by decide) (fun _ => ?_) (fun g => absurd rfl g)
  exact fin _ _ (hI.next hQ1 hC1 hF2 hM2 (w_differ hW hn (xs (i + 1)) (xs (i + 2))))
set_option maxRecDepth 20000 in
set_option maxHeartbeats 4000000 in
theorem lw_c14 {nm : String} {E : zE} {L : Nat} {xs : Nat → Int32} {Q : zQx} {k i n : Nat} {S : zM} {s : zST} (hE : zOKE E) (hX : zOKX E) (hl0 : ∀ l s c, Q.1 l s c → l.stackTraces = false) (hs : zScr E L xs) (h4 : L ≤ 4608) (hi : i + 9 ≤ L) (hn : n + 1 < 600) (hI : zLI n S s) (fin : ∀ (T : zM) (s' : zST), zLI (n + 1) T s' → zJx E 10 (24 * k) (614 * k) (mL_law nm) cL_law 1812 (zll i) [] T Q) : zJx E 10 (24 * (k + 1)) (614 * (k + 1)) (mL_law nm) cL_law 664 (zll i) [] S Q := by
  obtain ⟨hC, hM, hW, hO⟩ := id hI
  have k1 := hC.1.1
  refine x_aload_n (pc := 664) dL_law_664 rfl ?_
  refine x_aload_nq (pc := 665) dL_law_665 rfl ?_
  refine x_iload (pc := 666) dL_law_666 rfl ?_
  refine x_iconst (pc := 668) (v := 1) dL_law_668 (by decide) ?_
  refine x_iadd (pc := 669) dL_law_669 ?_
  refine x_sld (pc := 670) (j := i + 1) hs h4 dL_law_670 (nI_p1 i) (by omega) ?_
  refine x_aload_nq (pc := 671) dL_law_671 rfl ?_
  refine x_iload (pc := 672) dL_law_672 rfl ?_
  refine x_iconst (pc := 674) (v := 2) dL_law_674 (by decide) ?_
  refine x_iadd (pc := 675) dL_law_675 ?_
  refine x_sld (pc := 676) (j := i + 2) hs h4 dL_law_676 (nI_p2 i) (by omega) ?_
  refine x_if_eq (pc := 677) (tgt := 684) dL_law_677 (by decide) (fun hb2 => ?_) (fun hb2 => ?_)
  · refine x_iconst (pc := 684) (v := 0) dL_law_684 (by decide) ?_
    refine x_callV (pc := 685) (t := 11) (mc2 := 24 * k) (ms2 := 614 * k) (p_page hC hW (xs (i + 1)) false) dL_law_685 l_L_80 mk_X11_page mv_X11_page (by decide) rfl k1 (by decide) rfl rfl (Nat.le_of_ble_eq_true rfl) (by omega) (by omega) (fun r T g1 => ?_)
    obtain ⟨rfl, hC1, hQ1⟩ := g1
    have hM1 := hI.m hQ1
    refine x_aload_n (pc := 688) dL_law_688 rfl ?_
    refine x_aload_nq (pc := 689) dL_law_689 rfl ?_
    refine x_iload (pc := 690) dL_law_690 rfl ?_
    refine x_iconst (pc := 692) (v := 1) dL_law_692 (by decide) ?_
    refine x_iadd (pc := 693) dL_law_693 ?_
    refine x_sld (pc := 694) (j := i + 1) hs h4 dL_law_694 (nI_p1 i) (by omega) ?_
    refine x_aload_nq (pc := 695) dL_law_695 rfl ?_
    refine x_iload (pc := 696) dL_law_696 rfl ?_
    refine x_iconst (pc := 698) (v := 2) dL_law_698 (by decide) ?_
    refine x_iadd (pc := 699) dL_law_699 ?_
    refine x_sld (pc := 700) (j := i + 2) hs h4 dL_law_700 (nI_p2 i) (by omega) ?_
    refine x_if_eq (pc := 701) (tgt := 708) dL_law_701 (by decide) (fun _ => ?_) (fun g => absurd hb2 g)
    refine x_iconst (pc := 708) (v := 0) dL_law_708 (by decide) ?_
    refine x_callV (pc := 709) (t := 12) (m_page hM1 hW (xs (i + 1)) false) dL_law_709 l_L_84 mk_X12_page mv_X12_page (by decide) rfl hM1.1.1 (by decide) rfl rfl (Nat.le_of_ble_eq_true rfl) (Nat.le_refl _) (Nat.le_refl _) (fun r T2 g2 => ?_)
    obtain ⟨rfl, hM2, hF2⟩ := g2
    refine x_icmp_eq (pc := 712) (tgt := 1812) dL_law_712 (by decide) (fun _ => ?_) (fun g => absurd rfl g)
    exact fin _ _ (hI.next hQ1 hC1 hF2 hM2 (w_page hW hn (xs (i + 1)) false))
  · refine x_iconst (pc := 680) (v := 1) dL_law_680 (by decide) ?_
    refine x_goto (pc := 681) (tgt := 685) dL_law_681 (by decide) ?_
    refine x_callV (pc := 685) (t := 11) (mc2 := 24 * k) (ms2 := 614 * k) (p_page hC hW (xs (i + 1)) true) dL_law_685 l_L_80 mk_X11_page mv_X11_page (by decide) rfl k1 (by decide) rfl rfl (Nat.le_of_ble_eq_true rfl) (by omega) (by omega) (fun r T g1 => ?_)
    obtain ⟨rfl, hC1, hQ1⟩ := g1
    have hM1 := hI.m hQ1
    refine x_aload_n (pc := 688) dL_law_688 rfl ?_
    refine x_aload_nq (pc := 689) dL_law_689 rfl ?_
    refine x_iload (pc := 690) dL_law_690 rfl ?_
    refine x_iconst (pc := 692) (v := 1) dL_law_692 (by decide) ?_
    refine x_iadd (pc := 693) dL_law_693 ?_
    refine x_sld (pc := 694) (j := i + 1) hs h4 dL_law_694 (nI_p1 i) (by omega) ?_
    refine x_aload_nq (pc := 695) dL_law_695 rfl ?_
    refine x_iload (pc := 696) dL_law_696 rfl ?_
    refine x_iconst (pc := 698) (v := 2) dL_law_698 (by decide) ?_
    refine x_iadd (pc := 699) dL_law_699 ?_
    refine x_sld (pc := 700) (j := i + 2) hs h4 dL_law_700 (nI_p2 i) (by omega) ?_
    refine x_if_eq (pc := 701) (tgt := 708) dL_law_701 (by decide) (fun g => absurd g hb2) (fun _ => ?_)
    refine x_iconst (pc := 704) (v := 1) dL_law_704 (by decide) ?_
    refine x_goto (pc := 705) (tgt := 709) dL_law_705 (by decide) ?_
    refine x_callV (pc := 709) (t := 12) (m_page hM1 hW (xs (i + 1)) true) dL_law_709 l_L_84 mk_X12_page mv_X12_page (by decide) rfl hM1.1.1 (by decide) rfl rfl (Nat.le_of_ble_eq_true rfl) (Nat.le_refl _) (Nat.le_refl _) (fun r T2 g2 => ?_)
    obtain ⟨rfl, hM2, hF2⟩ := g2
    refine x_icmp_eq (pc := 712) (tgt := 1812) dL_law_712 (by decide) (fun _ => ?_) (fun g => absurd rfl g)
    exact fin _ _ (hI.next hQ1 hC1 hF2 hM2 (w_page hW hn (xs (i + 1)) true))
set_option maxRecDepth 20000 in
set_option maxHeartbeats 4000000 in
theorem lw_c15 {nm : String} {E : zE} {L : Nat} {xs : Nat → Int32} {Q : zQx} {k i n : Nat} {S : zM} {s : zST} (hE : zOKE E) (hX : zOKX E) (hl0 : ∀ l s c, Q.1 l s c → l.stackTraces = false) (hs : zScr E L xs) (h4 : L ≤ 4608) (hi : i + 9 ≤ L) (hn : n + 1 < 600) (hI : zLI n S s) (fin : ∀ (T : zM) (s' : zST), zLI (n + 1) T s' → zJx E 10 (24 * k) (614 * k) (mL_law nm) cL_law 1812 (zll i) [] T Q) : zJx E 10 (24 * (k + 1)) (614 * (k + 1)) (mL_law nm) cL_law 717 (zll i) [] S Q := by
  obtain ⟨hC, hM, hW, hO⟩ := id hI
  have k1 := hC.1.1
  refine x_aload_n (pc := 717) dL_law_717 rfl ?_
  refine x_aload_nq (pc := 718) dL_law_718 rfl ?_
  refine x_iload (pc := 719) dL_law_719 rfl ?_
  refine x_iconst (pc := 721) (v := 1) dL_law_721 (by decide) ?_
  refine x_iadd (pc := 722) dL_law_722 ?_
  refine x_sld (pc := 723) (j := i + 1) hs h4 dL_law_723 (nI_p1 i) (by omega) ?_
  refine x_callV (pc := 724) (t := 11) (mc2 := 24 * k) (ms2 := 614 * k) (p_next hC hW (xs (i + 1))) dL_law_724 l_L_85 mk_X11_next mv_X11_next (by decide) rfl k1 (by decide) rfl rfl (Nat.le_of_ble_eq_true rfl) (by omega) (by omega) (fun r T g1 => ?_)
  obtain ⟨rfl, hC1, hQ1⟩ := g1
  have hM1 := hI.m hQ1
  refine x_aload_n (pc := 727) dL_law_727 rfl ?_
  refine x_aload_nq (pc := 728) dL_law_728 rfl ?_
  refine x_iload (pc := 729) dL_law_729 rfl ?_
  refine x_iconst (pc := 731) (v := 1) dL_law_731 (by decide) ?_
  refine x_iadd (pc := 732) dL_law_732 ?_
  refine x_sld (pc := 733) (j := i + 1) hs h4 dL_law_733 (nI_p1 i) (by omega) ?_
  refine x_callV (pc := 734) (t := 12) (m_next hM1 hW (xs (i + 1))) dL_law_734 l_L_88 mk_X12_next mv_X12_next (by decide) rfl hM1.1.1 (by decide) rfl rfl (Nat.le_of_ble_eq_true rfl) (Nat.le_refl _) (Nat.le_refl _) (fun r T2 g2 => ?_)
  obtain ⟨rfl, hM2, hF2⟩ := g2
  refine x_icmp_eq (pc := 737) (tgt := 1812) dL_law_737 (by decide) (fun _ => ?_) (fun g => absurd rfl g)
  exact fin _ _ (hI.next hQ1 hC1 hF2 hM2 (w_tok hW hn (xs (i + 1)) true))
