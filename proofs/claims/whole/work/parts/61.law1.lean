set_option maxHeartbeats 1000000 in
theorem law_9 {l : Launch} {g : GG} {b L : Nat} {xs : Nat → Int32} {Γ : Cxt} {Q : State → Prop} {i : Nat} (C : Cx Γ g code x 4 ret 30 600000 7302250) (X : LX Γ g b L xs) (hi : i + 6 ≤ L) (hL : L ≤ 3072) {PH : PHp} (hS : ST g PH) (kx : ∀ PH1 : PHp, ST g PH1 → V l Γ g 4 Q 600000 7302250 NN PH1 1298 [some (.ref b), some (rf g (0, 0, 0)), some (rf g (22, 0, 0)), some (.int (nI i))] []) : V l Γ g 4 Q 600000 7302250 NN PH 467 [some (.ref b), some (rf g (0, 0, 0)), some (rf g (22, 0, 0)), some (.int (nI i))] [] := by
  obtain ⟨h0, ct, cl, rd, B, cy, rw, tl, sp, now, mind, th, tx, q, cv, hu, tr, tp, r, t, hV0, rfl⟩ := hS
  obtain ⟨⟨a1, a2, a3, a4, a5⟩, ⟨b1, b2, b3, b4⟩, ⟨n, m, c0, c1, c2, c3, hq, hW, hH⟩, ⟨d1, d2⟩, ⟨e1, e2⟩, hsp⟩ := id hV0
  have hSH := hV0.sh hW hq
  have hRu := hV0.ru hW hq
  have hn := hW.1.2.1
  have hm := hW.1.2.2.2.1
  have hCI := hW.2.2.2.1
  have hTR := hW.2.2.2.2.1
  refine V.aload_n (q := 468) C dL_law_467 rfl rfl ?_
  refine V.aload_nR (q := 469) C dL_law_468 rfl rfl ?_
  refine V.iload_n (q := 470) C dL_law_469 rfl rfl ?_
  refine V.iconst (q := 471) (v := nI 1) C dL_law_470 rfl (by decide) ?_
  refine V.iadd (q := 472) C dL_law_471 rfl ?_
  refine V.topi (x1 := nI (i + 1)) (nI_add _ _) ?_
  refine V.sld (q := 473) (i := (i + 1)) C X dL_law_472 rfl rfl (by omega) (by omega) ?_
  refine V.callVi (q := 476) C me_X9_told (c_told hSH hCI hTR rfl) ml_L_53 dL_law_473 rfl okC_0 ⟨_, rfl⟩ rfl rfl (Nat.le_of_ble_eq_true rfl) (by omega) (Nat.le_refl _) (Nat.le_refl _) ?_
  refine V.aload_n (q := 477) C dL_law_476 rfl rfl ?_
  refine V.aload_nR (q := 478) C dL_law_477 rfl rfl ?_
  refine V.iload_n (q := 479) C dL_law_478 rfl rfl ?_
  refine V.iconst (q := 480) (v := nI 1) C dL_law_479 rfl (by decide) ?_
  refine V.iadd (q := 481) C dL_law_480 rfl ?_
  refine V.topi (x1 := nI (i + 1)) (nI_add _ _) ?_
  refine V.sld (q := 482) (i := (i + 1)) C X dL_law_481 rfl rfl (by omega) (by omega) ?_
  refine V.callVxi (q := 485) C me_X10_told (m_told hW.1 hRu) ml_L_56 dL_law_482 rfl okM ⟨_, rfl⟩ rfl rfl (Nat.le_of_ble_eq_true rfl) (by omega) (Nat.le_refl _) (Nat.le_refl _) (fun z2 h2 => ?_)
  refine V.icmp_eq (q := 488) (tgt := 1298) C dL_law_485 rfl rfl (fun hb485 => ?_) (fun hb485 => ?_)
  · exact kx _ ⟨_, _, _, _, _, _, _, _, _, _, _, _, _, _, _, _, _, _, _, _, hV0, rfl⟩
  · exact absurd rfl hb485
set_option maxHeartbeats 1000000 in
theorem law_10 {l : Launch} {g : GG} {b L : Nat} {xs : Nat → Int32} {Γ : Cxt} {Q : State → Prop} {i : Nat} (C : Cx Γ g code x 4 ret 30 600000 7302250) (X : LX Γ g b L xs) (hi : i + 6 ≤ L) (hL : L ≤ 3072) {PH : PHp} (hS : ST g PH) (kx : ∀ PH1 : PHp, ST g PH1 → V l Γ g 4 Q 600000 7302250 NN PH1 1298 [some (.ref b), some (rf g (0, 0, 0)), some (rf g (22, 0, 0)), some (.int (nI i))] []) : V l Γ g 4 Q 600000 7302250 NN PH 490 [some (.ref b), some (rf g (0, 0, 0)), some (rf g (22, 0, 0)), some (.int (nI i))] [] := by
  obtain ⟨h0, ct, cl, rd, B, cy, rw, tl, sp, now, mind, th, tx, q, cv, hu, tr, tp, r, t, hV0, rfl⟩ := hS
  obtain ⟨⟨a1, a2, a3, a4, a5⟩, ⟨b1, b2, b3, b4⟩, ⟨n, m, c0, c1, c2, c3, hq, hW, hH⟩, ⟨d1, d2⟩, ⟨e1, e2⟩, hsp⟩ := id hV0
  have hSH := hV0.sh hW hq
  have hRu := hV0.ru hW hq
  have hn := hW.1.2.1
  have hm := hW.1.2.2.2.1
  have hCI := hW.2.2.2.1
  have hTR := hW.2.2.2.2.1
  refine V.aload_n (q := 491) C dL_law_490 rfl rfl ?_
  refine V.aload_nR (q := 492) C dL_law_491 rfl rfl ?_
  refine V.iload_n (q := 493) C dL_law_492 rfl rfl ?_
  refine V.iconst (q := 494) (v := nI 1) C dL_law_493 rfl (by decide) ?_
  refine V.iadd (q := 495) C dL_law_494 rfl ?_
  refine V.topi (x1 := nI (i + 1)) (nI_add _ _) ?_
  refine V.sld (q := 496) (i := (i + 1)) C X dL_law_495 rfl rfl (by omega) (by omega) ?_
  refine V.callVxi (q := 499) C me_X9_pass (c_pass hSH hCI hTR rfl) ml_L_57 dL_law_496 rfl okC_0 ⟨_, rfl⟩ rfl rfl (Nat.le_of_ble_eq_true rfl) (by omega) (Nat.le_refl _) (Nat.le_refl _) (fun z1 h1 => ?_)
  refine V.aload_n (q := 500) C dL_law_499 rfl rfl ?_
  refine V.aload_nR (q := 501) C dL_law_500 rfl rfl ?_
  refine V.iload_n (q := 502) C dL_law_501 rfl rfl ?_
  refine V.iconst (q := 503) (v := nI 1) C dL_law_502 rfl (by decide) ?_
  refine V.iadd (q := 504) C dL_law_503 rfl ?_
  refine V.topi (x1 := nI (i + 1)) (nI_add _ _) ?_
  refine V.sld (q := 505) (i := (i + 1)) C X dL_law_504 rfl rfl (by omega) (by omega) ?_
  refine V.callVxi (q := 508) C me_X10_pass (m_pass hW.1 hRu) ml_L_60 dL_law_505 rfl okM ⟨_, rfl⟩ rfl rfl (Nat.le_of_ble_eq_true rfl) (by omega) (Nat.le_refl _) (Nat.le_refl _) (fun z2 h2 => ?_)
  refine V.icmp_eq (q := 511) (tgt := 1298) C dL_law_508 rfl rfl (fun hb508 => ?_) (fun hb508 => ?_)
  · exact kx _ ⟨_, _, _, _, _, _, _, _, _, _, _, _, _, _, _, _, _, _, _, _, (hV0.pass hq hW hH h1.1 h1.2), rfl⟩
  · exact absurd rfl hb508
set_option maxHeartbeats 1000000 in
theorem law_11 {l : Launch} {g : GG} {b L : Nat} {xs : Nat → Int32} {Γ : Cxt} {Q : State → Prop} {i : Nat} (C : Cx Γ g code x 4 ret 30 600000 7302250) (X : LX Γ g b L xs) (hi : i + 6 ≤ L) (hL : L ≤ 3072) {PH : PHp} (hS : ST g PH) (kx : ∀ PH1 : PHp, ST g PH1 → V l Γ g 4 Q 600000 7302250 NN PH1 1298 [some (.ref b), some (rf g (0, 0, 0)), some (rf g (22, 0, 0)), some (.int (nI i))] []) : V l Γ g 4 Q 600000 7302250 NN PH 513 [some (.ref b), some (rf g (0, 0, 0)), some (rf g (22, 0, 0)), some (.int (nI i))] [] := by
  obtain ⟨h0, ct, cl, rd, B, cy, rw, tl, sp, now, mind, th, tx, q, cv, hu, tr, tp, r, t, hV0, rfl⟩ := hS
  obtain ⟨⟨a1, a2, a3, a4, a5⟩, ⟨b1, b2, b3, b4⟩, ⟨n, m, c0, c1, c2, c3, hq, hW, hH⟩, ⟨d1, d2⟩, ⟨e1, e2⟩, hsp⟩ := id hV0
  have hSH := hV0.sh hW hq
  have hRu := hV0.ru hW hq
  have hn := hW.1.2.1
  have hm := hW.1.2.2.2.1
  have hCI := hW.2.2.2.1
  have hTR := hW.2.2.2.2.1
  refine V.aload_n (q := 514) C dL_law_513 rfl rfl ?_
  refine V.aload_nR (q := 515) C dL_law_514 rfl rfl ?_
  refine V.iload_n (q := 516) C dL_law_515 rfl rfl ?_
  refine V.iconst (q := 517) (v := nI 1) C dL_law_516 rfl (by decide) ?_
  refine V.iadd (q := 518) C dL_law_517 rfl ?_
  refine V.topi (x1 := nI (i + 1)) (nI_add _ _) ?_
  refine V.sld (q := 519) (i := (i + 1)) C X dL_law_518 rfl rfl (by omega) (by omega) ?_
  refine V.aload_nR (q := 520) C dL_law_519 rfl rfl ?_
  refine V.iload_n (q := 521) C dL_law_520 rfl rfl ?_
  refine V.iconst (q := 522) (v := nI 2) C dL_law_521 rfl (by decide) ?_
  refine V.iadd (q := 523) C dL_law_522 rfl ?_
  refine V.topi (x1 := nI (i + 2)) (nI_add _ _) ?_
  refine V.sld (q := 524) (i := (i + 2)) C X dL_law_523 rfl rfl (by omega) (by omega) ?_
  refine V.callVxi (q := 527) C me_X9_on (c_on hSH hCI hTR rfl) ml_L_61 dL_law_524 rfl okC_0 ⟨_, rfl⟩ rfl rfl (Nat.le_of_ble_eq_true rfl) (by omega) (Nat.le_refl _) (Nat.le_refl _) (fun z1 h1 => ?_)
  refine V.aload_n (q := 528) C dL_law_527 rfl rfl ?_
  refine V.aload_nR (q := 529) C dL_law_528 rfl rfl ?_
  refine V.iload_n (q := 530) C dL_law_529 rfl rfl ?_
  refine V.iconst (q := 531) (v := nI 1) C dL_law_530 rfl (by decide) ?_
  refine V.iadd (q := 532) C dL_law_531 rfl ?_
  refine V.topi (x1 := nI (i + 1)) (nI_add _ _) ?_
  refine V.sld (q := 533) (i := (i + 1)) C X dL_law_532 rfl rfl (by omega) (by omega) ?_
  refine V.aload_nR (q := 534) C dL_law_533 rfl rfl ?_
  refine V.iload_n (q := 535) C dL_law_534 rfl rfl ?_
  refine V.iconst (q := 536) (v := nI 2) C dL_law_535 rfl (by decide) ?_
  refine V.iadd (q := 537) C dL_law_536 rfl ?_
  refine V.topi (x1 := nI (i + 2)) (nI_add _ _) ?_
  refine V.sld (q := 538) (i := (i + 2)) C X dL_law_537 rfl rfl (by omega) (by omega) ?_
  refine V.callVxi (q := 541) C me_X10_on (m_on hn hW.1 hRu) ml_L_64 dL_law_538 rfl okM ⟨_, rfl⟩ rfl rfl (Nat.le_of_ble_eq_true rfl) (by omega) (Nat.le_refl _) (Nat.le_refl _) (fun z2 h2 => ?_)
  refine V.icmp_eq (q := 544) (tgt := 1298) C dL_law_541 rfl rfl (fun hb541 => ?_) (fun hb541 => ?_)
  · exact kx _ ⟨_, _, _, _, _, _, _, _, _, _, _, _, _, _, _, _, _, _, _, _, (hV0.scr z1.2.1 z1.2.2), rfl⟩
  · exact absurd rfl hb541
set_option maxHeartbeats 1000000 in
theorem law_12 {l : Launch} {g : GG} {b L : Nat} {xs : Nat → Int32} {Γ : Cxt} {Q : State → Prop} {i : Nat} (C : Cx Γ g code x 4 ret 30 600000 7302250) (X : LX Γ g b L xs) (hi : i + 6 ≤ L) (hL : L ≤ 3072) {PH : PHp} (hS : ST g PH) (kx : ∀ PH1 : PHp, ST g PH1 → V l Γ g 4 Q 600000 7302250 NN PH1 1298 [some (.ref b), some (rf g (0, 0, 0)), some (rf g (22, 0, 0)), some (.int (nI i))] []) : V l Γ g 4 Q 600000 7302250 NN PH 546 [some (.ref b), some (rf g (0, 0, 0)), some (rf g (22, 0, 0)), some (.int (nI i))] [] := by
  obtain ⟨h0, ct, cl, rd, B, cy, rw, tl, sp, now, mind, th, tx, q, cv, hu, tr, tp, r, t, hV0, rfl⟩ := hS
  obtain ⟨⟨a1, a2, a3, a4, a5⟩, ⟨b1, b2, b3, b4⟩, ⟨n, m, c0, c1, c2, c3, hq, hW, hH⟩, ⟨d1, d2⟩, ⟨e1, e2⟩, hsp⟩ := id hV0
  have hSH := hV0.sh hW hq
  have hRu := hV0.ru hW hq
  have hn := hW.1.2.1
  have hm := hW.1.2.2.2.1
  have hCI := hW.2.2.2.1
  have hTR := hW.2.2.2.2.1
  refine V.aload_n (q := 547) C dL_law_546 rfl rfl ?_
  refine V.aload_nR (q := 548) C dL_law_547 rfl rfl ?_
  refine V.iload_n (q := 549) C dL_law_548 rfl rfl ?_
  refine V.iconst (q := 550) (v := nI 1) C dL_law_549 rfl (by decide) ?_
  refine V.iadd (q := 551) C dL_law_550 rfl ?_
  refine V.topi (x1 := nI (i + 1)) (nI_add _ _) ?_
  refine V.sld (q := 552) (i := (i + 1)) C X dL_law_551 rfl rfl (by omega) (by omega) ?_
  refine V.aload_nR (q := 553) C dL_law_552 rfl rfl ?_
  refine V.iload_n (q := 554) C dL_law_553 rfl rfl ?_
  refine V.iconst (q := 555) (v := nI 2) C dL_law_554 rfl (by decide) ?_
  refine V.iadd (q := 556) C dL_law_555 rfl ?_
  refine V.topi (x1 := nI (i + 2)) (nI_add _ _) ?_
  refine V.sld (q := 557) (i := (i + 2)) C X dL_law_556 rfl rfl (by omega) (by omega) ?_
  refine V.callVxi (q := 560) C me_X9_best (c_best hSH hCI hTR rfl (fun i hi => (hW.2.2.2.2.2 i hi).1)) ml_L_65 dL_law_557 rfl okC_0 ⟨_, rfl⟩ rfl rfl (Nat.le_of_ble_eq_true rfl) (by omega) (Nat.le_refl _) (Nat.le_refl _) (fun z1 h1 => ?_)
  refine V.aload_n (q := 561) C dL_law_560 rfl rfl ?_
  refine V.aload_nR (q := 562) C dL_law_561 rfl rfl ?_
  refine V.iload_n (q := 563) C dL_law_562 rfl rfl ?_
  refine V.iconst (q := 564) (v := nI 1) C dL_law_563 rfl (by decide) ?_
  refine V.iadd (q := 565) C dL_law_564 rfl ?_
  refine V.topi (x1 := nI (i + 1)) (nI_add _ _) ?_
  refine V.sld (q := 566) (i := (i + 1)) C X dL_law_565 rfl rfl (by omega) (by omega) ?_
  refine V.aload_nR (q := 567) C dL_law_566 rfl rfl ?_
  refine V.iload_n (q := 568) C dL_law_567 rfl rfl ?_
  refine V.iconst (q := 569) (v := nI 2) C dL_law_568 rfl (by decide) ?_
  refine V.iadd (q := 570) C dL_law_569 rfl ?_
  refine V.topi (x1 := nI (i + 2)) (nI_add _ _) ?_
  refine V.sld (q := 571) (i := (i + 2)) C X dL_law_570 rfl rfl (by omega) (by omega) ?_
  refine V.callVxi (q := 574) C me_X10_best (m_best (q := (q, mind, cv, hu)) hW.1 hRu) ml_L_68 dL_law_571 rfl okM ⟨_, rfl⟩ rfl rfl (Nat.le_of_ble_eq_true rfl) (by omega) (Nat.le_refl _) (Nat.le_refl _) (fun z2 h2 => ?_)
  refine V.icmp_eq (q := 577) (tgt := 1298) C dL_law_574 rfl rfl (fun hb574 => ?_) (fun hb574 => ?_)
  · exact kx _ ⟨_, _, _, _, _, _, _, _, _, _, _, _, _, _, _, _, _, _, _, _, (hV0.scr z1.2.1 z1.2.2), rfl⟩
  · exact absurd rfl hb574
set_option maxHeartbeats 1000000 in
theorem law_13 {l : Launch} {g : GG} {b L : Nat} {xs : Nat → Int32} {Γ : Cxt} {Q : State → Prop} {i : Nat} (C : Cx Γ g code x 4 ret 30 600000 7302250) (X : LX Γ g b L xs) (hi : i + 6 ≤ L) (hL : L ≤ 3072) {PH : PHp} (hS : ST g PH) (kx : ∀ PH1 : PHp, ST g PH1 → V l Γ g 4 Q 600000 7302250 NN PH1 1298 [some (.ref b), some (rf g (0, 0, 0)), some (rf g (22, 0, 0)), some (.int (nI i))] []) : V l Γ g 4 Q 600000 7302250 NN PH 579 [some (.ref b), some (rf g (0, 0, 0)), some (rf g (22, 0, 0)), some (.int (nI i))] [] := by
  obtain ⟨h0, ct, cl, rd, B, cy, rw, tl, sp, now, mind, th, tx, q, cv, hu, tr, tp, r, t, hV0, rfl⟩ := hS
  obtain ⟨⟨a1, a2, a3, a4, a5⟩, ⟨b1, b2, b3, b4⟩, ⟨n, m, c0, c1, c2, c3, hq, hW, hH⟩, ⟨d1, d2⟩, ⟨e1, e2⟩, hsp⟩ := id hV0
  have hSH := hV0.sh hW hq
  have hRu := hV0.ru hW hq
  have hn := hW.1.2.1
  have hm := hW.1.2.2.2.1
  have hCI := hW.2.2.2.1
  have hTR := hW.2.2.2.2.1
  refine V.aload_n (q := 580) C dL_law_579 rfl rfl ?_
  refine V.aload_nR (q := 581) C dL_law_580 rfl rfl ?_
  refine V.iload_n (q := 582) C dL_law_581 rfl rfl ?_
  refine V.iconst (q := 583) (v := nI 1) C dL_law_582 rfl (by decide) ?_
  refine V.iadd (q := 584) C dL_law_583 rfl ?_
  refine V.topi (x1 := nI (i + 1)) (nI_add _ _) ?_
  refine V.sld (q := 585) (i := (i + 1)) C X dL_law_584 rfl rfl (by omega) (by omega) ?_
  refine V.aload_nR (q := 586) C dL_law_585 rfl rfl ?_
  refine V.iload_n (q := 587) C dL_law_586 rfl rfl ?_
  refine V.iconst (q := 588) (v := nI 2) C dL_law_587 rfl (by decide) ?_
  refine V.iadd (q := 589) C dL_law_588 rfl ?_
  refine V.topi (x1 := nI (i + 2)) (nI_add _ _) ?_
  refine V.sld (q := 590) (i := (i + 2)) C X dL_law_589 rfl rfl (by omega) (by omega) ?_
  refine V.aload_nR (q := 591) C dL_law_590 rfl rfl ?_
  refine V.iload_n (q := 592) C dL_law_591 rfl rfl ?_
  refine V.iconst (q := 593) (v := nI 3) C dL_law_592 rfl (by decide) ?_
  refine V.iadd (q := 594) C dL_law_593 rfl ?_
  refine V.topi (x1 := nI (i + 3)) (nI_add _ _) ?_
  refine V.sld (q := 595) (i := (i + 3)) C X dL_law_594 rfl rfl (by omega) (by omega) ?_
  refine V.callVi (q := 598) C me_X9_see (c_see hCI hH.1.2.2.1 hH.1.1.2.1) ml_L_69 dL_law_595 rfl okC_0 ⟨_, rfl⟩ rfl rfl (Nat.le_of_ble_eq_true rfl) (by omega) (Nat.le_refl _) (Nat.le_refl _) ?_
  refine V.aload_n (q := 599) C dL_law_598 rfl rfl ?_
  refine V.aload_nR (q := 600) C dL_law_599 rfl rfl ?_
  refine V.iload_n (q := 601) C dL_law_600 rfl rfl ?_
  refine V.iconst (q := 602) (v := nI 1) C dL_law_601 rfl (by decide) ?_
  refine V.iadd (q := 603) C dL_law_602 rfl ?_
  refine V.topi (x1 := nI (i + 1)) (nI_add _ _) ?_
  refine V.sld (q := 604) (i := (i + 1)) C X dL_law_603 rfl rfl (by omega) (by omega) ?_
  refine V.aload_nR (q := 605) C dL_law_604 rfl rfl ?_
  refine V.iload_n (q := 606) C dL_law_605 rfl rfl ?_
  refine V.iconst (q := 607) (v := nI 2) C dL_law_606 rfl (by decide) ?_
  refine V.iadd (q := 608) C dL_law_607 rfl ?_
  refine V.topi (x1 := nI (i + 2)) (nI_add _ _) ?_
  refine V.sld (q := 609) (i := (i + 2)) C X dL_law_608 rfl rfl (by omega) (by omega) ?_
  refine V.aload_nR (q := 610) C dL_law_609 rfl rfl ?_
  refine V.iload_n (q := 611) C dL_law_610 rfl rfl ?_
  refine V.iconst (q := 612) (v := nI 3) C dL_law_611 rfl (by decide) ?_
  refine V.iadd (q := 613) C dL_law_612 rfl ?_
  refine V.topi (x1 := nI (i + 3)) (nI_add _ _) ?_
  refine V.sld (q := 614) (i := (i + 3)) C X dL_law_613 rfl rfl (by omega) (by omega) ?_
  refine V.callVi (q := 617) C me_X10_see (m_see hW.1.1 hn hH.1.1.1 hH.1.1.2.1) ml_L_72 dL_law_614 rfl okM ⟨_, rfl⟩ rfl rfl (Nat.le_of_ble_eq_true rfl) (by omega) (Nat.le_refl _) (Nat.le_refl _) ?_
  refine V.icmp_eq (q := 620) (tgt := 1298) C dL_law_617 rfl rfl (fun hb617 => ?_) (fun hb617 => ?_)
  · exact kx _ ⟨_, _, _, _, _, _, _, _, _, _, _, _, _, _, _, _, _, _, _, _, (hV0.see hq hW hH), rfl⟩
  · exact absurd rfl hb617
set_option maxHeartbeats 1000000 in
theorem law_14 {l : Launch} {g : GG} {b L : Nat} {xs : Nat → Int32} {Γ : Cxt} {Q : State → Prop} {i : Nat} (C : Cx Γ g code x 4 ret 30 600000 7302250) (X : LX Γ g b L xs) (hi : i + 6 ≤ L) (hL : L ≤ 3072) {PH : PHp} (hS : ST g PH) (kx : ∀ PH1 : PHp, ST g PH1 → V l Γ g 4 Q 600000 7302250 NN PH1 1298 [some (.ref b), some (rf g (0, 0, 0)), some (rf g (22, 0, 0)), some (.int (nI i))] []) : V l Γ g 4 Q 600000 7302250 NN PH 622 [some (.ref b), some (rf g (0, 0, 0)), some (rf g (22, 0, 0)), some (.int (nI i))] [] := by
  obtain ⟨h0, ct, cl, rd, B, cy, rw, tl, sp, now, mind, th, tx, q, cv, hu, tr, tp, r, t, hV0, rfl⟩ := hS
  obtain ⟨⟨a1, a2, a3, a4, a5⟩, ⟨b1, b2, b3, b4⟩, ⟨n, m, c0, c1, c2, c3, hq, hW, hH⟩, ⟨d1, d2⟩, ⟨e1, e2⟩, hsp⟩ := id hV0
  have hSH := hV0.sh hW hq
  have hRu := hV0.ru hW hq
  have hn := hW.1.2.1
  have hm := hW.1.2.2.2.1
  have hCI := hW.2.2.2.1
  have hTR := hW.2.2.2.2.1
  refine V.aload_n (q := 623) C dL_law_622 rfl rfl ?_
  refine V.aload_nR (q := 624) C dL_law_623 rfl rfl ?_
  refine V.iload_n (q := 625) C dL_law_624 rfl rfl ?_
  refine V.iconst (q := 626) (v := nI 1) C dL_law_625 rfl (by decide) ?_
  refine V.iadd (q := 627) C dL_law_626 rfl ?_
  refine V.topi (x1 := nI (i + 1)) (nI_add _ _) ?_
  refine V.sld (q := 628) (i := (i + 1)) C X dL_law_627 rfl rfl (by omega) (by omega) ?_
  refine V.aload_nR (q := 629) C dL_law_628 rfl rfl ?_
  refine V.iload_n (q := 630) C dL_law_629 rfl rfl ?_
  refine V.iconst (q := 631) (v := nI 2) C dL_law_630 rfl (by decide) ?_
  refine V.iadd (q := 632) C dL_law_631 rfl ?_
  refine V.topi (x1 := nI (i + 2)) (nI_add _ _) ?_
  refine V.sld (q := 633) (i := (i + 2)) C X dL_law_632 rfl rfl (by omega) (by omega) ?_
  refine V.aload_nR (q := 634) C dL_law_633 rfl rfl ?_
  refine V.iload_n (q := 635) C dL_law_634 rfl rfl ?_
  refine V.iconst (q := 636) (v := nI 3) C dL_law_635 rfl (by decide) ?_
  refine V.iadd (q := 637) C dL_law_636 rfl ?_
  refine V.topi (x1 := nI (i + 3)) (nI_add _ _) ?_
  refine V.sld (q := 638) (i := (i + 3)) C X dL_law_637 rfl rfl (by omega) (by omega) ?_
  refine V.if_eq (q := 641) (tgt := 645) C dL_law_638 rfl rfl (fun hb638 => ?_) (fun hb638 => ?_)
  · refine V.iconst (q := 646) (v := nI 0) C dL_law_645 rfl (by decide) ?_
    refine V.callVi (q := 649) C me_X9_ache (c_ache hCI hH.2.1.2.2.1 hH.2.1.1.2.1) ml_L_73 dL_law_646 rfl okC_0 ⟨_, rfl⟩ rfl rfl (Nat.le_of_ble_eq_true rfl) (by omega) (Nat.le_refl _) (Nat.le_refl _) ?_
    refine V.aload_n (q := 650) C dL_law_649 rfl rfl ?_
    refine V.aload_nR (q := 651) C dL_law_650 rfl rfl ?_
    refine V.iload_n (q := 652) C dL_law_651 rfl rfl ?_
    refine V.iconst (q := 653) (v := nI 1) C dL_law_652 rfl (by decide) ?_
    refine V.iadd (q := 654) C dL_law_653 rfl ?_
    refine V.topi (x1 := nI (i + 1)) (nI_add _ _) ?_
    refine V.sld (q := 655) (i := (i + 1)) C X dL_law_654 rfl rfl (by omega) (by omega) ?_
    refine V.aload_nR (q := 656) C dL_law_655 rfl rfl ?_
    refine V.iload_n (q := 657) C dL_law_656 rfl rfl ?_
    refine V.iconst (q := 658) (v := nI 2) C dL_law_657 rfl (by decide) ?_
    refine V.iadd (q := 659) C dL_law_658 rfl ?_
    refine V.topi (x1 := nI (i + 2)) (nI_add _ _) ?_
    refine V.sld (q := 660) (i := (i + 2)) C X dL_law_659 rfl rfl (by omega) (by omega) ?_
    refine V.aload_nR (q := 661) C dL_law_660 rfl rfl ?_
    refine V.iload_n (q := 662) C dL_law_661 rfl rfl ?_
    refine V.iconst (q := 663) (v := nI 3) C dL_law_662 rfl (by decide) ?_
    refine V.iadd (q := 664) C dL_law_663 rfl ?_
    refine V.topi (x1 := nI (i + 3)) (nI_add _ _) ?_
    refine V.sld (q := 665) (i := (i + 3)) C X dL_law_664 rfl rfl (by omega) (by omega) ?_
    refine V.if_eq (q := 668) (tgt := 672) C dL_law_665 rfl rfl (fun hb665 => ?_) (fun hb665 => ?_)
    · refine V.iconst (q := 673) (v := nI 0) C dL_law_672 rfl (by decide) ?_
      refine V.callVi (q := 676) C me_X10_ache (m_ache hW.1.1 hn hH.2.1.1.1 hH.2.1.1.2.1) ml_L_77 dL_law_673 rfl okM ⟨_, rfl⟩ rfl rfl (Nat.le_of_ble_eq_true rfl) (by omega) (Nat.le_refl _) (Nat.le_refl _) ?_
      refine V.icmp_eq (q := 679) (tgt := 1298) C dL_law_676 rfl rfl (fun hb676 => ?_) (fun hb676 => ?_)
      · exact kx _ ⟨_, _, _, _, _, _, _, _, _, _, _, _, _, _, _, _, _, _, _, _, (hV0.ache hq hW hH), rfl⟩
      · exact absurd rfl hb676
    · exact absurd hb638 hb665
  · refine V.iconst (q := 642) (v := nI 1) C dL_law_641 rfl (by decide) ?_
    refine V.goto (tgt := 646) C dL_law_642 rfl ?_
    refine V.callVi (q := 649) C me_X9_ache (c_ache hCI hH.2.1.2.2.1 hH.2.1.1.2.1) ml_L_73 dL_law_646 rfl okC_0 ⟨_, rfl⟩ rfl rfl (Nat.le_of_ble_eq_true rfl) (by omega) (Nat.le_refl _) (Nat.le_refl _) ?_
    refine V.aload_n (q := 650) C dL_law_649 rfl rfl ?_
    refine V.aload_nR (q := 651) C dL_law_650 rfl rfl ?_
    refine V.iload_n (q := 652) C dL_law_651 rfl rfl ?_
    refine V.iconst (q := 653) (v := nI 1) C dL_law_652 rfl (by decide) ?_
    refine V.iadd (q := 654) C dL_law_653 rfl ?_
    refine V.topi (x1 := nI (i + 1)) (nI_add _ _) ?_
    refine V.sld (q := 655) (i := (i + 1)) C X dL_law_654 rfl rfl (by omega) (by omega) ?_
    refine V.aload_nR (q := 656) C dL_law_655 rfl rfl ?_
    refine V.iload_n (q := 657) C dL_law_656 rfl rfl ?_
    refine V.iconst (q := 658) (v := nI 2) C dL_law_657 rfl (by decide) ?_
    refine V.iadd (q := 659) C dL_law_658 rfl ?_
    refine V.topi (x1 := nI (i + 2)) (nI_add _ _) ?_
    refine V.sld (q := 660) (i := (i + 2)) C X dL_law_659 rfl rfl (by omega) (by omega) ?_
    refine V.aload_nR (q := 661) C dL_law_660 rfl rfl ?_
    refine V.iload_n (q := 662) C dL_law_661 rfl rfl ?_
    refine V.iconst (q := 663) (v := nI 3) C dL_law_662 rfl (by decide) ?_
    refine V.iadd (q := 664) C dL_law_663 rfl ?_
    refine V.topi (x1 := nI (i + 3)) (nI_add _ _) ?_
    refine V.sld (q := 665) (i := (i + 3)) C X dL_law_664 rfl rfl (by omega) (by omega) ?_
    refine V.if_eq (q := 668) (tgt := 672) C dL_law_665 rfl rfl (fun hb665 => ?_) (fun hb665 => ?_)
    · exact absurd hb665 hb638
    · refine V.iconst (q := 669) (v := nI 1) C dL_law_668 rfl (by decide) ?_
      refine V.goto (tgt := 673) C dL_law_669 rfl ?_
      refine V.callVi (q := 676) C me_X10_ache (m_ache hW.1.1 hn hH.2.1.1.1 hH.2.1.1.2.1) ml_L_77 dL_law_673 rfl okM ⟨_, rfl⟩ rfl rfl (Nat.le_of_ble_eq_true rfl) (by omega) (Nat.le_refl _) (Nat.le_refl _) ?_
      refine V.icmp_eq (q := 679) (tgt := 1298) C dL_law_676 rfl rfl (fun hb676 => ?_) (fun hb676 => ?_)
      · exact kx _ ⟨_, _, _, _, _, _, _, _, _, _, _, _, _, _, _, _, _, _, _, _, (hV0.ache hq hW hH), rfl⟩
      · exact absurd rfl hb676
set_option maxHeartbeats 1000000 in
theorem law_15 {l : Launch} {g : GG} {b L : Nat} {xs : Nat → Int32} {Γ : Cxt} {Q : State → Prop} {i : Nat} (C : Cx Γ g code x 4 ret 30 600000 7302250) (X : LX Γ g b L xs) (hi : i + 6 ≤ L) (hL : L ≤ 3072) {PH : PHp} (hS : ST g PH) (kx : ∀ PH1 : PHp, ST g PH1 → V l Γ g 4 Q 600000 7302250 NN PH1 1298 [some (.ref b), some (rf g (0, 0, 0)), some (rf g (22, 0, 0)), some (.int (nI i))] []) : V l Γ g 4 Q 600000 7302250 NN PH 681 [some (.ref b), some (rf g (0, 0, 0)), some (rf g (22, 0, 0)), some (.int (nI i))] [] := by
  obtain ⟨h0, ct, cl, rd, B, cy, rw, tl, sp, now, mind, th, tx, q, cv, hu, tr, tp, r, t, hV0, rfl⟩ := hS
  obtain ⟨⟨a1, a2, a3, a4, a5⟩, ⟨b1, b2, b3, b4⟩, ⟨n, m, c0, c1, c2, c3, hq, hW, hH⟩, ⟨d1, d2⟩, ⟨e1, e2⟩, hsp⟩ := id hV0
  have hSH := hV0.sh hW hq
  have hRu := hV0.ru hW hq
  have hn := hW.1.2.1
  have hm := hW.1.2.2.2.1
  have hCI := hW.2.2.2.1
  have hTR := hW.2.2.2.2.1
  refine V.aload_n (q := 682) C dL_law_681 rfl rfl ?_
  refine V.aload_nR (q := 683) C dL_law_682 rfl rfl ?_
  refine V.iload_n (q := 684) C dL_law_683 rfl rfl ?_
  refine V.iconst (q := 685) (v := nI 1) C dL_law_684 rfl (by decide) ?_
  refine V.iadd (q := 686) C dL_law_685 rfl ?_
  refine V.topi (x1 := nI (i + 1)) (nI_add _ _) ?_
  refine V.sld (q := 687) (i := (i + 1)) C X dL_law_686 rfl rfl (by omega) (by omega) ?_
  refine V.aload_nR (q := 688) C dL_law_687 rfl rfl ?_
  refine V.iload_n (q := 689) C dL_law_688 rfl rfl ?_
  refine V.iconst (q := 690) (v := nI 2) C dL_law_689 rfl (by decide) ?_
  refine V.iadd (q := 691) C dL_law_690 rfl ?_
  refine V.topi (x1 := nI (i + 2)) (nI_add _ _) ?_
  refine V.sld (q := 692) (i := (i + 2)) C X dL_law_691 rfl rfl (by omega) (by omega) ?_
  refine V.callVxi (q := 695) C me_X9_can (c_can hSH hCI hTR rfl hH.2.1.1 hH.2.1.2.1 hH.2.1.2.2) ml_L_78 dL_law_692 rfl okC_0 ⟨_, rfl⟩ rfl rfl (Nat.le_of_ble_eq_true rfl) (by omega) (Nat.le_refl _) (Nat.le_refl _) (fun z1 h1 => ?_)
  refine V.aload_n (q := 696) C dL_law_695 rfl rfl ?_
  refine V.aload_nR (q := 697) C dL_law_696 rfl rfl ?_
  refine V.iload_n (q := 698) C dL_law_697 rfl rfl ?_
  refine V.iconst (q := 699) (v := nI 1) C dL_law_698 rfl (by decide) ?_
  refine V.iadd (q := 700) C dL_law_699 rfl ?_
  refine V.topi (x1 := nI (i + 1)) (nI_add _ _) ?_
  refine V.sld (q := 701) (i := (i + 1)) C X dL_law_700 rfl rfl (by omega) (by omega) ?_
  refine V.aload_nR (q := 702) C dL_law_701 rfl rfl ?_
  refine V.iload_n (q := 703) C dL_law_702 rfl rfl ?_
  refine V.iconst (q := 704) (v := nI 2) C dL_law_703 rfl (by decide) ?_
  refine V.iadd (q := 705) C dL_law_704 rfl ?_
  refine V.topi (x1 := nI (i + 2)) (nI_add _ _) ?_
  refine V.sld (q := 706) (i := (i + 2)) C X dL_law_705 rfl rfl (by omega) (by omega) ?_
  refine V.callVxi (q := 709) C me_X10_can (m_can (q := (q, mind, cv, hu)) hW.1 hRu hH.2.1.1) ml_L_81 dL_law_706 rfl okM ⟨_, rfl⟩ rfl rfl (Nat.le_of_ble_eq_true rfl) (by omega) (Nat.le_refl _) (Nat.le_refl _) (fun z2 h2 => ?_)
  refine V.icmp_eq (q := 712) (tgt := 1298) C dL_law_709 rfl rfl (fun hb709 => ?_) (fun hb709 => ?_)
  · exact kx _ ⟨_, _, _, _, _, _, _, _, _, _, _, _, _, _, _, _, _, _, _, _, (hV0.scr z1.2.1 z1.2.2), rfl⟩
  · exact absurd rfl hb709
set_option maxHeartbeats 1000000 in
theorem law_16 {l : Launch} {g : GG} {b L : Nat} {xs : Nat → Int32} {Γ : Cxt} {Q : State → Prop} {i : Nat} (C : Cx Γ g code x 4 ret 30 600000 7302250) (X : LX Γ g b L xs) (hi : i + 6 ≤ L) (hL : L ≤ 3072) {PH : PHp} (hS : ST g PH) (kx : ∀ PH1 : PHp, ST g PH1 → V l Γ g 4 Q 600000 7302250 NN PH1 1298 [some (.ref b), some (rf g (0, 0, 0)), some (rf g (22, 0, 0)), some (.int (nI i))] []) : V l Γ g 4 Q 600000 7302250 NN PH 714 [some (.ref b), some (rf g (0, 0, 0)), some (rf g (22, 0, 0)), some (.int (nI i))] [] := by
  obtain ⟨h0, ct, cl, rd, B, cy, rw, tl, sp, now, mind, th, tx, q, cv, hu, tr, tp, r, t, hV0, rfl⟩ := hS
  obtain ⟨⟨a1, a2, a3, a4, a5⟩, ⟨b1, b2, b3, b4⟩, ⟨n, m, c0, c1, c2, c3, hq, hW, hH⟩, ⟨d1, d2⟩, ⟨e1, e2⟩, hsp⟩ := id hV0
  have hSH := hV0.sh hW hq
  have hRu := hV0.ru hW hq
  have hn := hW.1.2.1
  have hm := hW.1.2.2.2.1
  have hCI := hW.2.2.2.1
  have hTR := hW.2.2.2.2.1
  refine V.aload_n (q := 715) C dL_law_714 rfl rfl ?_
  refine V.aload_nR (q := 716) C dL_law_715 rfl rfl ?_
  refine V.iload_n (q := 717) C dL_law_716 rfl rfl ?_
  refine V.iconst (q := 718) (v := nI 1) C dL_law_717 rfl (by decide) ?_
  refine V.iadd (q := 719) C dL_law_718 rfl ?_
  refine V.topi (x1 := nI (i + 1)) (nI_add _ _) ?_
  refine V.sld (q := 720) (i := (i + 1)) C X dL_law_719 rfl rfl (by omega) (by omega) ?_
  refine V.aload_nR (q := 721) C dL_law_720 rfl rfl ?_
  refine V.iload_n (q := 722) C dL_law_721 rfl rfl ?_
  refine V.iconst (q := 723) (v := nI 2) C dL_law_722 rfl (by decide) ?_
  refine V.iadd (q := 724) C dL_law_723 rfl ?_
  refine V.topi (x1 := nI (i + 2)) (nI_add _ _) ?_
  refine V.sld (q := 725) (i := (i + 2)) C X dL_law_724 rfl rfl (by omega) (by omega) ?_
  refine V.aload_nR (q := 726) C dL_law_725 rfl rfl ?_
  refine V.iload_n (q := 727) C dL_law_726 rfl rfl ?_
  refine V.iconst (q := 728) (v := nI 3) C dL_law_727 rfl (by decide) ?_
  refine V.iadd (q := 729) C dL_law_728 rfl ?_
  refine V.topi (x1 := nI (i + 3)) (nI_add _ _) ?_
  refine V.sld (q := 730) (i := (i + 3)) C X dL_law_729 rfl rfl (by omega) (by omega) ?_
  refine V.aload_nR (q := 731) C dL_law_730 rfl rfl ?_
  refine V.iload_n (q := 732) C dL_law_731 rfl rfl ?_
  refine V.iconst (q := 733) (v := nI 4) C dL_law_732 rfl (by decide) ?_
  refine V.iadd (q := 734) C dL_law_733 rfl ?_
  refine V.topi (x1 := nI (i + 4)) (nI_add _ _) ?_
  refine V.sld (q := 735) (i := (i + 4)) C X dL_law_734 rfl rfl (by omega) (by omega) ?_
  refine V.callVxl (q := 738) C me_X9_odds (c_odds hSH hCI hTR rfl) ml_L_82 dL_law_735 rfl okC_0 ⟨_, rfl⟩ rfl rfl (Nat.le_of_ble_eq_true rfl) (by omega) (Nat.le_refl _) (Nat.le_refl _) (fun z1 h1 => ?_)
  refine V.aload_n (q := 739) C dL_law_738 rfl rfl ?_
  refine V.aload_nR (q := 740) C dL_law_739 rfl rfl ?_
  refine V.iload_n (q := 741) C dL_law_740 rfl rfl ?_
  refine V.iconst (q := 742) (v := nI 1) C dL_law_741 rfl (by decide) ?_
  refine V.iadd (q := 743) C dL_law_742 rfl ?_
  refine V.topi (x1 := nI (i + 1)) (nI_add _ _) ?_
  refine V.sld (q := 744) (i := (i + 1)) C X dL_law_743 rfl rfl (by omega) (by omega) ?_
  refine V.aload_nR (q := 745) C dL_law_744 rfl rfl ?_
  refine V.iload_n (q := 746) C dL_law_745 rfl rfl ?_
  refine V.iconst (q := 747) (v := nI 2) C dL_law_746 rfl (by decide) ?_
  refine V.iadd (q := 748) C dL_law_747 rfl ?_
  refine V.topi (x1 := nI (i + 2)) (nI_add _ _) ?_
  refine V.sld (q := 749) (i := (i + 2)) C X dL_law_748 rfl rfl (by omega) (by omega) ?_
  refine V.aload_nR (q := 750) C dL_law_749 rfl rfl ?_
  refine V.iload_n (q := 751) C dL_law_750 rfl rfl ?_
  refine V.iconst (q := 752) (v := nI 3) C dL_law_751 rfl (by decide) ?_
  refine V.iadd (q := 753) C dL_law_752 rfl ?_
  refine V.topi (x1 := nI (i + 3)) (nI_add _ _) ?_
  refine V.sld (q := 754) (i := (i + 3)) C X dL_law_753 rfl rfl (by omega) (by omega) ?_
  refine V.aload_nR (q := 755) C dL_law_754 rfl rfl ?_
  refine V.iload_n (q := 756) C dL_law_755 rfl rfl ?_
  refine V.iconst (q := 757) (v := nI 4) C dL_law_756 rfl (by decide) ?_
  refine V.iadd (q := 758) C dL_law_757 rfl ?_
  refine V.topi (x1 := nI (i + 4)) (nI_add _ _) ?_
  refine V.sld (q := 759) (i := (i + 4)) C X dL_law_758 rfl rfl (by omega) (by omega) ?_
  refine V.callVxl (q := 762) C me_X10_odds (m_odds (q := (q, mind, cv, hu)) hW.1 hRu) ml_L_86 dL_law_759 rfl okM ⟨_, rfl⟩ rfl rfl (Nat.le_of_ble_eq_true rfl) (by omega) (Nat.le_refl _) (Nat.le_refl _) (fun z2 h2 => ?_)
  refine V.lcmp (q := 763) C dL_law_762 rfl ?_
  refine V.if_eq (q := 766) (tgt := 1298) C dL_law_763 rfl rfl (fun hb763 => ?_) (fun hb763 => ?_)
  · exact kx _ ⟨_, _, _, _, _, _, _, _, _, _, _, _, _, _, _, _, _, _, _, _, (hV0.scr z1.2.1 z1.2.2), rfl⟩
  · exact absurd lg_self hb763
